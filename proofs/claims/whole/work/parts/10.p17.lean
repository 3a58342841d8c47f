/-! parse: an expression -/
def PR (m : Int) (P : Pg) (rdd : Arr) : Prop := 0 ≤ P.1 ∧ P.1 ≤ 30 ∧ ∀ k : Nat, k < P.1.toNat → nodeOK m (P.2.1 k) (P.2.2.1 k) (P.2.2.2 k) (rdd k)
theorem PR.add {m : Int} {P : Pg} {rdd : Arr} (h : PR m P rdd) (h1 : P.1 < 30) {a b c x : Int} (hn : nodeOK m a b c x) : PR m (adP P a b c) (upI rdd P.1.toNat x) := by
  have h0 := h.1
  refine ⟨by show 0 ≤ P.1 + 1; omega, by show P.1 + 1 ≤ 30; omega, fun k hk => ?_⟩
  have hk' : k < P.1.toNat + 1 := by have : k < (P.1 + 1).toNat := hk; omega
  show nodeOK m (upI P.2.1 P.1.toNat a k) (upI P.2.2.1 P.1.toNat b k) (upI P.2.2.2 P.1.toNat c k) (upI rdd P.1.toNat x k)
  by_cases e : k = P.1.toNat
  · subst e
    rw [uI_same, uI_same, uI_same, uI_same]
    exact hn
  · rw [uI_ne e, uI_ne e, uI_ne e, uI_ne e]
    exact h.2.2 k (by omega)
theorem cnt_ad0 (P : Pg) (a b c : Int) (k : Nat) (hk : k ≤ P.1.toNat) : cnt (adP P a b c).2.2.2 k = cnt P.2.2.2 k := cnt_congr (fun j hj => by show upI P.2.2.2 P.1.toNat c j = _; exact uI_ne (by omega))
theorem cnt_ad1 (P : Pg) (a b c : Int) (h0 : 0 ≤ P.1) : cnt (adP P a b c).2.2.2 (adP P a b c).1.toNat = cnt P.2.2.2 P.1.toNat - 1 + c := by
  have e : (adP P a b c).1.toNat = P.1.toNat + 1 := by show (P.1 + 1).toNat = _; omega
  rw [e]
  show cnt (adP P a b c).2.2.2 P.1.toNat - 1 + upI P.2.2.2 P.1.toNat c P.1.toNat = _
  rw [cnt_ad0 P a b c _ (Nat.le_refl _), uI_same]
section EX
variable (kx : Arr → Int → Arr → Int → Int → Option PRes) (A saved text : Arr) (sm L : Int) (f : Arr) (m : Int)
def Out (o : Int) (P0 : Pg) (w0 : Arr) (d : Int) (cls : Option (Int × In × Pg)) (ref : Option PRes) : Prop :=
  (∃ (p' : Int) (P' : Pg) (r' : Arr × Int × Arr × Int × Int), cls = some (0, (f, L, p'), P') ∧ ref = some (-10 - p', A, saved, sm, r'.1, r'.2.1, r'.2.2.1, r'.2.2.2.1, p')) ∨
  (∃ (p' : Int) (P' : Pg) (rdd' w' : Arr), cls = some (1, (f, L, p'), P') ∧ 0 ≤ p' ∧ p' ≤ L ∧ PR m P' rdd' ∧ P0.1 < P'.1 ∧ (∀ j : Nat, j < P0.1.toNat → P'.2.2.2 j = P0.2.2.2 j) ∧ cnt P'.2.2.2 P'.1.toNat = d ∧ (∀ i : Nat, P0.1.toNat ≤ i → i < P'.1.toNat → d + 1 ≤ cnt P'.2.2.2 i) ∧ (∀ j : Nat, j < o.toNat → w' j = w0 j) ∧ ref = KK kx A saved text sm L rdd' P'.1 w' o p')
def ExpP (S : St) (n : Nat) : Prop := ∀ (P : Pg) (rdd w : Arr) (o p : Int), 0 ≤ p → p ≤ L → PR m P rdd → 40 ≤ n + P.1.toNat → 0 ≤ o → o ≤ P.1 → Out kx A saved text sm L f m o P w (cnt P.2.2.2 P.1.toNat - 1) (X3_readExpression n S (f, L, p) P) (LPq kx A saved text sm L rdd P.1 w o p)
variable {kx A saved text sm L f m}
theorem Out.bo {o : Int} {P0 : Pg} {w0 : Arr} {d : Int} {cls : Option (Int × In × Pg)} {ref : Option PRes} (h : Out kx A saved text sm L f m o P0 w0 d cls ref) : Out kx A saved text sm L f m o P0 w0 d (cls.bind (fun w12 => boK w12.1 (some (w12.1, w12.2.1, w12.2.2)))) ref := by
  rcases h with ⟨p', P', r', h1, h2⟩ | ⟨p', P', rdd', w', h1, h2⟩
  · refine Or.inl ⟨p', P', r', ?_, h2⟩
    rw [h1, Option.bind_some, e_bo' (Or.inl rfl)]
  · refine Or.inr ⟨p', P', rdd', w', ?_, h2⟩
    rw [h1, Option.bind_some, e_bo' (Or.inr rfl)]
variable {S : St}
abbrev KA : In → Pg → Option (Int × In × Pg) := fun w15 w16 => (X3_take w15 41).bind (fun w17 => boK w17.1 (some (w17.1, w17.2, w16)))
theorem arg_loop (hX : PX S A f text L) {n : Nat} (hE : ExpP kx A saved text sm L f m S n) {o : Int} (o0 : 0 ≤ o) (o1 : o < 30) {P0 : Pg} {w0 : Arr} {d a : Int} (a0 : 1 ≤ a) (a1 : a ≤ 4) (hp0 : 0 ≤ P0.1) : ∀ (k : Nat) (fuel : Nat) (y : Int) (P : Pg) (rdd w : Arr) (p : Int), y + k = a → 1 ≤ y → k < fuel → 0 ≤ p → p ≤ L → PR m P rdd → 40 ≤ n + P.1.toNat → o + 1 ≤ P.1 → P0.1 < P.1 → (∀ j : Nat, j < P0.1.toNat → P.2.2.2 j = P0.2.2.2 j) → cnt P.2.2.2 P.1.toNat = d + k → (∀ i : Nat, P0.1.toNat ≤ i → i < P.1.toNat → d + 1 ≤ cnt P.2.2.2 i) → (∀ j : Nat, j < o.toNat → w j = w0 j) → w o.toNat = k + 1 → Out kx A saved text sm L f m o P0 w0 d (X3_readCall_L48 KA (X3_readExpression n) S a fuel y (f, L, p) P) (KK kx A saved text sm L rdd P.1 w (o + 1) p) := by
  intro k
  induction k with
  | zero =>
    intro fuel y P rdd w p hy y1 hfu p0 p1 hP hn hoP hPP hag hcnt hall hw hwo
    obtain ⟨fu, rfl⟩ : ∃ q, fuel = q + 1 := ⟨fuel - 1, by omega⟩
    rw [X3_readCall_L48, e_LT (by omega) (by omega) (by omega) (by omega), if_neg (by omega), kk_one kx A saved text sm L hX p0 p1 o0 o1 (by rw [hwo]; rfl)]
    show Out kx A saved text sm L f m o P0 w0 d ((X3_take (f, L, p) 41).bind _) _
    rw [take_eq hX p0 p1 (by decide) (by decide), Option.bind_some]
    by_cases hc : hr f L p = 41
    · rw [if_pos hc, if_pos hc]
      have hl := hr_lt hc (by decide)
      refine Or.inr ⟨p + 1, P, rdd, _, ?_, by omega, by omega, hP, hPP, hag, by omega, hall, ?_, rfl⟩
      · rw [e_bo' (Or.inr rfl)]
      · intro j hj
        rw [uI_ne (by omega)]
        exact hw j hj
    · rw [if_neg hc, if_neg hc]
      refine Or.inl ⟨p, P, (rdd, P.1, upI w o.toNat 0, o + 1, p), ?_, rfl⟩
      rw [e_bo' (Or.inl rfl)]
  | succ k ih =>
    intro fuel y P rdd w p hy y1 hfu p0 p1 hP hn hoP hPP hag hcnt hall hw hwo
    obtain ⟨fu, rfl⟩ : ∃ q, fuel = q + 1 := ⟨fuel - 1, by omega⟩
    have hv : w o.toNat = ((k + 2 : Nat) : Int) := by rw [hwo]; omega
    rw [X3_readCall_L48, e_LT (by omega) (by omega) (by omega) (by omega), if_pos (by omega), e_lt, e_LE (by omega) (by omega) (by decide) (by decide), if_neg (by omega), kk_two kx A saved text sm L hX p0 p1 o0 o1 hv (by omega) (by omega), take_eq hX p0 p1 (by decide) (by decide), Option.bind_some]
    by_cases hc : hr f L p = 44
    · rw [if_pos hc, if_pos hc]
      have hl := hr_lt hc (by decide)
      dsimp only
      rw [e_b1]
      have hx := hE P rdd (upI w o.toNat (((k + 2 : Nat) : Int) - 1)) (o + 1) (p + 1) (by omega) (by omega) hP hn (by omega) hoP
      rcases hx with ⟨p', P', r', h1, h2⟩ | ⟨p', P', rdd', w', h1, q0, q1, h3, h4, h5, h6, h7, h8, h9⟩
      · rw [h1, h2, Option.bind_some, e_b0]
        exact Or.inl ⟨p', P', r', rfl, rfl⟩
      · rw [h1, h9, Option.bind_some, e_b1]
        refine ih fu (y + 1) P' rdd' w' p' (by omega) (by omega) (by omega) q0 q1 h3 (by omega) (by omega) (by omega) (fun j hj => (h5 j (by omega)).trans (hag j hj)) (by rw [h6]; omega) ?_ ?_ ?_
        · intro i hi0 hi1
          by_cases hi : i < P.1.toNat
          · rw [cnt_congr (b := P.2.2.2) (fun j hj => h5 j (by omega))]
            exact hall i hi0 hi
          · have := h7 i (by omega) hi1
            omega
        · intro j hj
          rw [h8 j (by omega), uI_ne (by omega)]
          exact hw j hj
        · rw [h8 o.toNat (by omega), uI_same]
          omega
    · rw [if_neg hc, if_neg hc]
      dsimp only
      rw [e_b0]
      exact Or.inl ⟨p, P, (rdd, P.1, _, o + 1, p), rfl, rfl⟩
/-- a call, from its letter on -/
theorem call_out (hX : PX S A f text L) {n : Nat} (hE : ExpP kx A saved text sm L f m S n) {o : Int} (o0 : 0 ≤ o) {P : Pg} {rdd w : Arr} {p a kd nm nn : Int} (hP : PR m P rdd) (hP30 : P.1 < 30) (hn : 40 ≤ n + 1 + P.1.toNat) (hoP : o ≤ P.1) (p0 : 0 ≤ p) (p1 : p < L) (a0 : 30000 ≤ a) (a1 : a ≤ 60000) (f0 : 0 ≤ fnAt a) (f1 : fnAt a < 186) (hnn : A (fnAt a).toNat = nn) (n0 : 0 ≤ nn) (n1 : nn ≤ 4) (hok : nodeOK m kd nm nn (a + nn)) : Out kx A saved text sm L f m o P w (cnt P.2.2.2 P.1.toNat - 1) (CBody (X3_readExpression n) S (f, L, p) P kd nm nn) ((RQ9 A text L rdd P.1 w o (a, p + 1)).bind (NX kx A saved text sm L (1000 - (P.1 + 1).toNat))) := by
  have q0 := hP.1
  rw [rq_call hX (by omega) (by omega) q0 hP30 o0 (by omega) a0 a1 f0 f1 hnn n0 n1]
  unfold CBody
  show Out kx A saved text sm L f m o P w _ ((X3_take (f, L, p + 1) 40).bind _) _
  rw [take_eq hX (by omega) (by omega) (by decide) (by decide), Option.bind_some]
  by_cases hc : hr f L (p + 1) = 40
  · have hl := hr_lt hc (by decide)
    have e2 : p + 1 + 1 = p + 2 := by omega
    have e3 : p + 1 + 2 = p + 3 := by omega
    rw [if_pos hc, if_pos hc]
    dsimp only
    rw [e_b1, add_ad _ _ _ _ q0 hP30, Option.bind_some, e_b1, e2, e3]
    by_cases hz : nn ≤ 0
    · have hz0 : nn = 0 := by omega
      subst hz0
      rw [if_pos (by decide)]
      show Out kx A saved text sm L f m o P w _ (X3_readCall_L48 KA (X3_readExpression n) S 0 FU 0 (f, L, p + 2) (adP P kd nm 0)) _
      rw [FU_eq, X3_readCall_L48, e_LT (by decide) (by decide) (by decide) (by decide), if_neg (by decide)]
      show Out kx A saved text sm L f m o P w _ ((X3_take (f, L, p + 2) 41).bind _) _
      rw [take_eq hX (by omega) (by omega) (by decide) (by decide), Option.bind_some]
      by_cases hc2 : hr f L (p + 2) = 41
      · have hl2 := hr_lt hc2 (by decide)
        rw [if_pos hc2, if_pos hc2]
        refine Or.inr ⟨p + 3, adP P kd nm 0, upI rdd P.1.toNat (a + 0), w, ?_, by omega, by omega, hP.add hP30 hok, by show P.1 < P.1 + 1; omega, ?_, by rw [cnt_ad1 P _ _ _ q0]; omega, ?_, fun _ _ => rfl, rfl⟩
        · have e4 : p + 2 + 1 = p + 3 := by omega
          rw [e_bo' (Or.inr rfl), e4]
        · intro j hj
          show upI P.2.2.2 P.1.toNat 0 j = _
          exact uI_ne (by omega)
        · intro i hi0 hi1
          have hi1' : i < (P.1 + 1).toNat := hi1
          have : i = P.1.toNat := by omega
          subst this
          rw [cnt_ad0 P _ _ _ _ (Nat.le_refl _)]
          omega
      · rw [if_neg hc2, if_neg hc2]
        refine Or.inl ⟨p + 2, adP P kd nm 0, (upI rdd P.1.toNat (a + 0), P.1 + 1, w, o, p + 2), ?_, ?_⟩
        · rw [e_bo' (Or.inl rfl)]
        · rw [Option.bind_some, nx_fail]
    · rw [if_neg hz, Option.bind_some, nx_go kx A saved text sm L _ _ _ _ _ (by omega) (by omega), if_neg (by omega)]
      show Out kx A saved text sm L f m o P w _ (X3_readCall_L48 KA (X3_readExpression n) S nn FU 0 (f, L, p + 2) (adP P kd nm nn)) (LPq kx A saved text sm L (upI rdd P.1.toNat (a + nn)) (P.1 + 1) (upI w o.toNat nn) (o + 1) (p + 2))
      rw [FU_eq, X3_readCall_L48, e_LT (by decide) (by decide) (by omega) (by omega), if_pos (by omega), e_lt, e_LE (by decide) (by decide) (by decide) (by decide), if_pos (by decide)]
      dsimp only
      have hx := hE (adP P kd nm nn) (upI rdd P.1.toNat (a + nn)) (upI w o.toNat nn) (o + 1) (p + 2) (by omega) (by omega) (hP.add hP30 hok) (by show 40 ≤ n + (P.1 + 1).toNat; omega) (by omega) (by show o + 1 ≤ P.1 + 1; omega)
      have hx' : Out kx A saved text sm L f m (o + 1) (adP P kd nm nn) (upI w o.toNat nn) _ _ (LPq kx A saved text sm L (upI rdd P.1.toNat (a + nn)) (P.1 + 1) (upI w o.toNat nn) (o + 1) (p + 2)) := hx
      rw [cnt_ad1 P _ _ _ q0] at hx'
      rcases hx' with ⟨p', P', r', h1, h2⟩ | ⟨p', P', rdd', w', h1, g0, g1, h3, h4, h5, h6, h7, h8, h9⟩
      · rw [h1, h2, Option.bind_some, e_b0]
        exact Or.inl ⟨p', P', r', rfl, rfl⟩
      · rw [h1, h9, Option.bind_some, e_b1]
        have h4' : P.1 + 1 < P'.1 := h4
        have h5' : ∀ j : Nat, j < (P.1 + 1).toNat → P'.2.2.2 j = upI P.2.2.2 P.1.toNat nn j := h5
        have h7' : ∀ i : Nat, (P.1 + 1).toNat ≤ i → i < P'.1.toNat → _ := h7
        refine arg_loop hX hE o0 (by omega) (by omega) n1 q0 (nn - 1).toNat 999 1 P' rdd' w' p' (by omega) (by decide) (by omega) g0 g1 h3 (by omega) (by omega) (by omega) ?_ (by rw [h6]; omega) ?_ ?_ ?_
        · intro j hj
          rw [h5' j (by omega), uI_ne (by omega)]
        · intro i hi0 hi1
          by_cases hi : i = P.1.toNat
          · rw [cnt_congr (b := (adP P kd nm nn).2.2.2) (fun j hj => h5' j (by omega)), cnt_ad0 P _ _ _ i (by omega), hi]
            omega
          · have := h7' i (by omega) hi1
            omega
        · intro j hj
          rw [h8 j (by omega), uI_ne (by omega)]
        · rw [h8 o.toNat (by omega), uI_same]
          omega
  · rw [if_neg hc, if_neg hc]
    dsimp only
    rw [e_b0, Option.bind_some, nx_fail]
    exact Or.inl ⟨p + 1, P, (rdd, P.1, w, o, p + 1), rfl, rfl⟩
end EX
