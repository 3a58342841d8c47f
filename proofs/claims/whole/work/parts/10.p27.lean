/-! migrate: a site becomes a new call -/
section WL
variable {S : St} {A built parts : Arr} {x b q a f t u : Nat} {st : Nat → Nat}
theorem szs_mono (h : SiteP S A built parts x b q a st) (hf : f < 6) (hu : u ≤ 4) (hw : ∀ p : Nat, p < u → S.2.2.2.2.2.2.1.2.1 (4 * f + p) < (a : Int)) (y : Nat) : ∀ k : Nat, y + k ≤ u → szs S f st y + k ≤ szs S f st (y + k) := by
  intro k
  induction k with
  | zero => intro _; simp
  | succ k ih =>
    intro hk
    have i1 := ih (by omega)
    have hs : szs S f st (y + k + 1) = szs S f st (y + k) + (if S.2.2.2.2.2.2.1.2.1 (4 * f + (y + k)) = -1 then 1 else ((st ((S.2.2.2.2.2.2.1.2.1 (4 * f + (y + k))).toNat + 1) : Nat) : Int) - ((st (S.2.2.2.2.2.2.1.2.1 (4 * f + (y + k))).toNat : Nat) : Int)) := rfl
    have e : y + (k + 1) = y + k + 1 := by omega
    rw [e]
    by_cases hc : S.2.2.2.2.2.2.1.2.1 (4 * f + (y + k)) = -1
    · rw [if_pos hc] at hs
      omega
    · rw [if_neg hc] at hs
      obtain ⟨s, s1, s2, s3, s4, s5, s6⟩ := src_st h hf (by omega) (hw (y + k) (by omega)) hc
      rw [s1] at hs
      simp only [Int.toNat_natCast] at hs
      omega
theorem cp126 (bm pm total x2 x5 : Int) {q s e : Nat} (hq : q + s < 30) (hp : parts (q + s + 1) = (e : Int)) (he : e ≤ 30) : ∀ (m y4 y7 : Nat) (T : Arr), y7 + m = e → y4 + m ≤ 30 → ∃ T' : Arr, (∀ (fuel : Nat) (kx : Int → Arr → Option (Arr × Int × Arr × Int × Arr × Int)), m < fuel → X10_becomesNew_L126 kx A built bm parts pm total x2 (q : Int) x5 (s : Int) fuel (y4 : Int) (y7 : Int) T = kx ((y4 + m : Nat) : Int) T') ∧ (∀ j : Nat, j < y4 → T' j = T j) ∧ ∀ j : Nat, j < m → T' (y4 + j) = built (y7 + j) := by
  intro m
  induction m with
  | zero =>
    intro y4 y7 T h1 h3
    refine ⟨T, fun fuel kx h2 => ?_, fun _ _ => rfl, fun j hj => absurd hj (by omega)⟩
    obtain ⟨n, rfl⟩ : ∃ n, fuel = n + 1 := ⟨fuel - 1, by omega⟩
    rw [X10_becomesNew_L126, e_rd (by omega) (by omega), show ((q : Int) + (s : Int) + 1).toNat = q + s + 1 by omega, hp, e_LT (by omega) (by omega) (by omega) (by omega), if_neg (by omega)]
    rfl
  | succ m ih =>
    intro y4 y7 T h1 h3
    obtain ⟨T', g1, g2, g3⟩ := ih (y4 + 1) (y7 + 1) (upI T y4 (built y7)) (by omega) (by omega)
    refine ⟨T', fun fuel kx h2 => ?_, fun j hj => ?_, fun j hj => ?_⟩
    · obtain ⟨n, rfl⟩ : ∃ n, fuel = n + 1 := ⟨fuel - 1, by omega⟩
      have e1 : (y4 : Int) + 1 = ((y4 + 1 : Nat) : Int) := by omega
      have e2 : (y7 : Int) + 1 = ((y7 + 1 : Nat) : Int) := by omega
      have e3 : y4 + (m + 1) = y4 + 1 + m := by omega
      rw [X10_becomesNew_L126, e_rd (by omega) (by omega), show ((q : Int) + (s : Int) + 1).toNat = q + s + 1 by omega, hp, e_LT (by omega) (by omega) (by omega) (by omega), if_pos (by omega), e_rd (by omega) (by omega), e_wr (by omega) (by omega), show ((y7 : Int)).toNat = y7 by omega, show ((y4 : Int)).toNat = y4 by omega, e1, e2, e3]
      exact g1 n kx (by omega)
    · rw [g2 j (by omega), uI_ne (by omega)]
    · by_cases h0 : j = 0
      · subst h0
        rw [Nat.add_zero, Nat.add_zero, g2 y4 (by omega), uI_same]
      · have := g3 (j - 1) (by omega)
        have f1 : y4 + 1 + (j - 1) = y4 + j := by omega
        have f2 : y7 + 1 + (j - 1) = y7 + j := by omega
        rw [f1, f2] at this
        exact this
theorem cp182 (kx : Arr → Option (Arr × Int × Arr × Int × Arr × Int)) (bm pm total x3 : Int) (T : Arr) {n b : Nat} (hb : b + n ≤ 30) : ∀ (m fuel y : Nat) (g : Arr), y + m = n → m < fuel → ∃ g' : Arr, X10_becomesNew_L182 kx A bm parts pm T total x3 (n : Int) (b : Int) fuel (y : Int) g = kx g' ∧ (∀ j : Nat, j < b + y → g' j = g j) ∧ ∀ j : Nat, y ≤ j → j < n → g' (b + j) = T j := by
  intro m
  induction m with
  | zero =>
    intro fuel y g h1 h2
    obtain ⟨k, rfl⟩ : ∃ k, fuel = k + 1 := ⟨fuel - 1, by omega⟩
    refine ⟨g, ?_, fun _ _ => rfl, fun j hj1 hj2 => absurd hj1 (by omega)⟩
    rw [X10_becomesNew_L182, e_LT (by omega) (by omega) (by omega) (by omega), if_neg (by omega)]
  | succ m ih =>
    intro fuel y g h1 h2
    obtain ⟨k, rfl⟩ : ∃ k, fuel = k + 1 := ⟨fuel - 1, by omega⟩
    obtain ⟨g', a1, a2, a3⟩ := ih k (y + 1) (upI g (b + y) (T y)) (by omega) (by omega)
    refine ⟨g', ?_, fun j hj => ?_, fun j hj1 hj2 => ?_⟩
    · have e1 : (y : Int) + 1 = ((y + 1 : Nat) : Int) := by omega
      rw [X10_becomesNew_L182, e_LT (by omega) (by omega) (by omega) (by omega), if_pos (by omega), e_rd (by omega) (by omega), e_wr (by omega) (by omega), show ((y : Int)).toNat = y by omega, show ((b : Int) + (y : Int)).toNat = b + y by omega, e1]
      exact a1
    · rw [a2 j (by omega), uI_ne (by omega)]
    · by_cases hj : j = y
      · subst hj
        rw [a2 (b + j) (by omega), uI_same]
      · exact a3 j (by omega) hj2
theorem cpI_at {f g : Arr} {sp dp n j : Nat} (h : j < n) : cpI f g sp dp n (dp + j) = f (sp + j) := by
  unfold cpI
  rw [if_pos (by omega)]
  exact congrArg f (by omega)
theorem cpI_lo {f g : Arr} {sp dp n j : Nat} (h : j < dp) : cpI f g sp dp n j = g j := by
  unfold cpI
  rw [if_neg (by omega)]
theorem cpI_hi {f g : Arr} {sp dp n j : Nat} (h : dp + n ≤ j) : cpI f g sp dp n j = g j := by
  unfold cpI
  rw [if_neg (by omega)]
def rpl (f g : Arr) (x e n len : Nat) : Arr := cpI g (cpI f f e (x + n) len) 0 x n
theorem rpl_lo {f g : Arr} {x e n len j : Nat} (h : j < x) : rpl f g x e n len j = f j := by
  unfold rpl
  rw [cpI_lo h, cpI_lo (by omega)]
theorem rpl_mid {f g : Arr} {x e n len j : Nat} (h : j < n) : rpl f g x e n len (x + j) = g j := by
  unfold rpl
  rw [cpI_at h, Nat.zero_add]
theorem rpl_hi {f g : Arr} {x e n len j : Nat} (h : j < len) : rpl f g x e n len (x + n + j) = f (e + j) := by
  unfold rpl
  rw [cpI_hi (by omega), cpI_at h]
theorem replIn_eq {f g : Arr} {x e n len : Nat} (h1 : e + len ≤ 30) (h2 : x + n + len ≤ 30) : X6_replaceIn 30 30 f g (e : Int) (len : Int) (x : Int) (n : Int) = some (rpl f g x e n len) := by
  unfold X6_replaceIn rpl
  rw [e_cp (by omega) (by omega) (by omega) (by omega) (by omega), e_cp (by omega) (by omega) (by omega) (by omega) (by omega), show ((e : Int)).toNat = e by omega, show ((x : Int) + (n : Int)).toNat = x + n by omega, show ((len : Int)).toNat = len by omega, show ((x : Int)).toNat = x by omega, show ((n : Int)).toNat = n by omega, show ((0 : Int)).toNat = 0 from rfl]
theorem repl_eq {P R : Pg} {x e n len : Nat} (hP : P.1 = ((e + len : Nat) : Int)) (hR : R.1 = (n : Int)) (hx : x ≤ e) (h1 : e + len ≤ 30) (h2 : x + n + len ≤ 30) : X6_replace P R (x : Int) (e : Int) = some (((x + n + len : Nat) : Int), rpl P.2.1 R.2.1 x e n len, rpl P.2.2.1 R.2.2.1 x e n len, rpl P.2.2.2 R.2.2.2 x e n len) := by
  have e1 : ((e + len : Nat) : Int) - (e : Int) = (len : Int) := by omega
  have e2 : (x : Int) + (n : Int) + (len : Int) = ((x + n + len : Nat) : Int) := by omega
  unfold X6_replace
  rw [hP, hR, e1, e2, e_LT (by omega) (by omega) (by omega) (by omega), if_neg (by omega), e_LT (by omega) (by omega) (by omega) (by omega), if_neg (by omega), e_LT (by omega) (by omega) (by omega) (by omega), if_neg (by omega), e_LE (by omega) (by omega) (by omega) (by omega), if_pos (by omega), replIn_eq h1 h2, Option.bind_some, replIn_eq h1 h2, Option.bind_some, replIn_eq h1 h2, Option.bind_some]
end WL
