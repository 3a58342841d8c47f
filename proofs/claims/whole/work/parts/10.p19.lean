/-! parse: the whole call -/
theorem put_prog (kx : Arr → Option PRes) (saved : Arr) (sm : Int) (text : Arr) (L : Int) (rdd : Arr) {N : Nat} (hN : N ≤ 30) (w : Arr) (o p : Int) (A0 : Arr) : ∀ (k fuel y : Nat) (g : Arr), y + k = N → k < fuel → (∀ j : Nat, g j = if 149 ≤ j ∧ j < 149 + y then rdd (j - 149) else A0 j) → ∃ g' : Arr, X10_parse_L62 kx saved sm text L rdd (N : Int) w o p fuel (y : Int) g = kx g' ∧ ∀ j : Nat, g' j = if 149 ≤ j ∧ j < 149 + N then rdd (j - 149) else A0 j := by
  intro k
  induction k with
  | zero =>
    intro fuel y g h1 h2 h3
    obtain ⟨q, rfl⟩ : ∃ q, fuel = q + 1 := ⟨fuel - 1, by omega⟩
    refine ⟨g, ?_, by rw [← h1]; exact h3⟩
    rw [X10_parse_L62, e_LT (by omega) (by omega) (by omega) (by omega), if_neg (by omega)]
  | succ k ih =>
    intro fuel y g h1 h2 h3
    obtain ⟨q, rfl⟩ : ∃ q, fuel = q + 1 := ⟨fuel - 1, by omega⟩
    obtain ⟨g', a1, a2⟩ := ih q (y + 1) (upI g (149 + y) (rdd y)) (by omega) (by omega) (by
      intro j
      by_cases hj : j = 149 + y
      · rw [hj, uI_same, if_pos (by omega)]
        exact congrArg rdd (by omega)
      · rw [uI_ne hj, h3 j]
        by_cases h4 : 149 ≤ j ∧ j < 149 + y
        · rw [if_pos h4, if_pos (by omega)]
        · rw [if_neg h4, if_neg (by omega)])
    refine ⟨g', ?_, a2⟩
    have e1 : ((y : Int)).toNat = y := by omega
    have e2 : (149 + (y : Int)).toNat = 149 + y := by omega
    rw [X10_parse_L62, e_LT (by omega) (by omega) (by omega) (by omega), if_pos (by omega), e_rd (by omega) (by omega), e_wr (by omega) (by omega), e1, e2]
    exact a1
theorem RS.withProg {S : St} {A B : Arr} (hS : RS S A) {P : Pg} (hB : ∀ j : Nat, j < 148 ∨ 178 < j → B j = A j) (hP : RPg P S.2.2.2.1 B) : RS (S.1, S.2.1, S.2.2.1, S.2.2.2.1, S.2.2.2.2.1, S.2.2.2.2.2.1, S.2.2.2.2.2.2.1, P, S.2.2.2.2.2.2.2.2) B := by
  obtain ⟨h1, h2, h3, h4, h5, h6, h7⟩ := hS
  exact ⟨h1.congr (fun j _ hj => hB j (by omega)) (by decide) agr.rfl, h2.congr (fun j _ hj => hB j (by omega)) (by decide) agr.rfl, h3.congrA (fun j _ hj => hB j (by omega)), ⟨(hB 147 (by omega)).trans h4.1, h4.2⟩, h5.congrA (fun j _ hj => hB j (by omega)), hP, h7.congrA (fun j _ hj => hB j (by omega))⟩
def PKX (all saved : Arr) (sm : Int) (text : Arr) (L : Int) : Arr → Int → Arr → Int → Int → Option PRes := fun w3 w4 w5 w6 w7 => brLT w7 L (some (((-10) - w7), all, saved, sm, w3, w4, w5, w6, w7)) ((X10_save all saved sm).bind (fun w8 => X10_parse_L62 (fun w12 => wrK 186 w12 148 w4 (fun f13 => some (w4, f13, w8.1, w8.2, w3, w4, w5, w6, w7))) w8.1 w8.2 text L w3 w4 w5 w6 w7 FU 0 all))
theorem parse_LP (all saved : Arr) (sm : Int) (text : Arr) (L : Int) (rdd : Arr) (rm : Int) (w : Arr) (o p : Int) : X10_parse all saved sm text L rdd rm w o p = LPq (PKX all saved sm text L) all saved text sm L rdd 0 w 0 0 := rfl
theorem sim_parse (i : Int) (C : CM) (M : MT) (_ : 0 ≤ i) (_ : i ≤ 2048) (hR : REL i C M) : ∃ (r : Int) (C' : CM) (M' : MT), cm_parse C = some (r, C') ∧ rm_parse M = some (r, M') ∧ REL (i + 4) C' M' := by
  obtain ⟨hS, hH, hI, hEr⟩ := hR
  obtain ⟨i1, i2, i3, i4⟩ := hI
  have hX : PX C.1 M.1 C.2.2.1.1 M.2.2.2.2.1 C.2.2.1.2.1 := ⟨hS, i2, i3, i4⟩
  obtain ⟨h', g, s1, s2, s3⟩ := save_sim hS hH
  unfold cm_parse rm_parse X9_parse X3_readProgram
  rw [parse_LP, i1]
  have ho := exp_all (kx := PKX M.1 M.2.1 M.2.2.1 M.2.2.2.2.1 C.2.2.1.2.1) (saved := M.2.1) (sm := M.2.2.1) hX 40 (0, C.2.2.2.1.2.1, C.2.2.2.1.2.2.1, C.2.2.2.1.2.2.2) M.2.2.2.2.2.2.1 M.2.2.2.2.2.2.2.2.1 0 0 (Int.le_refl _) i2 ⟨Int.le_refl _, by show (0 : Int) ≤ 30; decide, fun k hk => absurd hk (by show ¬ (k < (0 : Int).toNat); omega)⟩ (Nat.le_refl _) (Int.le_refl _) (Int.le_refl _)
  rcases ho with ⟨p', P', r', h1, h2⟩ | ⟨p', P', rdd', w', h1, q0, q1, h3, h4, h5, h6, h7, h8, h9⟩
  · rw [h1, h2, Option.bind_some, e_b0, Option.bind_some, e_b0]
    exact ⟨-10 - p', _, _, rfl, rfl, hS, hH, ⟨rfl, i2, i3, i4⟩, hEr.mono⟩
  · rw [h1, Option.bind_some, e_b1]
    have h9' : LPq (PKX M.1 M.2.1 M.2.2.1 M.2.2.2.2.1 C.2.2.1.2.1) M.1 M.2.1 M.2.2.2.2.1 M.2.2.1 C.2.2.1.2.1 M.2.2.2.2.2.2.1 0 M.2.2.2.2.2.2.2.2.1 0 0 = _ := h9
    rw [h9', kk_zero]
    unfold PKX
    show ∃ (r : Int) (C' : CM) (M' : MT), (Option.bind (brEQ p' C.2.2.1.2.1 _ _) _) = _ ∧ _
    rw [e_EQ (by omega) (by omega) (by omega) (by omega), e_LT (by omega) (by omega) (by omega) (by omega)]
    by_cases hpL : p' = C.2.2.1.2.1
    · rw [if_pos hpL, if_neg (by omega), Option.bind_some, e_b1, s1, s2, Option.bind_some, Option.bind_some]
      have n0 := h3.1
      have n1 := h3.2.1
      obtain ⟨P2, c1, c2⟩ := X6_copyFrom_spec C.1.2.2.2.2.2.2.2.1 P' n0 n1
      obtain ⟨g2, d1, d2⟩ := put_prog (fun w12 => wrK 186 w12 148 P'.1 (fun f13 => some (P'.1, f13, g, h'.2.1, rdd', P'.1, w', 0, p'))) g h'.2.1 M.2.2.2.2.1 C.2.2.1.2.1 rdd' (N := P'.1.toNat) (by omega) w' 0 p' M.1 P'.1.toNat FU 0 M.1 (by omega) (by rw [FU_eq]; omega) (by intro j; rw [if_neg (by omega)])
      have eN : ((P'.1.toNat : Nat) : Int) = P'.1 := by omega
      have e00 : ((0 : Nat) : Int) = 0 := rfl
      rw [eN, e00] at d1
      dsimp only
      rw [d1, c1, Option.bind_some, e_wr (by decide) (by decide)]
      have hPB : RPg P' C.1.2.2.2.1 (upI g2 148 P'.1) := by
        have h4' : 0 < P'.1 := h4
        have hc0 : cnt C.2.2.2.1.2.2.2 (0 : Int).toNat - 1 = 0 := rfl
        have h6' : cnt P'.2.2.2 P'.1.toNat = 0 := h6
        refine ⟨by omega, n1, uI_same _, fun k hk => ?_, fun k hk => ?_, h6'⟩
        · rw [uI_ne (by omega), d2, if_pos (by omega)]
          have := h3.2.2 k hk
          have e : 149 + k - 149 = k := by omega
          rw [e]
          exact this
        · exact h7 k (Nat.zero_le _) hk
      have hB : ∀ j : Nat, j < 148 ∨ 178 < j → upI g2 148 P'.1 j = M.1 j := by
        intro j hj
        rw [uI_ne (by omega), d2, if_neg (by omega)]
      have hfin := hS.withProg hB (hPB.congr (fun _ _ => rfl) c2)
      rw [← c2.1]
      rw [← c2.1] at hfin
      exact ⟨P2.1, _, _, rfl, rfl, hfin, s3, ⟨rfl, i2, i3, i4⟩, hEr.mono⟩
    · rw [if_neg hpL, if_pos (by omega), Option.bind_some, e_b0]
      exact ⟨-10 - p', _, _, rfl, rfl, hS, hH, ⟨rfl, i2, i3, i4⟩, hEr.mono⟩
