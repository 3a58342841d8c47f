/-! migrate: the new call is built -/
section WM
variable {S : St} {A built parts : Arr} {x b q a f t u : Nat} {st : Nat → Nat}
def NInv (S : St) (f : Nat) (st : Nat → Nat) (u y : Nat) (R : Pg) (T : Arr) : Prop := R.1 = 1 + szs S f st y ∧ (∀ j : Nat, j < R.1.toNat → nodeOK S.2.2.2.1 (R.2.1 j) (R.2.2.1 j) (R.2.2.2 j) (T j)) ∧ (∀ j : Nat, j < R.1.toNat → 1 ≤ cnt R.2.2.2 j) ∧ cnt R.2.2.2 R.1.toNat = (u : Int) - y
theorem new_loop (h : SiteP S A built parts x b q a st) (hf : f < 6) (hu : u ≤ 4) (hus : X10_used A (f : Int) = some (u : Int)) (ha : a ≤ 3) (hw : ∀ p : Nat, p < u → S.2.2.2.2.2.2.1.2.1 (4 * f + p) < (a : Int)) (hx : (x : Int) < S.2.2.2.2.2.2.2.1.1) (hz : 1 + szs S f st u ≤ 30) {V : Mv} (hV : ∀ i : Nat, i ≤ a → V.2.1 i = ((st i : Nat) : Int)) (bm pm total : Int) : ∀ (k y : Nat) (R : Pg) (T : Arr), y + k = u → NInv S f st u y R T → ∃ (R' : Pg) (T' : Arr), NInv S f st u u R' T' ∧ (∀ (fuel : Nat) (kx : Mv → Option (St × Mv)), k < fuel → X5_replaceSite_L30 kx S (x : Int) (f : Int) (u : Int) fuel (y : Int) (R, V.2.1, V.2.2) = kx (R', V.2.1, V.2.2)) ∧ ∀ (fuel : Nat) (kx : Int → Arr → Option (Arr × Int × Arr × Int × Arr × Int)), k < fuel → X10_becomesNew_L66 kx A built bm parts pm total (f : Int) (q : Int) fuel R.1 (y : Int) T = kx R'.1 T' := by
  have hQ := h.1
  have h30 := h.2.1
  have htop := h.top
  intro k
  induction k with
  | zero =>
    intro y R T h1 hI
    have : y = u := by omega
    subst this
    refine ⟨R, T, hI, fun fuel kx h2 => ?_, fun fuel kx h2 => ?_⟩
    · obtain ⟨n, rfl⟩ : ∃ n, fuel = n + 1 := ⟨fuel - 1, by omega⟩
      rw [X5_replaceSite_L30, e_LT (by omega) (by omega) (by omega) (by omega), if_neg (by omega)]
    · obtain ⟨n, rfl⟩ : ∃ n, fuel = n + 1 := ⟨fuel - 1, by omega⟩
      rw [X10_becomesNew_L66, hus, Option.bind_some, e_LT (by omega) (by omega) (by omega) (by omega), if_neg (by omega)]
  | succ k ih =>
    intro y R T h1 hI
    obtain ⟨n1, n2, n3, n4⟩ := hI
    have e2 : (y : Int) + 1 = ((y + 1 : Nat) : Int) := by omega
    have zb := szs_bd h hf hu hw y (by omega)
    have zm := szs_mono h hf hu hw (y + 1) (u - (y + 1)) (by omega)
    have ezm : y + 1 + (u - (y + 1)) = u := by omega
    rw [ezm] at zm
    have hs : szs S f st (y + 1) = szs S f st y + (if S.2.2.2.2.2.2.1.2.1 (4 * f + y) = -1 then 1 else ((st ((S.2.2.2.2.2.2.1.2.1 (4 * f + y)).toNat + 1) : Nat) : Int) - ((st (S.2.2.2.2.2.2.1.2.1 (4 * f + y)).toNat : Nat) : Int)) := rfl
    rcases ent_cases hQ hf (p := y) (by omega) with ⟨c1, c2, c3, c4⟩ | ⟨c1, c2, c4⟩
    · rw [if_pos c1] at hs
      have hR30 : R.1 < 30 := by omega
      have hR0 : 0 ≤ R.1 := by omega
      obtain ⟨R', T', i1, i2, i3⟩ := ih (y + 1) (adP R 0 (S.2.2.2.2.2.2.1.2.2 (4 * f + y)) 0) (upI T R.1.toNat (10 * (S.2.2.2.2.2.2.1.2.2 (4 * f + y)))) (by omega) (by
        refine ⟨by show R.1 + 1 = _; omega, ?_, ?_, ?_⟩
        · exact (PR.add ⟨hR0, by omega, n2⟩ hR30 (Or.inl ⟨rfl, c2, c3, rfl, rfl⟩)).2.2
        · intro j hj
          have hj' : j < (R.1 + 1).toNat := hj
          rw [cnt_ad0 R _ _ _ j (by omega)]
          by_cases hjj : j < R.1.toNat
          · exact n3 j hjj
          · have : j = R.1.toNat := by omega
            rw [this, n4]; omega
        · rw [cnt_ad1 R _ _ _ hR0, n4]; omega)
      refine ⟨R', T', i1, fun fuel kx h2 => ?_, fun fuel kx h2 => ?_⟩
      · obtain ⟨n, rfl⟩ : ∃ n, fuel = n + 1 := ⟨fuel - 1, by omega⟩
        have hcst : X4_constantAt S.2.2.2.2.2.2.1 (f : Int) (y : Int) = some (S.2.2.2.2.2.2.1.2.2 (4 * f + y)) := by
          rw [X4_constantAt_eq _ (by omega) (by omega) (by omega) (by omega)]
          exact congrArg some (congrArg _ (by omega))
        rw [X5_replaceSite_L30, e_LT (by omega) (by omega) (by omega) (by omega), if_pos (by omega), src_eq hf (by omega), Option.bind_some, X9_isSource_eq ⟨by omega, by omega⟩, Option.bind_some, e_lt, e_b10, if_neg (by omega), hcst, Option.bind_some]
        dsimp only
        rw [add_ad R _ _ _ hR0 hR30, Option.bind_some, e2]
        exact i2 n kx (by omega)
      · obtain ⟨n, rfl⟩ : ∃ n, fuel = n + 1 := ⟨fuel - 1, by omega⟩
        rw [X10_becomesNew_L66, hus, Option.bind_some, e_LT (by omega) (by omega) (by omega) (by omega), if_pos (by omega), c4, Option.bind_some, e_lt, e_LT (by omega) (by omega) (by decide) (by decide), if_neg (by omega)]
        unfold X10_node
        rw [Option.bind_some, e_wr hR0 (by omega), e2]
        have e5 : 10000 * 0 + 10 * (100 + S.2.2.2.2.2.2.1.2.2 (4 * f + y) - 100) + 0 = 10 * S.2.2.2.2.2.2.1.2.2 (4 * f + y) := by omega
        rw [e5]
        exact i3 n kx (by omega)
    · have hc : S.2.2.2.2.2.2.1.2.1 (4 * f + y) ≠ -1 := by omega
      rw [if_neg hc] at hs
      obtain ⟨s, s1, s2, s3, s4, s5, s6⟩ := src_st h hf (by omega) (hw y (by omega)) hc
      rw [s1] at hs c4
      simp only [Int.toNat_natCast] at hs
      obtain ⟨len, hlen⟩ : ∃ len : Nat, st (s + 1) = st s + len := ⟨st (s + 1) - st s, by omega⟩
      have hR0 : 0 ≤ R.1 := by omega
      have hq := h.2.2.2.2.2.2.2.1
      have hpt := h.2.2.2.2.2.2.1
      have hN := h.2.2.2.2.2.2.2.2.2
      have hbt := h.2.2.2.2.2.2.2.2.1
      have hsz := h.2.2.2.2.2.1
      have hW := h.2.2.2.2.1 s s2
      have p0 := hpt s (by omega)
      have p1 := hpt (s + 1) (by omega)
      obtain ⟨R2, a1, a2, a3, a4⟩ := X6_addNodes_spec R S.2.2.2.2.2.2.2.1 (fr := ((st s : Nat) : Int)) (to := ((st (s + 1) : Nat) : Int)) (by omega) (by omega) (by omega) h30 hR0 (by omega)
      have hR2 : R2.1.toNat = R.1.toNat + len := by omega
      have a4' : ∀ j : Nat, j < len → R2.2.1 (R.1.toNat + j) = S.2.2.2.2.2.2.2.1.2.1 (st s + j) ∧ R2.2.2.1 (R.1.toNat + j) = S.2.2.2.2.2.2.2.1.2.2.1 (st s + j) ∧ R2.2.2.2 (R.1.toNat + j) = S.2.2.2.2.2.2.2.1.2.2.2 (st s + j) := by
        intro j hj
        have := a4 j (by omega)
        simp only [Int.toNat_natCast] at this
        exact this
      have p1' : parts (q + s + 1) = ((b + (st (s + 1) - (x + 1)) : Nat) : Int) := p1
      obtain ⟨T2, b1, b2, b3⟩ := cp126 (A := A) (built := built) (parts := parts) bm pm total (f : Int) (y : Int) (q := q) (s := s) (e := b + (st (s + 1) - (x + 1))) (by omega) p1' (by omega) len R.1.toNat (b + (st s - (x + 1))) T (by omega) (by omega)
      have eR : ((R.1.toNat : Nat) : Int) = R.1 := by omega
      have eR2 : ((R.1.toNat + len : Nat) : Int) = R2.1 := by omega
      have cl : ∀ j : Nat, j < R.1.toNat → R2.2.2.2 j = R.2.2.2 j := fun j hj => (a3 j hj).2.2
      have hWl : WE S.2.2.2.2.2.2.2.1.2.2.2 (st s) (st s + len) := by rw [← hlen]; exact hW
      have hWR : WE R2.2.2.2 R.1.toNat (R.1.toNat + len) := hWl.shift (fun j hj => (a4' j hj).2.2)
      have hc0 : cnt R2.2.2.2 R.1.toNat = (u : Int) - y := by rw [cnt_congr cl]; exact n4
      obtain ⟨R', T', i1, i2, i3⟩ := ih (y + 1) R2 T2 (by omega) (by
        refine ⟨by omega, ?_, ?_, ?_⟩
        · intro j hj
          by_cases hjj : j < R.1.toNat
          · obtain ⟨d1, d2, d3⟩ := a3 j hjj
            rw [d1, d2, d3, b2 j hjj]
            exact n2 j hjj
          · obtain ⟨i, rfl⟩ : ∃ i, j = R.1.toNat + i := ⟨j - R.1.toNat, by omega⟩
            obtain ⟨d1, d2, d3⟩ := a4' i (by omega)
            rw [d1, d2, d3, b3 i (by omega)]
            have := hN (st s - (x + 1) + i) (by omega)
            have f1 : x + 1 + (st s - (x + 1) + i) = st s + i := by omega
            have f2 : b + (st s - (x + 1) + i) = b + (st s - (x + 1)) + i := by omega
            rw [f1, f2] at this
            exact this
        · intro j hj
          by_cases hjj : j < R.1.toNat
          · rw [cnt_congr (b := R.2.2.2) (fun i hi => cl i (by omega))]
            exact n3 j hjj
          · have := hWR.2.1 j (by omega) (by omega)
            omega
        · rw [hR2]
          have := hWR.2.2
          omega)
      refine ⟨R', T', i1, fun fuel kx h2 => ?_, fun fuel kx h2 => ?_⟩
      · obtain ⟨n, rfl⟩ : ∃ n, fuel = n + 1 := ⟨fuel - 1, by omega⟩
        rw [X5_replaceSite_L30, e_LT (by omega) (by omega) (by omega) (by omega), if_pos (by omega), src_eq hf (by omega), Option.bind_some, s1, X9_isSource_eq ⟨by omega, by omega⟩, Option.bind_some, e_lt, e_b10, if_pos (by omega)]
        dsimp only
        rw [e_rd (by omega) (by omega), e_rd (by omega) (by omega), show ((s : Int)).toNat = s by omega, show ((s : Int) + 1).toNat = s + 1 by omega, hV s (by omega), hV (s + 1) (by omega), a1, Option.bind_some, e2]
        exact i2 n kx (by omega)
      · obtain ⟨n, rfl⟩ : ∃ n, fuel = n + 1 := ⟨fuel - 1, by omega⟩
        rw [X10_becomesNew_L66, hus, Option.bind_some, e_LT (by omega) (by omega) (by omega) (by omega), if_pos (by omega), c4, Option.bind_some, e_lt, e_LT (by omega) (by omega) (by decide) (by decide), if_pos (by omega), e_rd (by omega) (by omega), show ((q : Int) + (s : Int)).toNat = q + s by omega, p0, ← eR, b1 FU _ (by rw [FU_eq]; omega), e2, eR2]
        exact i3 n kx (by omega)
end WM
