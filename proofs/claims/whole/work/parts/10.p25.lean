/-! migrate: why a site is left, both sides -/
section WJ
variable {S : St} {A built parts : Arr} {x b q a f t u : Nat} {st : Nat → Nat}
theorem flags_both (hQ : RQ S A) (hf : f < 6) (hu : u ≤ 4) (hus : X10_used A (f : Int) = some (u : Int)) {code : Int} (hcode : X10_arguments code = some (a : Int)) (pm total : Int) (ha : a ≤ 3) {V : Mv} (hV : ∀ i : Nat, i < a → V.2.2 i = eF A built parts q i) (hE : ∀ i : Nat, i < a → (eF A built parts q i = 0 ∨ eF A built parts q i = 1) ∧ X10_hasEffect A built parts ((q + i : Nat) : Int) = some (eF A built parts q i)) : ∀ (k y : Nat) (t l : Int), y + k = a → (t = 0 ∨ t = 1) → (l = 0 ∨ l = 1) → ∃ t' l' : Int, (t' = 0 ∨ t' = 1) ∧ (l' = 0 ∨ l' = 1) ∧ (∀ (fuel : Nat) (kx : Int → Int → Option Int), k < fuel → X5_effectReason_L9 kx S.2.2.2.2.2.2.1 V (f : Int) (u : Int) (a : Int) fuel t l (y : Int) = kx t' l') ∧ ∀ (fuel : Nat) (kx : Int → Int → Option Int), k < fuel → X10_reason_L20 kx A built parts pm total code (f : Int) (q : Int) fuel t l (y : Int) = kx t' l' := by
  intro k
  induction k with
  | zero =>
    intro y t l h1 ht hl
    refine ⟨t, l, ht, hl, fun fuel kx h2 => ?_, fun fuel kx h2 => ?_⟩
    · obtain ⟨n, rfl⟩ : ∃ n, fuel = n + 1 := ⟨fuel - 1, by omega⟩
      rw [X5_effectReason_L9, e_LT (by omega) (by omega) (by omega) (by omega), if_neg (by omega)]
    · obtain ⟨n, rfl⟩ : ∃ n, fuel = n + 1 := ⟨fuel - 1, by omega⟩
      rw [X10_reason_L20, hcode, Option.bind_some, e_LT (by omega) (by omega) (by omega) (by omega), if_neg (by omega)]
  | succ k ih =>
    intro y t l h1 ht hl
    have hy : y < a := by omega
    obtain ⟨g1, g2⟩ := hE y hy
    obtain ⟨t', l', i1, i2, i3, i4⟩ := ih (y + 1) (tw t (eF A built parts q y) (us S f y u)) (lo l (eF A built parts q y) (us S f y u)) (by omega) (tw_01 _ _ _) (lo_01 _ _ _)
    refine ⟨t', l', i1, i2, fun fuel kx h2 => ?_, fun fuel kx h2 => ?_⟩
    · obtain ⟨n, rfl⟩ : ∃ n, fuel = n + 1 := ⟨fuel - 1, by omega⟩
      rw [er9_step hQ hf hu hy ha (hV y hy) g1 ht hl]
      exact i3 n kx (by omega)
    · obtain ⟨n, rfl⟩ : ∃ n, fuel = n + 1 := ⟨fuel - 1, by omega⟩
      rw [re20_step hQ hf hu hus hcode hy ha g2 g1 ht hl]
      exact i4 n kx (by omega)
theorem reord_both (hQ : RQ S A) (hf : f < 6) (hu : u ≤ 4) (hus : X10_used A (f : Int) = some (u : Int)) (pm total : Int) (ha : a ≤ 3) (hw : ∀ p : Nat, p < u → S.2.2.2.2.2.2.1.2.1 (4 * f + p) < (a : Int)) {V : Mv} (hV : ∀ i : Nat, i < a → V.2.2 i = eF A built parts q i) (hE : ∀ i : Nat, i < a → (eF A built parts q i = 0 ∨ eF A built parts q i = 1) ∧ X10_hasEffect A built parts ((q + i : Nat) : Int) = some (eF A built parts q i)) : ∀ (k y : Nat) (g : Int), y + k = u → -1 ≤ g → g ≤ 2 → ((∀ (fuel : Nat) (kx : Option Int), k < fuel → X5_reordersEffects_L6 kx S.2.2.2.2.2.2.1 V (f : Int) (u : Int) fuel g (y : Int) = some 1) ∧ ∀ (fuel : Nat) (kx : Option Int), k < fuel → X10_reason_L129 kx A built parts pm total (f : Int) (q : Int) fuel g (y : Int) = some 6) ∨ ((∀ (fuel : Nat) (kx : Option Int), k < fuel → X5_reordersEffects_L6 kx S.2.2.2.2.2.2.1 V (f : Int) (u : Int) fuel g (y : Int) = kx) ∧ ∀ (fuel : Nat) (kx : Option Int), k < fuel → X10_reason_L129 kx A built parts pm total (f : Int) (q : Int) fuel g (y : Int) = kx) := by
  intro k
  induction k with
  | zero =>
    intro y g h1 g0 g2
    refine Or.inr ⟨fun fuel kx h2 => ?_, fun fuel kx h2 => ?_⟩
    · obtain ⟨n, rfl⟩ : ∃ n, fuel = n + 1 := ⟨fuel - 1, by omega⟩
      rw [X5_reordersEffects_L6, e_LT (by omega) (by omega) (by omega) (by omega), if_neg (by omega)]
    · obtain ⟨n, rfl⟩ : ∃ n, fuel = n + 1 := ⟨fuel - 1, by omega⟩
      rw [X10_reason_L129, hus, Option.bind_some, e_LT (by omega) (by omega) (by omega) (by omega), if_neg (by omega)]
  | succ k ih =>
    intro y g h1 g0 g2
    have e2 : (y : Int) + 1 = ((y + 1 : Nat) : Int) := by omega
    have hwy := hw y (by omega)
    have stepC : ∀ (n : Nat) (kx : Option Int), X5_reordersEffects_L6 kx S.2.2.2.2.2.2.1 V (f : Int) (u : Int) (n + 1) g (y : Int) = if S.2.2.2.2.2.2.1.2.1 (4 * f + y) = -1 then X5_reordersEffects_L6 kx S.2.2.2.2.2.2.1 V (f : Int) (u : Int) n g ((y + 1 : Nat) : Int) else if eF A built parts q (S.2.2.2.2.2.2.1.2.1 (4 * f + y)).toNat = 0 then X5_reordersEffects_L6 kx S.2.2.2.2.2.2.1 V (f : Int) (u : Int) n g ((y + 1 : Nat) : Int) else if S.2.2.2.2.2.2.1.2.1 (4 * f + y) < g then some 1 else X5_reordersEffects_L6 kx S.2.2.2.2.2.2.1 V (f : Int) (u : Int) n (S.2.2.2.2.2.2.1.2.1 (4 * f + y)) ((y + 1 : Nat) : Int) := by
      intro n kx
      rw [X5_reordersEffects_L6, e_LT (by omega) (by omega) (by omega) (by omega), if_pos (by omega), src_eq hf (by omega), Option.bind_some, e2]
      rcases ent_cases hQ hf (p := y) (by omega) with ⟨c1, c2, c3, c4⟩ | ⟨c1, c2, c4⟩
      · rw [X9_isSource_eq ⟨by omega, by omega⟩, Option.bind_some, e_lt, e_b10, if_neg (by omega), if_pos c1]
      · have hE' := (hE (S.2.2.2.2.2.2.1.2.1 (4 * f + y)).toNat (by omega)).1
        rw [X9_isSource_eq ⟨by omega, by omega⟩, Option.bind_some, e_lt, e_b10, if_pos ⟨c1, c2⟩, if_neg (by omega), e_rd c1 (by omega), hV _ (by omega), e_EQ (by omega) (by omega) (by decide) (by decide), e_LT (by omega) (by omega) (by omega) (by omega)]
    have stepR : ∀ (n : Nat) (kx : Option Int), X10_reason_L129 kx A built parts pm total (f : Int) (q : Int) (n + 1) g (y : Int) = if S.2.2.2.2.2.2.1.2.1 (4 * f + y) = -1 then X10_reason_L129 kx A built parts pm total (f : Int) (q : Int) n g ((y + 1 : Nat) : Int) else if eF A built parts q (S.2.2.2.2.2.2.1.2.1 (4 * f + y)).toNat = 0 then X10_reason_L129 kx A built parts pm total (f : Int) (q : Int) n g ((y + 1 : Nat) : Int) else if S.2.2.2.2.2.2.1.2.1 (4 * f + y) < g then some 6 else X10_reason_L129 kx A built parts pm total (f : Int) (q : Int) n (S.2.2.2.2.2.2.1.2.1 (4 * f + y)) ((y + 1 : Nat) : Int) := by
      intro n kx
      rw [X10_reason_L129, hus, Option.bind_some, e_LT (by omega) (by omega) (by omega) (by omega), if_pos (by omega), e2]
      rcases ent_cases hQ hf (p := y) (by omega) with ⟨c1, c2, c3, c4⟩ | ⟨c1, c2, c4⟩
      · rw [c4, Option.bind_some, e_lt, e_LT (by omega) (by omega) (by decide) (by decide), if_neg (by omega), if_pos c1]
      · obtain ⟨hE', hE2⟩ := hE (S.2.2.2.2.2.2.1.2.1 (4 * f + y)).toNat (by omega)
        have e5 : (q : Int) + S.2.2.2.2.2.2.1.2.1 (4 * f + y) = ((q + (S.2.2.2.2.2.2.1.2.1 (4 * f + y)).toNat : Nat) : Int) := by omega
        rw [c4, Option.bind_some, e_lt, e_LT (by omega) (by omega) (by decide) (by decide), if_pos (by omega), if_neg (by omega), e5, hE2, Option.bind_some, e_EQ (by omega) (by omega) (by decide) (by decide), e_LT (by omega) (by omega) (by omega) (by omega)]
    have same : ∀ g' : Int, -1 ≤ g' → g' ≤ 2 → (∀ (n : Nat) (kx : Option Int), X5_reordersEffects_L6 kx S.2.2.2.2.2.2.1 V (f : Int) (u : Int) (n + 1) g (y : Int) = X5_reordersEffects_L6 kx S.2.2.2.2.2.2.1 V (f : Int) (u : Int) n g' ((y + 1 : Nat) : Int)) → (∀ (n : Nat) (kx : Option Int), X10_reason_L129 kx A built parts pm total (f : Int) (q : Int) (n + 1) g (y : Int) = X10_reason_L129 kx A built parts pm total (f : Int) (q : Int) n g' ((y + 1 : Nat) : Int)) → ((∀ (fuel : Nat) (kx : Option Int), k + 1 < fuel → X5_reordersEffects_L6 kx S.2.2.2.2.2.2.1 V (f : Int) (u : Int) fuel g (y : Int) = some 1) ∧ ∀ (fuel : Nat) (kx : Option Int), k + 1 < fuel → X10_reason_L129 kx A built parts pm total (f : Int) (q : Int) fuel g (y : Int) = some 6) ∨ ((∀ (fuel : Nat) (kx : Option Int), k + 1 < fuel → X5_reordersEffects_L6 kx S.2.2.2.2.2.2.1 V (f : Int) (u : Int) fuel g (y : Int) = kx) ∧ ∀ (fuel : Nat) (kx : Option Int), k + 1 < fuel → X10_reason_L129 kx A built parts pm total (f : Int) (q : Int) fuel g (y : Int) = kx) := by
      intro g' g0' g2' s1 s2
      rcases ih (y + 1) g' (by omega) g0' g2' with ⟨i1, i2⟩ | ⟨i1, i2⟩
      · refine Or.inl ⟨fun fuel kx h2 => ?_, fun fuel kx h2 => ?_⟩
        · obtain ⟨n, rfl⟩ : ∃ n, fuel = n + 1 := ⟨fuel - 1, by omega⟩
          rw [s1]; exact i1 n kx (by omega)
        · obtain ⟨n, rfl⟩ : ∃ n, fuel = n + 1 := ⟨fuel - 1, by omega⟩
          rw [s2]; exact i2 n kx (by omega)
      · refine Or.inr ⟨fun fuel kx h2 => ?_, fun fuel kx h2 => ?_⟩
        · obtain ⟨n, rfl⟩ : ∃ n, fuel = n + 1 := ⟨fuel - 1, by omega⟩
          rw [s1]; exact i1 n kx (by omega)
        · obtain ⟨n, rfl⟩ : ∃ n, fuel = n + 1 := ⟨fuel - 1, by omega⟩
          rw [s2]; exact i2 n kx (by omega)
    by_cases c1 : S.2.2.2.2.2.2.1.2.1 (4 * f + y) = -1
    · exact same g g0 g2 (fun n kx => by rw [stepC, if_pos c1]) (fun n kx => by rw [stepR, if_pos c1])
    · have c2 : 0 ≤ S.2.2.2.2.2.2.1.2.1 (4 * f + y) ∧ S.2.2.2.2.2.2.1.2.1 (4 * f + y) ≤ 2 := by
        rcases ent_cases hQ hf (p := y) (by omega) with ⟨d1, -⟩ | ⟨d1, d2, -⟩
        · exact absurd d1 c1
        · exact ⟨d1, d2⟩
      by_cases c3 : eF A built parts q (S.2.2.2.2.2.2.1.2.1 (4 * f + y)).toNat = 0
      · exact same g g0 g2 (fun n kx => by rw [stepC, if_neg c1, if_pos c3]) (fun n kx => by rw [stepR, if_neg c1, if_pos c3])
      · by_cases c4 : S.2.2.2.2.2.2.1.2.1 (4 * f + y) < g
        · refine Or.inl ⟨fun fuel kx h2 => ?_, fun fuel kx h2 => ?_⟩
          · obtain ⟨n, rfl⟩ : ∃ n, fuel = n + 1 := ⟨fuel - 1, by omega⟩
            rw [stepC, if_neg c1, if_neg c3, if_pos c4]
          · obtain ⟨n, rfl⟩ : ∃ n, fuel = n + 1 := ⟨fuel - 1, by omega⟩
            rw [stepR, if_neg c1, if_neg c3, if_pos c4]
        · exact same _ (by omega) c2.2 (fun n kx => by rw [stepC, if_neg c1, if_neg c3, if_neg c4]) (fun n kx => by rw [stepR, if_neg c1, if_neg c3, if_neg c4])
end WJ
