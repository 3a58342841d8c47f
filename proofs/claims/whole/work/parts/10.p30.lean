/-! migrate: adapters -/
section AD
variable {S : St} {A : Arr} {f : Nat}
theorem copyA_eq (T V : FT) {m f : Nat} (hm : m < 4) (hf : f < 6) : X1_copyFunction 4 6 T V (m : Int) (f : Int) = some (upI T.1 m (V.1 f), upI T.2.1 m (V.2.1 f), cpI V.2.2 T.2.2 (5 * f) (5 * m) 5) := by
  unfold X1_copyFunction
  have e1 : ((m : Int)).toNat = m := by omega
  have e2 : ((f : Int)).toNat = f := by omega
  have e3 : ((m : Int) * 5).toNat = 5 * m := by omega
  have e4 : ((f : Int) * 5).toNat = 5 * f := by omega
  have e5 : ((5 : Int)).toNat = 5 := rfl
  rw [X9_within_eq (by omega) (by omega) (by decide) (by decide) (by omega) (by omega), Option.bind_some, e_b10, if_pos (by omega), X9_within_eq (by omega) (by omega) (by decide) (by decide) (by omega) (by omega), Option.bind_some, e_b10, if_pos (by omega), e_rd (by omega) (by omega), e_wr (by omega) (by omega), e_rd (by omega) (by omega), e_wr (by omega) (by omega), e_cp (by omega) (by omega) (by decide) (by omega) (by omega), e1, e2, e3, e4, e5]
theorem af_loop (kx : Arr → Option (Int × Arr)) (A : Arr) {m f : Nat} (hm : m < 4) (hf : f < 6) : ∀ (k fuel y : Nat) (g : Arr), y + k = 7 → k < fuel → (∀ j : Nat, g j = if 84 + 8 * m ≤ j ∧ j < 84 + 8 * m + y then A (7 * f + (j - (84 + 8 * m))) else A j) → ∃ g' : Arr, X10_adapterFor_L59 kx (f : Int) (84 + 8 * (m : Int)) fuel (y : Int) g = kx g' ∧ ∀ j : Nat, g' j = if 84 + 8 * m ≤ j ∧ j < 84 + 8 * m + 7 then A (7 * f + (j - (84 + 8 * m))) else A j := by
  intro k
  induction k with
  | zero =>
    intro fuel y g h1 h2 h3
    obtain ⟨n, rfl⟩ : ∃ n, fuel = n + 1 := ⟨fuel - 1, by omega⟩
    have : y = 7 := by omega
    subst this
    refine ⟨g, ?_, h3⟩
    rw [X10_adapterFor_L59, e_LT (by omega) (by omega) (by omega) (by omega), if_neg (by omega)]
  | succ k ih =>
    intro fuel y g h1 h2 h3
    obtain ⟨n, rfl⟩ : ∃ n, fuel = n + 1 := ⟨fuel - 1, by omega⟩
    obtain ⟨g', a1, a2⟩ := ih n (y + 1) (upI g (84 + 8 * m + y) (A (7 * f + y))) (by omega) (by omega) (by
      intro j
      by_cases hj : j = 84 + 8 * m + y
      · rw [hj, uI_same, if_pos (by omega)]
        exact congrArg A (by omega)
      · rw [uI_ne hj, h3 j]
        by_cases h4 : 84 + 8 * m ≤ j ∧ j < 84 + 8 * m + y
        · rw [if_pos h4, if_pos (by omega)]
        · rw [if_neg h4, if_neg (by omega)])
    refine ⟨g', ?_, a2⟩
    have e1 : (0 + 7 * (f : Int) + (y : Int)).toNat = 7 * f + y := by omega
    have e2 : (84 + 8 * (m : Int) + (y : Int)).toNat = 84 + 8 * m + y := by omega
    have e3 : (y : Int) + 1 = ((y + 1 : Nat) : Int) := by omega
    rw [X10_adapterFor_L59, e_LT (by omega) (by omega) (by omega) (by omega), if_pos (by omega), e_rd (by omega) (by omega), e_wr (by omega) (by omega), e1, e2, h3 (7 * f + y), if_neg (by omega), e3]
    exact a1
theorem RQ.congrLo {S1 : St} {B : Arr} (hQ : RQ S A) (hB : ∀ j : Nat, j < 84 ∨ (116 < j ∧ j < 148) → B j = A j) (e1 : S1.1 = S.1) (e2 : S1.2.1 = S.2.1) (e3 : S1.2.2.2.2.2.1 = S.2.2.2.2.2.1) (e4 : S1.2.2.2.2.2.2.1 = S.2.2.2.2.2.2.1) (hA : RAd S1.2.2.1 S1.2.2.2.1 S1.2.2.2.2.1 B) : RQ S1 B := by
  obtain ⟨h1, h2, h3, h4, h5, -⟩ := hQ
  unfold RQ
  rw [e1, e2, e3, e4]
  exact ⟨h1.congr (fun j _ hj => hB j (by omega)) (by decide) agr.rfl, h2.congr (fun j _ hj => hB j (by omega)) (by decide) agr.rfl, hA, ⟨(hB 147 (by omega)).trans h4.1, h4.2⟩, h5.congrA (fun j _ hj => hB j (by omega)), trivial⟩
theorem adapt_both (hQ : RQ S A) (hf : f < 6) : (X8_canUseAdapter S (f : Int) = some 0 ∧ X10_adapterFor A (f : Int) = some (-1, A)) ∨ (X8_canUseAdapter S (f : Int) = some 1 ∧ ∃ (n : Nat) (S1 : St) (A1 : Arr), X10_adapterFor A (f : Int) = some ((n : Int), A1) ∧ X8_provideAdapter S (f : Int) = some ((n : Int), S1) ∧ (n : Int) < S1.2.2.2.1 ∧ S.2.2.2.1 ≤ S1.2.2.2.1 ∧ RQ S1 A1 ∧ S1.2.2.2.2.2.2.2 = S.2.2.2.2.2.2.2 ∧ ∀ j : Nat, 116 < j → A1 j = A j) := by
  have hAd := hQ.2.2.1
  obtain ⟨a1, a2, a3, a4, a5, a6⟩ := id hAd
  have hal := hQ.2.2.2.1
  have hnb := q_adn_bd hQ hf
  have ef : ((f : Int)).toNat = f := by omega
  have e147 : ((147 : Int)).toNat = 147 := rfl
  have e116 : ((116 : Int)).toNat = 116 := rfl
  have hCan : X8_canUseAdapter S (f : Int) = if S.2.2.2.2.2.1 = 0 then some 0 else if S.2.2.2.2.1 f = -1 then (if S.2.2.2.1 = 4 then some 0 else some 1) else some 1 := by
    unfold X8_canUseAdapter
    rw [X8_adapterNumber_eq S (by omega) (by omega), ef, e_EQ (by omega) (by omega) (by decide) (by decide), Option.bind_some]
    by_cases hal0 : S.2.2.2.2.2.1 = 0
    · rw [if_neg (by omega), if_pos hal0]
    · rw [if_pos (by omega), if_neg hal0, e_EQ (by omega) (by omega) (by decide) (by decide), e_LT (by omega) (by omega) (by decide) (by decide)]
      by_cases hN : S.2.2.2.2.1 f = -1
      · rw [if_pos hN, if_pos hN]
        by_cases hm4 : S.2.2.2.1 = 4
        · rw [if_neg (by omega), if_pos hm4]
        · rw [if_pos (by omega), if_neg hm4]
      · rw [if_neg hN, if_neg hN]
  have hFor : X10_adapterFor A (f : Int) = if S.2.2.2.2.2.1 = 0 then some (-1, A) else if S.2.2.2.2.1 f = -1 then (if S.2.2.2.1 = 4 then some (-1, A) else X10_adapterFor_L59 (fun w9 => wrK 186 w9 ((84 + (8 * S.2.2.2.1)) + 7) (f : Int) (fun f10 => rdK 186 f10 116 (fun v11 => wrK 186 f10 116 (v11 + 1) (fun f12 => rdK 186 f12 116 (fun v13 => some ((v13 - 1), f12)))))) (f : Int) (84 + (8 * S.2.2.2.1)) FU 0 A) else some (S.2.2.2.2.1 f, A) := by
    unfold X10_adapterFor
    rw [q_X10_adapter_eq hQ hf, Option.bind_some, e_rd (by decide) (by decide), e147, hal.1, e_EQ (by omega) (by omega) (by decide) (by decide)]
    by_cases hal0 : S.2.2.2.2.2.1 = 0
    · rw [if_pos hal0, if_pos hal0]
    · rw [if_neg hal0, if_neg hal0, e_lt, e_EQ (by omega) (by omega) (by decide) (by decide)]
      by_cases hN : S.2.2.2.2.1 f = -1
      · rw [if_pos hN, if_pos hN, e_rd (by decide) (by decide), e116, a3, e_EQ (by omega) (by omega) (by decide) (by decide)]
        by_cases hm4 : S.2.2.2.1 = 4
        · rw [if_pos hm4, if_pos hm4]
        · rw [if_neg hm4, if_neg hm4, e_EQ (by omega) (by omega) (by decide) (by decide), if_pos hN, e_rd (by decide) (by decide), e116, a3]
      · rw [if_neg hN, if_neg hN, e_EQ (by omega) (by omega) (by decide) (by decide), if_neg hN]
  rw [hCan, hFor]
  by_cases hal0 : S.2.2.2.2.2.1 = 0
  · rw [if_pos hal0, if_pos hal0]
    exact Or.inl ⟨rfl, rfl⟩
  · rw [if_neg hal0, if_neg hal0]
    by_cases hN : S.2.2.2.2.1 f = -1
    · rw [if_pos hN, if_pos hN]
      by_cases hm4 : S.2.2.2.1 = 4
      · rw [if_pos hm4, if_pos hm4]
        exact Or.inl ⟨rfl, rfl⟩
      · rw [if_neg hm4, if_neg hm4]
        obtain ⟨m, hm⟩ : ∃ m : Nat, S.2.2.2.1 = (m : Int) := ⟨S.2.2.2.1.toNat, by omega⟩
        have hmt : S.2.2.2.1.toNat = m := by omega
        have hm4' : m < 4 := by omega
        obtain ⟨g, g1, g2⟩ := af_loop (fun w9 => wrK 186 w9 ((84 + (8 * (m : Int))) + 7) (f : Int) (fun f10 => rdK 186 f10 116 (fun v11 => wrK 186 f10 116 (v11 + 1) (fun f12 => rdK 186 f12 116 (fun v13 => some ((v13 - 1), f12)))))) A hm4' hf 7 FU 0 A (by omega) (by rw [FU_eq]; omega) (by intro j; rw [if_neg (by omega)])
        have g1' : X10_adapterFor_L59 (fun w9 => wrK 186 w9 ((84 + (8 * (m : Int))) + 7) (f : Int) (fun f10 => rdK 186 f10 116 (fun v11 => wrK 186 f10 116 (v11 + 1) (fun f12 => rdK 186 f12 116 (fun v13 => some ((v13 - 1), f12)))))) (f : Int) (84 + 8 * (m : Int)) FU 0 A = _ := g1
        have eo : (84 + 8 * (m : Int) + 7).toNat = 91 + 8 * m := by omega
        have hB : ∀ j : Nat, upI (upI g (91 + 8 * m) (f : Int)) 116 ((m : Int) + 1) j = if j = 116 then (m : Int) + 1 else if j = 91 + 8 * m then (f : Int) else if 84 + 8 * m ≤ j ∧ j < 84 + 8 * m + 7 then A (7 * f + (j - (84 + 8 * m))) else A j := by
          intro j
          unfold upI
          split
          · rfl
          · split
            · rfl
            · exact g2 j
        have hg116 : upI g (91 + 8 * m) (f : Int) 116 = (m : Int) := by
          rw [uI_ne (by omega), g2, if_neg (by omega), a3, hm]
        obtain ⟨o1, o2, o3, o4, o5, o6⟩ := hQ.1 f hf
        have hNm : ∀ k : Nat, k < m → A (91 + 8 * k) ≠ (f : Int) := by
          rcases a6 f hf with ⟨-, q2⟩ | ⟨q1, -⟩
          · intro k hk; exact q2 k (by omega)
          · omega
        refine Or.inr ⟨rfl, m, (S.1, S.2.1, (upI S.2.2.1.1 m (S.1.1 f), upI S.2.2.1.2.1 m (S.1.2.1 f), cpI S.1.2.2 S.2.2.1.2.2 (5 * f) (5 * m) 5), (m : Int) + 1, upI S.2.2.2.2.1 f (m : Int), S.2.2.2.2.2.1, S.2.2.2.2.2.2.1, S.2.2.2.2.2.2.2.1, S.2.2.2.2.2.2.2.2), upI (upI g (91 + 8 * m) (f : Int)) 116 ((m : Int) + 1), ?_, ?_, by show (m : Int) < (m : Int) + 1; omega, by show S.2.2.2.1 ≤ (m : Int) + 1; omega, ?_, rfl, ?_⟩
        · rw [hm, g1', e_wr (by omega) (by omega), eo, e_rd (by decide) (by decide), e116, hg116, e_wr (by decide) (by decide), e116, e_rd (by decide) (by decide), e116, uI_same]
          have : (m : Int) + 1 - 1 = (m : Int) := by omega
          rw [this]
        · unfold X8_provideAdapter
          rw [X9_within_eq (by omega) (by omega) (by decide) (by decide) (by decide) (by decide), Option.bind_some, e_b10, if_pos (by omega), e_rd (by omega) (by omega), ef, hN, e_EQ (by decide) (by decide) (by decide) (by decide), if_pos rfl, hm, copyA_eq _ _ hm4' hf, Option.bind_some, e_wr (by omega) (by omega), ef, X8_adapterNumber_eq _ (by omega) (by omega), Option.bind_some, ef]
          show some (upI S.2.2.2.2.1 f (m : Int) f, _) = _
          rw [uI_same]
        · refine hQ.congrLo (fun j hj => ?_) rfl rfl rfl rfl ?_
          · rw [hB, if_neg (by omega), if_neg (by omega), if_neg (by omega)]
          · show RAd (upI S.2.2.1.1 m (S.1.1 f), upI S.2.2.1.2.1 m (S.1.2.1 f), cpI S.1.2.2 S.2.2.1.2.2 (5 * f) (5 * m) 5) ((m : Int) + 1) (upI S.2.2.2.2.1 f (m : Int)) _
            have em1 : ((m : Int) + 1).toNat = m + 1 := by omega
            refine ⟨by omega, by omega, uI_same _, ?_, ?_, ?_⟩
            · rw [em1]
              intro k hk
              by_cases hkm : k = m
              · subst hkm
                show upI _ 116 _ (84 + 8 * k) = upI S.2.2.1.1 k _ k ∧ 0 ≤ upI S.2.2.1.1 k _ k ∧ upI S.2.2.1.1 k _ k ≤ 3 ∧ upI _ 116 _ (84 + 8 * k + 1) = upI S.2.2.1.2.1 k _ k ∧ (upI S.2.2.1.2.1 k _ k = 0 ∨ upI S.2.2.1.2.1 k _ k = 1) ∧ ∀ i : Nat, i < 5 → upI _ 116 _ (84 + 8 * k + 2 + i) = cpI S.1.2.2 S.2.2.1.2.2 (5 * f) (5 * k) 5 (5 * k + i) ∧ 0 ≤ cpI S.1.2.2 S.2.2.1.2.2 (5 * f) (5 * k) 5 (5 * k + i) ∧ cpI S.1.2.2 S.2.2.1.2.2 (5 * f) (5 * k) 5 (5 * k + i) ≤ 99
                rw [uI_same, uI_same]
                refine ⟨?_, o2, o3, ?_, o5, fun i hi => ?_⟩
                · rw [hB, if_neg (by omega), if_neg (by omega), if_pos (by omega), ← o1]
                  exact congrArg A (by omega)
                · rw [hB, if_neg (by omega), if_neg (by omega), if_pos (by omega), ← o4]
                  exact congrArg A (by omega)
                · obtain ⟨t1, t2, t3⟩ := o6 i hi
                  rw [cpI_at hi]
                  refine ⟨?_, t2, t3⟩
                  rw [hB, if_neg (by omega), if_neg (by omega), if_pos (by omega), ← t1]
                  exact congrArg A (by omega)
              · obtain ⟨r1, r2, r3, r4, r5, r6⟩ := a4 k (by omega)
                show upI _ 116 _ (84 + 8 * k) = upI S.2.2.1.1 m _ k ∧ 0 ≤ upI S.2.2.1.1 m _ k ∧ upI S.2.2.1.1 m _ k ≤ 3 ∧ upI _ 116 _ (84 + 8 * k + 1) = upI S.2.2.1.2.1 m _ k ∧ (upI S.2.2.1.2.1 m _ k = 0 ∨ upI S.2.2.1.2.1 m _ k = 1) ∧ ∀ i : Nat, i < 5 → upI _ 116 _ (84 + 8 * k + 2 + i) = cpI S.1.2.2 S.2.2.1.2.2 (5 * f) (5 * m) 5 (5 * k + i) ∧ 0 ≤ cpI S.1.2.2 S.2.2.1.2.2 (5 * f) (5 * m) 5 (5 * k + i) ∧ cpI S.1.2.2 S.2.2.1.2.2 (5 * f) (5 * m) 5 (5 * k + i) ≤ 99
                rw [uI_ne hkm, uI_ne hkm]
                refine ⟨?_, r2, r3, ?_, r5, fun i hi => ?_⟩
                · rw [hB, if_neg (by omega), if_neg (by omega), if_neg (by omega), r1]
                · rw [hB, if_neg (by omega), if_neg (by omega), if_neg (by omega), r4]
                · obtain ⟨t1, t2, t3⟩ := r6 i hi
                  rw [cpI_lo (by omega)]
                  refine ⟨?_, t2, t3⟩
                  rw [hB, if_neg (by omega), if_neg (by omega), if_neg (by omega), t1]
            · rw [em1]
              intro k hk
              by_cases hkm : k = m
              · rw [hB, if_neg (by omega), if_pos (by omega)]; omega
              · rw [hB, if_neg (by omega), if_neg (by omega), if_neg (by omega)]
                exact a5 k (by omega)
            · rw [em1]
              intro g' hg'
              by_cases hgf : g' = f
              · subst hgf
                rw [uI_same]
                refine Or.inr ⟨by omega, by omega, fun k hk => ?_⟩
                by_cases hkm : k = m
                · rw [hB, if_neg (by omega), if_pos (by omega)]
                  exact ⟨fun _ => by omega, fun _ => rfl⟩
                · rw [hB, if_neg (by omega), if_neg (by omega), if_neg (by omega)]
                  exact ⟨fun hh => absurd hh (hNm k (by omega)), fun hh => absurd hh (by omega)⟩
              · rw [uI_ne hgf]
                rcases a6 g' hg' with ⟨q1, q2⟩ | ⟨q1, q2, q3⟩
                · refine Or.inl ⟨q1, fun k hk => ?_⟩
                  by_cases hkm : k = m
                  · rw [hB, if_neg (by omega), if_pos (by omega)]; omega
                  · rw [hB, if_neg (by omega), if_neg (by omega), if_neg (by omega)]
                    exact q2 k (by omega)
                · refine Or.inr ⟨q1, by omega, fun k hk => ?_⟩
                  by_cases hkm : k = m
                  · rw [hB, if_neg (by omega), if_pos (by omega)]
                    exact ⟨fun hh => by omega, fun hh => by omega⟩
                  · rw [hB, if_neg (by omega), if_neg (by omega), if_neg (by omega)]
                    exact q3 k (by omega)
        · intro j hj
          rw [hB, if_neg (by omega), if_neg (by omega), if_neg (by omega)]
    · rw [if_neg hN, if_neg hN]
      refine Or.inr ⟨rfl, (S.2.2.2.2.1 f).toNat, S, A, ?_, ?_, ?_, Int.le_refl _, hQ, rfl, fun _ _ => rfl⟩
      · have : (((S.2.2.2.2.1 f).toNat : Nat) : Int) = S.2.2.2.2.1 f := by omega
        rw [this]
      · unfold X8_provideAdapter
        have : (((S.2.2.2.2.1 f).toNat : Nat) : Int) = S.2.2.2.2.1 f := by omega
        rw [X9_within_eq (by omega) (by omega) (by decide) (by decide) (by decide) (by decide), Option.bind_some, e_b10, if_pos (by omega), e_rd (by omega) (by omega), ef, e_EQ (by omega) (by omega) (by decide) (by decide), if_neg hN, X8_adapterNumber_eq _ (by omega) (by omega), Option.bind_some, ef, this]
      · rcases a6 f hf with ⟨q1, -⟩ | ⟨q1, q2, -⟩
        · exact absurd q1 hN
        · omega
end AD
