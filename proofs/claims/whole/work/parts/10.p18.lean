/-! parse: expressions at every depth -/
section EY
variable {kx : Arr → Int → Arr → Int → Int → Option PRes} {A saved text : Arr} {sm L : Int} {f : Arr} {S : St}
theorem leaf_out {o : Int} (m : Int) {P : Pg} {rdd w : Arr} {p kd nm a : Int} (hP : PR m P rdd) (hP30 : P.1 < 30) (p0 : 0 ≤ p) (p1 : p ≤ L) (a0 : 0 ≤ a) (a1 : a < 30000) (hok : nodeOK m kd nm 0 a) : Out kx A saved text sm L f m o P w (cnt P.2.2.2 P.1.toNat - 1) (some (1, (f, L, p), adP P kd nm 0)) ((RQ9 A text L rdd P.1 w o (a, p)).bind (NX kx A saved text sm L (1000 - (P.1 + 1).toNat))) := by
  have q0 := hP.1
  rw [rq_leaf q0 hP30 a0 a1]
  refine Or.inr ⟨p, adP P kd nm 0, upI rdd P.1.toNat a, w, rfl, p0, p1, hP.add hP30 hok, by show P.1 < P.1 + 1; omega, ?_, by rw [cnt_ad1 P _ _ _ q0]; omega, ?_, fun _ _ => rfl, rfl⟩
  · intro j hj
    show upI P.2.2.2 P.1.toNat 0 j = _
    exact uI_ne (by omega)
  · intro i hi0 hi1
    have hi1' : i < (P.1 + 1).toNat := hi1
    have : i = P.1.toNat := by omega
    subst this
    rw [cnt_ad0 P _ _ _ _ (Nat.le_refl _)]
    omega
theorem exp_all (hX : PX S A f text L) : ∀ n : Nat, ExpP kx A saved text sm L f S.2.2.2.1 S n := by
  intro n
  induction n with
  | zero =>
    intro P rdd w o p p0 p1 hP hn o0 o1
    have := hP.2.1
    omega
  | succ n ih =>
    intro P rdd w o p p0 p1 hP hn o0 o1
    have q0 := hP.1
    have q1 := hP.2.1
    have l0 := hX.2.1
    have l1 := hX.2.2.1
    have hb := hr_bd hX p0
    have hRS := hX.1
    have hm := hX.1.2.2.1
    have m0 := hm.1
    have m1 := hm.2.1
    rw [lp_unf kx A saved text sm L q0 q1, rn_start hX p0 p1 q0 q1, X3_readExpression]
    show Out kx A saved text sm L f _ o P w _ (brLT p L _ _) _
    rw [e_LT (by omega) (by omega) (by omega) (by omega)]
    by_cases hpl : p < L
    · rw [if_pos hpl, e_LT (by omega) (by omega) (by decide) (by decide)]
      by_cases h30 : P.1 < 30
      · have hf : f p.toNat = hr f L p := by unfold hr; rw [if_pos hpl]
        rw [if_pos h30]
        show Out kx A saved text sm L f _ o P w _ (rdK 120 f p _) _
        rw [e_rd p0 (by omega), hf, wi9 ⟨by omega, by omega⟩ (by decide) (by decide) (by decide) (by decide), Option.bind_some, e_b10]
        generalize hcc : hr f L p = c
        rw [hcc] at hb
        by_cases hd : 48 ≤ c ∧ c ≤ 57
        · rw [if_pos hd, if_neg (c := nodeV _ c = -1) (by unfold nodeV; rw [if_pos hd]; omega), if_neg (c := P.1 = 30) (by omega), if_pos hd, num_eq hX p0 p1 (by rw [hcc]; exact hd) P q0 h30, hcc]
          have hb1 := hr_bd (p := p + 1) hX (by omega)
          by_cases hd2 : 48 ≤ hr f L (p + 1) ∧ hr f L (p + 1) ≤ 57
          · have hl2 : p + 1 < L := hr_lt (f := f) rfl (by omega)
            rw [if_pos hd2, if_pos hd2]
            exact (leaf_out _ hP h30 (by omega) (by omega) (by omega) (by omega) (Or.inl ⟨rfl, by omega, by omega, rfl, rfl⟩)).bo
          · rw [if_neg hd2, if_neg hd2]
            exact (leaf_out _ hP h30 (by omega) (by omega) (by omega) (by omega) (Or.inl ⟨rfl, by omega, by omega, rfl, rfl⟩)).bo
        · have hnV : nodeV S.2.2.2.1 c = nodeC S.2.2.2.1 c := by unfold nodeV; rw [if_neg hd]
          rw [if_neg hd, hnV, wi9 ⟨by omega, by omega⟩ (by decide) (by decide) (by decide) (by decide), Option.bind_some, e_b10, if_neg (c := P.1 = 30) (by omega), if_neg hd]
          by_cases hxy : 120 ≤ c ∧ c ≤ 121
          · have hC : nodeC S.2.2.2.1 c = 10000 * (1 + (c - 120)) := by
              unfold nodeC
              by_cases h120 : c = 120
              · rw [if_pos h120]; omega
              · rw [if_neg h120, if_pos (by omega)]; omega
            rw [if_pos hxy, hC, if_neg (by omega), add_ad _ _ _ _ q0 h30, Option.bind_some, e_bo' (Or.inr rfl)]
            exact leaf_out (p := p + 1) _ hP h30 (by omega) (by omega) (by omega) (by omega) (Or.inr (Or.inl ⟨rfl, by omega, rfl, rfl⟩))
          · rw [if_neg hxy, wi9 ⟨by omega, by omega⟩ (by decide) (by decide) (by decide) (by decide), Option.bind_some, e_b10]
            by_cases haf : 97 ≤ c ∧ c ≤ 102
            · have hC : nodeC S.2.2.2.1 c = 30000 + 10 * (c - 97) := by
                unfold nodeC
                rw [if_neg (by omega), if_neg (by omega), if_pos haf]
              have hfn : fnAt (30000 + 10 * (c - 97)) = 7 * (c - 97) := by
                unfold fnAt
                rw [if_pos (by omega)]; omega
              obtain ⟨t1, t2, t3, -⟩ := hRS.1 (c - 97).toNat (by omega)
              rw [if_pos haf, hC, if_neg (by omega), call2_eq _ _ _ (by omega) (by omega)]
              exact (call_out hX ih o0 hP h30 (by omega) o1 p0 hpl (by omega) (by omega) (by omega) (by omega) (by rw [hfn, ← t1]; exact congrArg A (by omega)) t2 (by omega) (Or.inr (Or.inr (Or.inl ⟨rfl, by omega, by omega, t2, t3, by omega⟩)))).bo
            · rw [if_neg haf, wi9 ⟨by omega, by omega⟩ (by decide) (by decide) (by decide) (by decide), Option.bind_some, e_b10]
              by_cases hAF : 65 ≤ c ∧ c ≤ 70
              · have hC : nodeC S.2.2.2.1 c = 40000 + 10 * (c - 65) := by
                  unfold nodeC
                  rw [if_neg (by omega), if_neg (by omega), if_neg haf, if_pos hAF]
                have hfn : fnAt (40000 + 10 * (c - 65)) = 42 + 7 * (c - 65) := by
                  unfold fnAt
                  rw [if_neg (by omega), if_pos (by omega)]; omega
                obtain ⟨t1, t2, t3, -⟩ := hRS.2.1 (c - 65).toNat (by omega)
                rw [if_pos hAF, hC, if_neg (by omega), call3_eq _ _ _ (by omega) (by omega)]
                exact (call_out hX ih o0 hP h30 (by omega) o1 p0 hpl (by omega) (by omega) (by omega) (by omega) (by rw [hfn, ← t1]; exact congrArg A (by omega)) t2 (by omega) (Or.inr (Or.inr (Or.inr (Or.inl ⟨rfl, by omega, by omega, t2, t3, by omega⟩))))).bo
              · rw [if_neg hAF, wi9 ⟨by omega, by omega⟩ (by decide) (by decide) (by omega) (by omega), Option.bind_some, e_b10]
                by_cases hpp : 112 ≤ c ∧ c ≤ 111 + S.2.2.2.1
                · have hC : nodeC S.2.2.2.1 c = 50000 + 10 * (c - 112) := by
                    unfold nodeC
                    rw [if_neg (by omega), if_neg (by omega), if_neg haf, if_neg hAF, if_pos hpp]
                  have hfn : fnAt (50000 + 10 * (c - 112)) = 84 + 8 * (c - 112) := by
                    unfold fnAt
                    rw [if_neg (by omega), if_neg (by omega)]; omega
                  obtain ⟨t1, t2, t3, -⟩ := hm.2.2.2.1 (c - 112).toNat (by omega)
                  rw [if_pos (c := 112 ≤ c ∧ c ≤ 112 + S.2.2.2.1 - 1) (by omega), hC, if_neg (by omega), call4_eq _ _ _ (by omega) (by omega)]
                  exact (call_out hX ih o0 hP h30 (by omega) o1 p0 hpl (by omega) (by omega) (by omega) (by omega) (by rw [hfn, ← t1]; exact congrArg A (by omega)) t2 (by omega) (Or.inr (Or.inr (Or.inr (Or.inr ⟨rfl, by omega, by omega, t2, t3, by omega⟩))))).bo
                · have hC : nodeC S.2.2.2.1 c = -1 := by
                    unfold nodeC
                    rw [if_neg (by omega), if_neg (by omega), if_neg haf, if_neg hAF, if_neg hpp]
                  rw [if_neg (c := 112 ≤ c ∧ c ≤ 112 + S.2.2.2.1 - 1) (by omega), hC, if_pos rfl, Option.bind_some, nx_fail]
                  exact Or.inl ⟨p, P, (rdd, P.1, w, o, p), rfl, rfl⟩
      · rw [if_neg h30]
        have e30 : P.1 = 30 := by omega
        rw [if_pos e30]
        refine Or.inl ⟨p, P, (rdd, P.1, w, o, p), rfl, ?_⟩
        split
        · rw [Option.bind_some, nx_fail]
        · rw [Option.bind_some, nx_fail]
    · rw [if_neg hpl]
      have hh : hr f L p = -1 := by unfold hr; rw [if_neg hpl]
      have hnV : nodeV S.2.2.2.1 (-1) = -1 := by
        unfold nodeV nodeC
        rw [if_neg (by decide), if_neg (by decide), if_neg (by decide), if_neg (by decide), if_neg (by decide), if_neg (by omega)]
      rw [hh, hnV, if_pos rfl, Option.bind_some, nx_fail]
      exact Or.inl ⟨p, P, (rdd, P.1, w, o, p), rfl, rfl⟩
end EY
