theorem RF.bd {T : FT} {A : Arr} {base : Nat} {mx : Int} (hmx : mx ≤ 10) (h : RF T A base 7 6 mx) : ∀ j : Nat, j < 42 → -2147483648 ≤ A (base + j) ∧ A (base + j) ≤ 2147483647 := by
  intro j hj
  obtain ⟨g1, g2, g3, g4, g5, g6⟩ := h (j / 7) (by omega)
  rcases (show j % 7 = 0 ∨ j % 7 = 1 ∨ 2 ≤ j % 7 by omega) with q | q | q
  · rw [show base + j = base + 7 * (j / 7) by omega, g1]
    omega
  · rw [show base + j = base + 7 * (j / 7) + 1 by omega, g4]
    omega
  · obtain ⟨u0, u1, u2⟩ := g6 (j % 7 - 2) (by omega)
    rw [show base + j = base + 7 * (j / 7) + 2 + (j % 7 - 2) by omega, u0]
    omega
theorem sim_digest (i : Int) (C : CM) (M : MT) (hi0 : 0 ≤ i) (hi1 : i ≤ 2048) (hR : REL i C M) : ∃ (r : Int) (C' : CM) (M' : MT), cm_digest C = some (r, C') ∧ rm_digest M = some (r, M') ∧ REL (i + 4) C' M' := by
  obtain ⟨hS, hH, hI, hE⟩ := id hR
  obtain ⟨hok, hin, hc0, hc4, hsm, hs⟩ := id hH
  obtain ⟨t1, t2, t3, t4⟩ := id hI
  have hal := hS.2.2.2.1
  obtain ⟨V', w', t', o', l', r1, r2, r3, r4⟩ := write_sim hS C.2.2.2.2.1 M.2.2.2.2.2.2.2.2.1 M.2.2.2.2.2.2.2.2.2.2.2.2.2.2.2.2.2.2.2.2.2.1 M.2.2.2.2.2.2.2.2.2.1 M.2.2.2.2.2.2.2.2.2.2.2.2.2.2.2.2.2.2.2.2.2.2
  obtain ⟨u1, u2, u3, u4, u5, u6, u7⟩ := r1
  obtain ⟨z, z0, z1, z2, z3⟩ := sites_both hS
  obtain ⟨N, hN⟩ : ∃ N : Nat, V'.2.1 = (N : Int) := ⟨V'.2.1.toNat, by omega⟩
  have hEe : hfo M.2.2.2.1 0 4 2683 = hfo C.2.2.2.2.2.2.2 0 4 2683 := hfo_congr (fun j hj => by rw [Nat.zero_add]; exact (hE j hj).1)
  obtain ⟨H5, m1, m2⟩ := mixM_loop hS C rfl M.2.2.1 M.2.2.2.1 M.2.2.2.2.2.1 M.2.2.2.2.2.2.2.2.1 M.2.2.2.2.2.2.2.2.2.1 M.2.2.2.2.2.2.2.2.2.2.2.2.2.2.2.2.2.2.2.2.2.1 M.2.2.2.2.2.2.2.2.2.2.2.2.2.2.2.2.2.2.2.2.2.2 6 0 (hfo M.1 0 84 (31 * hfo C.2.2.2.2.2.2.2 0 4 2683 + C.2.2.1.2.1)) (by omega)
  have hT : hfo t' 0 N (31 * H5 + C.1.2.2.2.2.2.1) = hfo V'.1 0 N (31 * H5 + C.1.2.2.2.2.2.1) := hfo_congr (fun j hj => by rw [Nat.zero_add]; exact (u6 j (by omega)).1)
  have hO : hfo M.1 179 7 (31 * hfo V'.1 0 N (31 * H5 + C.1.2.2.2.2.2.1) + z) = hfo C.1.2.2.2.2.2.2.2.2 1 7 (31 * hfo V'.1 0 N (31 * H5 + C.1.2.2.2.2.2.1) + z) := hfo_congr (fun j hj => by
    rw [show 179 + j = 178 + (1 + j) by omega]
    exact (hS.2.2.2.2.2.2 (1 + j) (by omega) (by omega)).1)
  have h84 : hfo M.1 42 42 (hfo M.1 0 42 (31 * hfo C.2.2.2.2.2.2.2 0 4 2683 + C.2.2.1.2.1)) = hfo M.1 0 84 (31 * hfo C.2.2.2.2.2.2.2 0 4 2683 + C.2.2.1.2.1) := hfo_add M.1 0 _ 42 42
  refine ⟨31 * hfo C.1.2.2.2.2.2.2.2.2 1 7 (31 * hfo V'.1 0 N (31 * H5 + C.1.2.2.2.2.2.1) + z) + C.2.1.2.1, (C.1, C.2.1, C.2.2.1, C.2.2.2.1, V', C.2.2.2.2.2), setT M w' o' t' l', ?_, ?_, hS, hH, hI, hE.mono⟩
  · unfold cm_digest X9_digest
    refine (cdg6 _ C 2683 (fun j hj => ⟨by have := (hE j hj).2.1; omega, by have := (hE j hj).2.2; omega⟩) 4 FU 0 (by omega) (by rw [FU_eq]; omega)).trans ?_
    rw [X9_mix_eq (by omega) (by omega), Option.bind_some]
    have f1 : X9_mixFunctions 6 C.1.1 (31 * hfo C.2.2.2.2.2.2.2 0 4 2683 + C.2.2.1.2.1) = some (hfo M.1 0 42 (31 * hfo C.2.2.2.2.2.2.2 0 4 2683 + C.2.2.1.2.1)) := mixF_loop (by decide) hS.1 (fun w14 => some w14) _ 6 FU 0 (by omega) (by rw [FU_eq]; omega)
    have f2 : X9_mixFunctions 6 C.1.2.1 (hfo M.1 0 42 (31 * hfo C.2.2.2.2.2.2.2 0 4 2683 + C.2.2.1.2.1)) = some (hfo M.1 0 84 (31 * hfo C.2.2.2.2.2.2.2 0 4 2683 + C.2.2.1.2.1)) := by
      rw [← h84]
      exact mixF_loop (by decide) hS.2.1 (fun w14 => some w14) _ 6 FU 0 (by omega) (by rw [FU_eq]; omega)
    have f3 : X9_mixMappings C (hfo M.1 0 84 (31 * hfo C.2.2.2.2.2.2.2 0 4 2683 + C.2.2.1.2.1)) = some H5 := m1 FU (fun w15 => some w15) (by rw [FU_eq]; omega)
    have f4 : X9_mixProgram C (31 * H5 + C.1.2.2.2.2.2.1) = some (31 * hfo V'.1 0 N (31 * H5 + C.1.2.2.2.2.2.1) + z, (C.1, C.2.1, C.2.2.1, C.2.2.2.1, V', C.2.2.2.2.2)) := by
      unfold X9_mixProgram
      rw [r3, Option.bind_some]
      refine (cdg19 _ (C.1, C.2.1, C.2.2.1, C.2.2.2.1, V', C.2.2.2.2.2) _ (N := N) (by omega) hN (fun j hj => by
        have := u6 (0 + j) (by omega)
        exact ⟨by show _ ≤ V'.1 (0 + j); omega, by show V'.1 (0 + j) ≤ _; omega⟩) N FU 0 (by omega) (by rw [FU_eq]; omega)).trans ?_
      rw [z2, Option.bind_some, X9_mix_eq (by omega) (by omega), Option.bind_some]
    rw [f1, Option.bind_some, f2, Option.bind_some, f3, Option.bind_some, X9_mix_eq (by omega) (by omega), Option.bind_some, f4, Option.bind_some]
    refine (cdg94 _ (C.1, C.2.1, C.2.2.1, C.2.2.2.1, V', C.2.2.2.2.2) _ (fun j hj => by
      have := hS.2.2.2.2.2.2 (1 + j) (by omega) (by omega)
      exact ⟨by show _ ≤ C.1.2.2.2.2.2.2.2.2 (1 + j); omega, by show C.1.2.2.2.2.2.2.2.2 (1 + j) ≤ _; omega⟩) 7 FU 0 (by omega) (by rw [FU_eq]; omega)).trans ?_
    show (X9_mix _ C.2.1.2.1).bind _ = _
    rw [X9_mix_eq (by omega) (by omega), Option.bind_some]
  · have hg : X10_digest M.1 M.2.2.1 M.2.2.2.1 M.2.2.2.2.2.1 M.2.2.2.2.2.2.2.2.1 M.2.2.2.2.2.2.2.2.2.1 M.2.2.2.2.2.2.2.2.2.2.2.2.2.2.2.2.2.2.2.2.2.1 M.2.2.2.2.2.2.2.2.2.2.2.2.2.2.2.2.2.2.2.2.2.2 = some (31 * hfo C.1.2.2.2.2.2.2.2.2 1 7 (31 * hfo V'.1 0 N (31 * H5 + C.1.2.2.2.2.2.1) + z) + C.2.1.2.1, w', o', t', l') := by
      unfold X10_digest
      refine (dg6 _ _ _ _ _ _ _ _ _ 2683 (N := 4) (by decide) rfl (fun j hj => by rw [Nat.zero_add]; have := hE j hj; omega) 4 FU 0 (by omega) (by rw [FU_eq]; omega)).trans ?_
      rw [hEe, t1, e_lg (by omega) (by omega)]
      refine (dg45 _ _ _ _ _ _ _ _ _ _ (N := 84) (by decide) rfl (fun j hj => by
        by_cases hq : j < 42
        · exact hS.1.bd (by decide) j hq
        · have := hS.2.1.bd (by decide) (j - 42) (by omega)
          rw [show 42 + (j - 42) = 0 + j by omega] at this
          exact this) 84 FU 0 (by omega) (by rw [FU_eq]; omega)).trans ?_
      rw [t1] at m2
      refine (m2 FU _ (by rw [FU_eq]; omega)).trans ?_
      rw [e_rd (by decide) (by decide), show ((147 : Int)).toNat = 147 from rfl, hal.1, e_lg (by omega) (by omega), r4, Option.bind_some]
      refine (dg148 _ _ _ _ _ _ _ _ _ _ (N := N) (by omega) (by show l' = (N : Int); omega) (fun j hj => by
        have := u6 (0 + j) (by omega)
        show -2147483648 ≤ t' (0 + j) ∧ t' (0 + j) ≤ 2147483647
        omega) N FU 0 (by omega) (by rw [FU_eq]; omega)).trans ?_
      show (X10_siteMany M.1).bind (fun v19 => lgK v19 (X10_digest_L190 _ M.1 _ _ _ w' o' t' l' FU (31 * hfo t' 0 N (31 * H5 + C.1.2.2.2.2.2.1) + v19) 0)) = _
      rw [z3, Option.bind_some, e_lg (by omega) (by omega), hT]
      refine (dg190 _ _ _ _ _ _ _ _ _ _ (N := 7) (by decide) rfl (fun j hj => by
        have := hS.2.2.2.2.2.2 (1 + j) (by omega) (by omega)
        rw [show 179 + j = 178 + (1 + j) by omega]
        omega) 7 FU 0 (by omega) (by rw [FU_eq]; omega)).trans ?_
      rw [hO, hsm, e_lg (by omega) (by omega)]
    unfold rm_digest
    rw [hg]
    rfl
