theorem entry_no {M : MT} {p1 p2 e z : Int} (g1 : Rg p1) (g2 : Rg p2) (hz : z = 0 ∨ z = 1) (hno : ¬ ((0 ≤ p1 ∧ p1 ≤ 5) ∧ (0 ≤ p2 ∧ p2 ≤ 3) ∧ z = 1)) : X10_setsEntry M.1 M.2.1 M.2.2.1 M.2.2.2.1 p1 p2 e z = some (-2, M.1, M.2.1, M.2.2.1, bmp M.2.2.2.1 (-2)) := by
  unfold X10_setsEntry
  rw [X10_isFunction_eq g1, Option.bind_some, e_b10, X10_error_eq _ (by decide) (by decide), lg9 g2, in10 g2 (by decide) (by decide) (by decide) (by decide), Option.bind_some, e_b10]
  by_cases c1 : 0 ≤ p1 ∧ p1 ≤ 5
  · rw [if_pos c1]
    by_cases c2 : 0 ≤ p2 ∧ p2 ≤ 3
    · rw [if_pos c2]
      rcases hz with rfl | rfl
      · rw [e_b0]; rfl
      · exact absurd ⟨c1, c2, rfl⟩ hno
    · rw [if_neg c2]; rfl
  · rw [if_neg c1]; rfl
theorem sim_setSource (i : Int) (C : CM) (M : MT) (p1 p2 p3 : Int) (_ : 0 ≤ i) (_ : i ≤ 2048) (hR : REL i C M) (g1 : Rg p1) (g2 : Rg p2) (g3 : Rg p3) : ∃ (r : Int) (C' : CM) (M' : MT), cm_setSource C p1 p2 p3 = some (r, C') ∧ rm_setSource M p1 p2 p3 = some (r, M') ∧ REL (i + 4) C' M' := by
  have kC : cm_setSource C p1 p2 p3 = if 0 ≤ p1 ∧ p1 ≤ 5 then (if 0 ≤ p2 ∧ p2 ≤ 3 then (if 0 ≤ p3 ∧ p3 ≤ 2 then (X9_changeEntry C p1 p2 p3 0).bind (fun w13 => some (w13.1, w13.2)) else some (-2, setE C (bmp C.2.2.2.2.2.2.2 (-2)))) else some (-2, setE C (bmp C.2.2.2.2.2.2.2 (-2)))) else some (-2, setE C (bmp C.2.2.2.2.2.2.2 (-2))) := by
    unfold cm_setSource X9_setSource
    simp only [X9_isOld_eq g1, X9_isEntryPosition_eq g2, X9_isSource_eq g3, Option.bind_some, e_b10, ref_eq C (code := -2) (by decide) (by decide)]
  by_cases hc : (0 ≤ p1 ∧ p1 ≤ 5) ∧ (0 ≤ p2 ∧ p2 ≤ 3) ∧ (0 ≤ p3 ∧ p3 ≤ 2)
  · obtain ⟨c1, c2, c3⟩ := hc
    obtain ⟨f, rfl⟩ : ∃ f : Nat, p1 = (f : Int) := ⟨p1.toNat, by omega⟩
    obtain ⟨p, rfl⟩ : ∃ p : Nat, p2 = (p : Int) := ⟨p2.toNat, by omega⟩
    obtain ⟨z, C', M', h1, h2, h3, h4⟩ := entry_sim hR (f := f) (p := p) (by omega) (by omega) (q := p3) (r := 0) (e := p3) (Or.inr ⟨c3.1, c3.2, rfl⟩)
    refine ⟨z, C', M', ?_, ?_, h4⟩
    · rw [kC, if_pos c1, if_pos c2, if_pos c3, h1]
      rfl
    · unfold rm_setSource X10_setSource
      rw [lg9 g3, in10 g3 (by decide) (by decide) (by decide) (by decide), Option.bind_some, if_pos c3, h2]
      show some (z, M'.1, M'.2.1, M'.2.2.1, M'.2.2.2.1, M.2.2.2.2) = some (z, M')
      rw [← h3]
  · refine ⟨-2, _, _, ?_, ?_, rel_ref hR (code := -2) (by decide) (by decide)⟩
    · rw [kC]
      by_cases c1 : 0 ≤ p1 ∧ p1 ≤ 5
      · by_cases c2 : 0 ≤ p2 ∧ p2 ≤ 3
        · by_cases c3 : 0 ≤ p3 ∧ p3 ≤ 2
          · exact absurd ⟨c1, c2, c3⟩ hc
          · rw [if_pos c1, if_pos c2, if_neg c3]
        · rw [if_pos c1, if_neg c2]
      · rw [if_neg c1]
    · unfold rm_setSource X10_setSource
      rw [lg9 g3, in10 g3 (by decide) (by decide) (by decide) (by decide), Option.bind_some, entry_no g1 g2 (by by_cases h : 0 ≤ p3 ∧ p3 ≤ 2 <;> simp [h]) (fun h => hc ⟨h.1, h.2.1, by
        by_cases c3 : 0 ≤ p3 ∧ p3 ≤ 2
        · exact c3
        · have := h.2.2
          rw [if_neg c3] at this
          exact absurd this (by decide)⟩)]
      rfl
theorem sim_setConstant (i : Int) (C : CM) (M : MT) (p1 p2 p3 : Int) (_ : 0 ≤ i) (_ : i ≤ 2048) (hR : REL i C M) (g1 : Rg p1) (g2 : Rg p2) (g3 : Rg p3) : ∃ (r : Int) (C' : CM) (M' : MT), cm_setConstant C p1 p2 p3 = some (r, C') ∧ rm_setConstant M p1 p2 p3 = some (r, M') ∧ REL (i + 4) C' M' := by
  have kC : cm_setConstant C p1 p2 p3 = if 0 ≤ p1 ∧ p1 ≤ 5 then (if 0 ≤ p2 ∧ p2 ≤ 3 then (if 0 ≤ p3 ∧ p3 ≤ 99 then (X9_changeEntry C p1 p2 (-1) p3).bind (fun w13 => some (w13.1, w13.2)) else some (-2, setE C (bmp C.2.2.2.2.2.2.2 (-2)))) else some (-2, setE C (bmp C.2.2.2.2.2.2.2 (-2)))) else some (-2, setE C (bmp C.2.2.2.2.2.2.2 (-2))) := by
    unfold cm_setConstant X9_setConstant
    simp only [X9_isOld_eq g1, X9_isEntryPosition_eq g2, wi9 g3 (by decide) (by decide) (by decide) (by decide) (lo := 0) (hi := 99), Option.bind_some, e_b10, ref_eq C (code := -2) (by decide) (by decide)]
  by_cases hc : (0 ≤ p1 ∧ p1 ≤ 5) ∧ (0 ≤ p2 ∧ p2 ≤ 3) ∧ (0 ≤ p3 ∧ p3 ≤ 99)
  · obtain ⟨c1, c2, c3⟩ := hc
    obtain ⟨f, rfl⟩ : ∃ f : Nat, p1 = (f : Int) := ⟨p1.toNat, by omega⟩
    obtain ⟨p, rfl⟩ : ∃ p : Nat, p2 = (p : Int) := ⟨p2.toNat, by omega⟩
    obtain ⟨z, C', M', h1, h2, h3, h4⟩ := entry_sim hR (f := f) (p := p) (by omega) (by omega) (q := -1) (r := p3) (e := 100 + p3) (Or.inl ⟨rfl, c3.1, c3.2, rfl⟩)
    refine ⟨z, C', M', ?_, ?_, h4⟩
    · rw [kC, if_pos c1, if_pos c2, if_pos c3, h1]
      rfl
    · unfold rm_setConstant X10_setConstant
      rw [lg9 g3, in10 g3 (by decide) (by decide) (by decide) (by decide), Option.bind_some, e_b10, if_pos c3, if_pos c3, h2]
      show some (z, M'.1, M'.2.1, M'.2.2.1, M'.2.2.2.1, M.2.2.2.2) = some (z, M')
      rw [← h3]
  · refine ⟨-2, _, _, ?_, ?_, rel_ref hR (code := -2) (by decide) (by decide)⟩
    · rw [kC]
      by_cases c1 : 0 ≤ p1 ∧ p1 ≤ 5
      · by_cases c2 : 0 ≤ p2 ∧ p2 ≤ 3
        · by_cases c3 : 0 ≤ p3 ∧ p3 ≤ 99
          · exact absurd ⟨c1, c2, c3⟩ hc
          · rw [if_pos c1, if_pos c2, if_neg c3]
        · rw [if_pos c1, if_neg c2]
      · rw [if_neg c1]
    · unfold rm_setConstant X10_setConstant
      rw [lg9 g3, in10 g3 (by decide) (by decide) (by decide) (by decide), Option.bind_some, e_b10]
      by_cases c3 : 0 ≤ p3 ∧ p3 ≤ 99
      · rw [if_pos c3, if_pos c3, entry_no g1 g2 (Or.inr rfl) (fun h => hc ⟨h.1, h.2.1, c3⟩)]
        rfl
      · rw [if_neg c3, if_neg c3, entry_no g1 g2 (Or.inl rfl) (fun h => absurd h.2.2 (by decide))]
        rfl
theorem X4_reset_eq (P : Mp) {f : Nat} (hf : f < 6) : X4_resetEntries P (f : Int) = some (P.1, upI (upI (upI (upI P.2.1 (4 * f + 0) 0) (4 * f + 1) 1) (4 * f + 2) 2) (4 * f + 3) (-1), upI (upI (upI (upI P.2.2 (4 * f + 0) 0) (4 * f + 1) 0) (4 * f + 2) 0) (4 * f + 3) 0) := by
  have ef : 4 * ((f : Int)).toNat = 4 * f := by omega
  have st : ∀ (kx : Mp → Option Mp) (n p : Nat) (V : Mp), p < 4 → X4_resetEntries_L2 kx (f : Int) (n + 1) (p : Int) V = X4_resetEntries_L2 kx (f : Int) n ((p : Int) + 1) (V.1, upI V.2.1 (4 * f + p) (if p ≤ 2 then (p : Int) else -1), upI V.2.2 (4 * f + p) 0) := by
    intro kx n p V hp
    rw [X4_resetEntries_L2, e_LT (by omega) (by omega) (by decide) (by decide), if_pos (by omega), e_lt, e_LE (by omega) (by omega) (by decide) (by decide)]
    have ep : 4 * ((f : Int)).toNat + ((p : Int)).toNat = 4 * f + p := by omega
    by_cases h2 : p ≤ 2
    · rw [if_pos (by omega), if_pos h2]
      dsimp only
      rw [X4_putEntry_eq _ (by omega) (by omega) (by omega) (by omega), Option.bind_some, ep]
    · rw [if_neg (by omega), if_neg h2]
      dsimp only
      rw [X4_putEntry_eq _ (by omega) (by omega) (by omega) (by omega), Option.bind_some, ep]
  unfold X4_resetEntries
  refine (st _ 999 0 P (by decide)).trans ?_
  refine (st _ 998 1 _ (by decide)).trans ?_
  refine (st _ 997 2 _ (by decide)).trans ?_
  refine (st _ 996 3 _ (by decide)).trans ?_
  show X4_resetEntries_L2 _ _ (995 + 1) _ _ = _
  rw [X4_resetEntries_L2, e_LT (by decide) (by decide) (by decide) (by decide), if_neg (by decide)]
  rfl
theorem sim_map (i : Int) (C : CM) (M : MT) (p1 p2 : Int) (_ : 0 ≤ i) (_ : i ≤ 2048) (hR : REL i C M) (g1 : Rg p1) (g2 : Rg p2) : ∃ (r : Int) (C' : CM) (M' : MT), cm_map C p1 p2 = some (r, C') ∧ rm_map M p1 p2 = some (r, M') ∧ REL (i + 4) C' M' := by
  by_cases c1 : 0 ≤ p1 ∧ p1 ≤ 5
  · by_cases c2 : 0 ≤ p2 ∧ p2 ≤ 5
    · obtain ⟨f, rfl⟩ : ∃ f : Nat, p1 = (f : Int) := ⟨p1.toNat, by omega⟩
      obtain ⟨t, rfl⟩ : ∃ t : Nat, p2 = (t : Int) := ⟨p2.toNat, by omega⟩
      have hf : f < 6 := by omega
      have ef : ((f : Int)).toNat = f := by omega
      obtain ⟨t0, t1, t2⟩ := tgt_bd hR.1 hf
      obtain ⟨hS, hH, hI, hE⟩ := hR
      obtain ⟨h', sv, s1, s2, s3⟩ := save_sim hS hH
      have ea : (117 + 5 * (f : Int)).toNat = 117 + 5 * f := by omega
      by_cases c3 : C.1.2.2.2.2.2.2.1.1 f = -1
      · have m1 := hS.2.2.2.2.1.setE hf (p := 0) (by decide) (q := 0) (r := 0) (e := 0) (Or.inr ⟨by decide, by decide, rfl⟩)
        have m2 := m1.setE hf (p := 1) (by decide) (q := 1) (r := 0) (e := 1) (Or.inr ⟨by decide, by decide, rfl⟩)
        have m3 := m2.setE hf (p := 2) (by decide) (q := 2) (r := 0) (e := 2) (Or.inr ⟨by decide, by decide, rfl⟩)
        have m4 := m3.setE hf (p := 3) (by decide) (q := -1) (r := 0) (e := 100) (Or.inl ⟨rfl, by decide, by decide, rfl⟩)
        have m5 := m4.setT hf (v := (t : Int)) (by omega) (by omega)
        have hS' := hS.withMap (fun j hj => by
          show upI (upI (upI (upI (upI M.1 (118 + 5 * f + 0) 0) (118 + 5 * f + 1) 1) (118 + 5 * f + 2) 2) (118 + 5 * f + 3) 100) (117 + 5 * f) (t : Int) j = M.1 j
          rw [uI_ne (by omega), uI_ne (by omega), uI_ne (by omega), uI_ne (by omega), uI_ne (by omega)]) m5
        obtain ⟨z, z1, z2, z3⟩ := faith_both hS' hf (t := t) (by omega) (uI_same _)
        refine ⟨z, ((C.1.1, C.1.2.1, C.1.2.2.1, C.1.2.2.2.1, C.1.2.2.2.2.1, C.1.2.2.2.2.2.1, _, C.1.2.2.2.2.2.2.2), h', C.2.2), (_, sv, h'.2.1, M.2.2.2), ?_, ?_, hS', s3, hI, hE.mono⟩
        · unfold cm_map X9_map X9_faithfulness
          rw [X9_isOld_eq g1, Option.bind_some, e_b10, if_pos c1, X9_isNew_eq g2, Option.bind_some, e_b10, if_pos c2, s1, Option.bind_some, X4_targetOf_eq _ c1.1 c1.2, Option.bind_some, ef, e_EQ (by omega) (by omega) (by decide) (by decide), if_pos c3, X4_reset_eq _ hf, Option.bind_some, X4_putTarget_eq _ c1.1 c1.2, Option.bind_some, ef]
          refine (congrArg (fun o => Option.bind o _) z2).trans ?_
          rfl
        · unfold rm_map X10_map
          rw [X10_isFunction_eq g1, Option.bind_some, e_b10, if_pos c1, X10_isFunction_eq g2, Option.bind_some, e_b10, if_pos c2, s2, Option.bind_some, e_rd (by omega) (by omega), ea, t0, e_EQ (by omega) (by omega) (by decide) (by decide), if_pos c3, e_wr (by omega) (by omega), e_wr (by omega) (by omega), e_wr (by omega) (by omega), e_wr (by omega) (by omega), e_wr (by omega) (by omega), ea, show (117 + 5 * (f : Int) + 1).toNat = 118 + 5 * f + 0 by omega, show (117 + 5 * (f : Int) + 2).toNat = 118 + 5 * f + 1 by omega, show (117 + 5 * (f : Int) + 3).toNat = 118 + 5 * f + 2 by omega, show (117 + 5 * (f : Int) + 4).toNat = 118 + 5 * f + 3 by omega, z3]
          rfl
      · have m5 := hS.2.2.2.2.1.setT hf (v := (t : Int)) (by omega) (by omega)
        have hS' := hS.withMap (fun j hj => by
          show upI M.1 (117 + 5 * f) (t : Int) j = M.1 j
          rw [uI_ne (by omega)]) m5
        obtain ⟨z, z1, z2, z3⟩ := faith_both hS' hf (t := t) (by omega) (uI_same _)
        refine ⟨z, ((C.1.1, C.1.2.1, C.1.2.2.1, C.1.2.2.2.1, C.1.2.2.2.2.1, C.1.2.2.2.2.2.1, _, C.1.2.2.2.2.2.2.2), h', C.2.2), (_, sv, h'.2.1, M.2.2.2), ?_, ?_, hS', s3, hI, hE.mono⟩
        · unfold cm_map X9_map X9_faithfulness
          rw [X9_isOld_eq g1, Option.bind_some, e_b10, if_pos c1, X9_isNew_eq g2, Option.bind_some, e_b10, if_pos c2, s1, Option.bind_some, X4_targetOf_eq _ c1.1 c1.2, Option.bind_some, ef, e_EQ (by omega) (by omega) (by decide) (by decide), if_neg c3, X4_putTarget_eq _ c1.1 c1.2, Option.bind_some, ef]
          refine (congrArg (fun o => Option.bind o _) z2).trans ?_
          rfl
        · unfold rm_map X10_map
          rw [X10_isFunction_eq g1, Option.bind_some, e_b10, if_pos c1, X10_isFunction_eq g2, Option.bind_some, e_b10, if_pos c2, s2, Option.bind_some, e_rd (by omega) (by omega), ea, t0, e_EQ (by omega) (by omega) (by decide) (by decide), if_neg c3, e_wr (by omega) (by omega), ea, z3]
          rfl
    · refine ⟨-2, _, _, ?_, ?_, rel_ref hR (code := -2) (by decide) (by decide)⟩
      · unfold cm_map X9_map
        rw [X9_isOld_eq g1, Option.bind_some, e_b10, if_pos c1, X9_isNew_eq g2, Option.bind_some, e_b10, if_neg c2, ref_eq C (by decide) (by decide)]
      · unfold rm_map X10_map
        rw [X10_isFunction_eq g1, Option.bind_some, e_b10, if_pos c1, X10_isFunction_eq g2, Option.bind_some, e_b10, if_neg c2, X10_error_eq _ (by decide) (by decide)]
        rfl
  · refine ⟨-2, _, _, ?_, ?_, rel_ref hR (code := -2) (by decide) (by decide)⟩
    · unfold cm_map X9_map
      rw [X9_isOld_eq g1, Option.bind_some, e_b10, if_neg c1, ref_eq C (by decide) (by decide)]
    · unfold rm_map X10_map
      rw [X10_isFunction_eq g1, Option.bind_some, e_b10, if_neg c1, X10_error_eq _ (by decide) (by decide)]
      rfl
/-! adapters -/
theorem ad_loop {T : FT} {m : Int} {N A : Arr} (h : RAd T m N A) {f : Nat} (hf : f < 6) (kx : Int → Option Int) : ∀ (k fuel y : Nat) (z : Int), (y : Int) + k = m → k < fuel → X10_adapter_L4 kx A (f : Int) fuel z (y : Int) = kx (if (y : Int) ≤ N f then N f else z) := by
  obtain ⟨a1, a2, a3, a4, a5, a6⟩ := h
  intro k
  induction k with
  | zero =>
    intro fuel y z h1 h2
    obtain ⟨n, rfl⟩ : ∃ n, fuel = n + 1 := ⟨fuel - 1, by omega⟩
    have hN : ¬ ((y : Int) ≤ N f) := by
      rcases a6 f hf with ⟨q1, -⟩ | ⟨q1, q2, -⟩ <;> omega
    rw [X10_adapter_L4, e_rd (by decide) (by decide), show ((116 : Int)).toNat = 116 from rfl, a3, e_LT (by omega) (by omega) (by omega) (by omega), if_neg (by omega), if_neg hN]
  | succ k ih =>
    intro fuel y z h1 h2
    obtain ⟨n, rfl⟩ : ∃ n, fuel = n + 1 := ⟨fuel - 1, by omega⟩
    have hy : y < m.toNat := by omega
    have b := a5 y hy
    have e3 : (y : Int) + 1 = ((y + 1 : Nat) : Int) := by omega
    rw [X10_adapter_L4, e_rd (by decide) (by decide), show ((116 : Int)).toNat = 116 from rfl, a3, e_LT (by omega) (by omega) (by omega) (by omega), if_pos (by omega), e_rd (by omega) (by omega), show (84 + 8 * (y : Int) + 7).toNat = 91 + 8 * y by omega, e_lt, e_EQ (by omega) (by omega) (by omega) (by omega), e3]
    rcases a6 f hf with ⟨q1, q2⟩ | ⟨q1, q2, q3⟩
    · rw [if_neg (q2 y hy)]
      dsimp only
      rw [ih n (y + 1) _ (by omega) (by omega), if_neg (by omega), if_neg (by omega)]
    · by_cases hq : A (91 + 8 * y) = (f : Int)
      · have := (q3 y hy).mp hq
        rw [if_pos hq]
        dsimp only
        rw [ih n (y + 1) _ (by omega) (by omega), if_neg (by omega), if_pos (by omega), this]
      · have : ¬ ((y : Int) = N f) := fun h => hq ((q3 y hy).mpr h)
        rw [if_neg hq]
        dsimp only
        rw [ih n (y + 1) _ (by omega) (by omega)]
        by_cases hle : (y : Int) ≤ N f
        · rw [if_pos hle, if_pos (by omega)]
        · rw [if_neg hle, if_neg (by omega)]
theorem X10_adapter_eq {S : St} {A : Arr} (hS : RS S A) {f : Nat} (hf : f < 6) : X10_adapter A (f : Int) = some (S.2.2.2.2.1 f) := by
  have h := hS.2.2.1
  obtain ⟨a1, a2, a3, a4, a5, a6⟩ := id h
  refine (ad_loop h hf (fun w5 => some w5) S.2.2.2.1.toNat FU 0 (-1) (by omega) (by rw [FU_eq]; omega)).trans ?_
  rcases a6 f hf with ⟨q1, -⟩ | ⟨q1, q2, -⟩
  · rw [if_neg (by omega), q1]
  · rw [if_pos (by omega)]
theorem adn_bd {S : St} {A : Arr} (hS : RS S A) {f : Nat} (hf : f < 6) : -1 ≤ S.2.2.2.2.1 f ∧ S.2.2.2.2.1 f ≤ 3 := by
  obtain ⟨a1, a2, a3, a4, a5, a6⟩ := hS.2.2.1
  rcases a6 f hf with ⟨q1, -⟩ | ⟨q1, q2, -⟩ <;> omega
theorem sim_adapterOf (i : Int) (C : CM) (M : MT) (p1 : Int) (_ : 0 ≤ i) (_ : i ≤ 2048) (hR : REL i C M) (g1 : Rg p1) : ∃ (r : Int) (C' : CM) (M' : MT), cm_adapterOf C p1 = some (r, C') ∧ rm_adapterOf M p1 = some (r, M') ∧ REL (i + 4) C' M' := by
  by_cases c1 : 0 ≤ p1 ∧ p1 ≤ 5
  · obtain ⟨f, rfl⟩ : ∃ f : Nat, p1 = (f : Int) := ⟨p1.toNat, by omega⟩
    have hf : f < 6 := by omega
    have b := adn_bd hR.1 hf
    by_cases c2 : C.1.2.2.2.2.1 f = -1
    · refine ⟨-3, _, _, ?_, ?_, rel_ref hR (code := -3) (by decide) (by decide)⟩
      · unfold cm_adapterOf X9_adapterOf
        rw [X9_isOld_eq g1, Option.bind_some, e_b10, if_pos c1, X8_adapterNumber_eq _ c1.1 c1.2, Option.bind_some, show ((f : Int)).toNat = f by omega, e_EQ (by omega) (by omega) (by decide) (by decide), if_pos c2, ref_eq C (by decide) (by decide)]
      · unfold rm_adapterOf X10_adapterOf
        rw [X10_isFunction_eq g1, Option.bind_some, e_b10, if_pos c1, X10_adapter_eq hR.1 hf, Option.bind_some, e_EQ (by omega) (by omega) (by decide) (by decide), if_pos c2, X10_error_eq _ (by decide) (by decide)]
        rfl
    · refine ⟨C.1.2.2.2.2.1 f, C, M, ?_, ?_, hR.mono⟩
      · unfold cm_adapterOf X9_adapterOf
        rw [X9_isOld_eq g1, Option.bind_some, e_b10, if_pos c1, X8_adapterNumber_eq _ c1.1 c1.2, Option.bind_some, show ((f : Int)).toNat = f by omega, e_EQ (by omega) (by omega) (by decide) (by decide), if_neg c2]
      · unfold rm_adapterOf X10_adapterOf
        rw [X10_isFunction_eq g1, Option.bind_some, e_b10, if_pos c1, X10_adapter_eq hR.1 hf, Option.bind_some, e_EQ (by omega) (by omega) (by decide) (by decide), if_neg c2]
        rfl
  · refine ⟨-2, _, _, ?_, ?_, rel_ref hR (code := -2) (by decide) (by decide)⟩
    · unfold cm_adapterOf X9_adapterOf
      rw [X9_isOld_eq g1, Option.bind_some, e_b10, if_neg c1, ref_eq C (by decide) (by decide)]
    · unfold rm_adapterOf X10_adapterOf
      rw [X10_isFunction_eq g1, Option.bind_some, e_b10, if_neg c1, X10_error_eq _ (by decide) (by decide)]
      rfl
/-! nodes of the reference -/
theorem X10_kind_eq {a : Int} (h0 : 0 ≤ a) (h1 : a ≤ 100000) : X10_kind a = some (a / 10000) := by
  unfold X10_kind
  rw [e_dv (by omega) (by omega), Int.tdiv_eq_ediv_of_nonneg h0]
theorem X10_which_eq {a : Int} (h0 : 0 ≤ a) (h1 : a ≤ 100000) : X10_which a = some (a / 10 % 1000) := by
  unfold X10_which
  rw [e_dv (by omega) (by omega), Int.tdiv_eq_ediv_of_nonneg h0, e_rm (by omega) (by omega), Int.tmod_eq_emod_of_nonneg (by omega)]
theorem X10_arguments_eq {a : Int} (h0 : 0 ≤ a) (h1 : a ≤ 100000) : X10_arguments a = some (a % 10) := by
  unfold X10_arguments
  rw [e_rm (by omega) (by omega), Int.tmod_eq_emod_of_nonneg h0]
theorem nodeOK.facts {m kd nm ac a : Int} (hm : m ≤ 4) (h : nodeOK m kd nm ac a) : 0 ≤ a ∧ a ≤ 60000 ∧ a % 10 = ac ∧ (a / 10000 = 3 ↔ kd = 2) ∧ (2 < a / 10000 ↔ (kd = 2 ∨ kd = 3 ∨ kd = 4)) ∧ 0 ≤ kd ∧ kd ≤ 4 ∧ 0 ≤ ac ∧ ac ≤ 4 := by
  rcases h with ⟨a1, a2, a3, a4, a5⟩ | ⟨a1, a2, a3, a4⟩ | ⟨a1, a2, a3, a4, a5, a6⟩ | ⟨a1, a2, a3, a4, a5, a6⟩ | ⟨a1, a2, a3, a4, a5, a6⟩ <;> refine ⟨?_, ?_, ?_, ?_, ?_, ?_, ?_, ?_, ?_⟩ <;> omega
theorem site_loop {P : Pg} {m : Int} {A : Arr} (hm : m ≤ 4) (h : RPg P m A) : ∀ (k : Nat) (y : Nat), (y : Int) + k = P.1 → ∃ z : Int, 0 ≤ z ∧ z ≤ k ∧ (∀ (fuel : Nat) (s : Int) (kx : Int → Option Int), k < fuel → X6_countSites_L4 kx P fuel s (y : Int) = kx (s + z)) ∧ ∀ (fuel : Nat) (s : Int) (kx : Int → Option Int), k < fuel → X10_siteMany_L4 kx A fuel s (y : Int) = kx (s + z) := by
  obtain ⟨h1, h2, h3, h4, h5, h6⟩ := h
  intro k
  induction k with
  | zero =>
    intro y hy
    refine ⟨0, Int.le_refl _, Int.le_refl _, fun fuel s kx hf => ?_, fun fuel s kx hf => ?_⟩
    · obtain ⟨n, rfl⟩ : ∃ n, fuel = n + 1 := ⟨fuel - 1, by omega⟩
      rw [X6_countSites_L4, e_LT (by omega) (by omega) (by omega) (by omega), if_neg (by omega), Int.add_zero]
    · obtain ⟨n, rfl⟩ : ∃ n, fuel = n + 1 := ⟨fuel - 1, by omega⟩
      rw [X10_siteMany_L4, e_rd (by decide) (by decide), show ((148 : Int)).toNat = 148 from rfl, h3, e_LT (by omega) (by omega) (by omega) (by omega), if_neg (by omega), Int.add_zero]
  | succ k ih =>
    intro y hy
    obtain ⟨z, z0, z1, z2, z3⟩ := ih (y + 1) (by omega)
    have e3 : (y : Int) + 1 = ((y + 1 : Nat) : Int) := by omega
    obtain ⟨n0, n1, n2, n3, n4, n5, n6, n7, n8⟩ := (h4 y (by omega)).facts hm
    refine ⟨(if P.2.1 y = 2 then 1 else 0) + z, by split <;> omega, by split <;> omega, fun fuel s kx hf => ?_, fun fuel s kx hf => ?_⟩
    · obtain ⟨n, rfl⟩ : ∃ n, fuel = n + 1 := ⟨fuel - 1, by omega⟩
      rw [X6_countSites_L4, e_LT (by omega) (by omega) (by omega) (by omega), if_pos (by omega), e_rd (by omega) (by omega), show ((y : Int)).toNat = y by omega, e_lt, e_EQ (by omega) (by omega) (by decide) (by decide), e3]
      by_cases hq : P.2.1 y = 2
      · rw [if_pos hq, if_pos hq]
        dsimp only
        rw [z2 n _ kx (by omega)]
        congr 1
        omega
      · rw [if_neg hq, if_neg hq]
        dsimp only
        rw [z2 n _ kx (by omega)]
        congr 1
        omega
    · obtain ⟨n, rfl⟩ : ∃ n, fuel = n + 1 := ⟨fuel - 1, by omega⟩
      rw [X10_siteMany_L4, e_rd (by decide) (by decide), show ((148 : Int)).toNat = 148 from rfl, h3, e_LT (by omega) (by omega) (by omega) (by omega), if_pos (by omega), e_rd (by omega) (by omega), show (149 + (y : Int)).toNat = 149 + y by omega, X10_kind_eq n0 (by omega), Option.bind_some, e_lt, e_EQ (by omega) (by omega) (by decide) (by decide), e3]
      by_cases hq : P.2.1 y = 2
      · rw [if_pos (n3.mpr hq), if_pos hq]
        dsimp only
        rw [z3 n _ kx (by omega)]
        congr 1
        omega
      · rw [if_neg (fun h => hq (n3.mp h)), if_neg hq]
        dsimp only
        rw [z3 n _ kx (by omega)]
        congr 1
        omega
theorem sites_both {S : St} {A : Arr} (hS : RS S A) : ∃ z : Int, 0 ≤ z ∧ z ≤ 30 ∧ X6_countSites S.2.2.2.2.2.2.2.1 = some z ∧ X10_siteMany A = some z := by
  have hm := hS.2.2.1.2.1
  have hsz := hS.size
  obtain ⟨z, z0, z1, z2, z3⟩ := site_loop hm hS.2.2.2.2.2.1 S.2.2.2.2.2.2.2.1.1.toNat 0 (by omega)
  refine ⟨z, z0, by omega, ?_, ?_⟩
  · unfold X6_countSites
    refine (z2 FU 0 _ (by rw [FU_eq]; omega)).trans ?_
    rw [Int.zero_add]
  · unfold X10_siteMany
    refine (z3 FU 0 _ (by rw [FU_eq]; omega)).trans ?_
    rw [Int.zero_add]
theorem sim_sites (i : Int) (C : CM) (M : MT) (_ : 0 ≤ i) (_ : i ≤ 2048) (hR : REL i C M) : ∃ (r : Int) (C' : CM) (M' : MT), cm_sites C = some (r, C') ∧ rm_sites M = some (r, M') ∧ REL (i + 4) C' M' := by
  obtain ⟨z, z0, z1, z2, z3⟩ := sites_both hR.1
  refine ⟨z, C, M, ?_, ?_, hR.mono⟩
  · unfold cm_sites X9_sites
    rw [z2]
    rfl
  · unfold rm_sites X10_sites
    rw [z3]
    rfl
