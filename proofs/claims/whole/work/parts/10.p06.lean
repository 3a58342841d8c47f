theorem sim_setNew (i : Int) (C : CM) (M : MT) (p1 p2 p3 : Int) (_ : 0 ≤ i) (_ : i ≤ 2048) (hR : REL i C M) (g1 : Rg p1) (g2 : Rg p2) (g3 : Rg p3) : ∃ (r : Int) (C' : CM) (M' : MT), cm_setNew C p1 p2 p3 = some (r, C') ∧ rm_setNew M p1 p2 p3 = some (r, M') ∧ REL (i + 4) C' M' := by
  have kC : cm_setNew C p1 p2 p3 = if 0 ≤ p1 ∧ p1 ≤ 5 then (if 0 ≤ p2 ∧ p2 ≤ 4 then (if 0 ≤ p3 ∧ p3 ≤ 1 then (X9_changeShape_news C p1 p2 p3).bind (fun w13 => some (w13.1, w13.2)) else some (-2, setE C (bmp C.2.2.2.2.2.2.2 (-2)))) else some (-2, setE C (bmp C.2.2.2.2.2.2.2 (-2)))) else some (-2, setE C (bmp C.2.2.2.2.2.2.2 (-2))) := by
    unfold cm_setNew X9_setNew
    simp only [X9_isNew_eq g1, wi9 g2 (by decide) (by decide) (by decide) (by decide) (lo := 0) (hi := 4), wi9 g3 (by decide) (by decide) (by decide) (by decide) (lo := 0) (hi := 1), Option.bind_some, e_b10, ref_eq C (code := -2) (by decide) (by decide)]
  have kM : X10_setNew M.1 M.2.1 M.2.2.1 M.2.2.2.1 p1 p2 p3 = if 0 ≤ p1 ∧ p1 ≤ 5 then (if 0 ≤ p2 ∧ p2 ≤ 4 then (if 0 ≤ p3 ∧ p3 ≤ 1 then (X10_sets M.1 M.2.1 M.2.2.1 (42 + (7 * p1)) p2 p3).bind (fun w7 => some (w7.1, w7.2.1, w7.2.2.1, w7.2.2.2, M.2.2.2.1)) else some (-2, M.1, M.2.1, M.2.2.1, bmp M.2.2.2.1 (-2))) else some (-2, M.1, M.2.1, M.2.2.1, bmp M.2.2.2.1 (-2))) else some (-2, M.1, M.2.1, M.2.2.1, bmp M.2.2.2.1 (-2)) := by
    unfold X10_setNew
    simp only [X10_isFunction_eq g1, e_lt, lg9 g2, lg9 g3, in10 g2 (by decide) (by decide) (by decide) (by decide) (lo := 0) (hi := 4), in10 g3 (by decide) (by decide) (by decide) (by decide) (lo := 0) (hi := 1), Option.bind_some, e_b10, e_b0, e_b1, X10_error_eq M.2.2.2.1 (code := -2) (by decide) (by decide)]
  by_cases hc : (0 ≤ p1 ∧ p1 ≤ 5) ∧ (0 ≤ p2 ∧ p2 ≤ 4) ∧ (0 ≤ p3 ∧ p3 ≤ 1)
  · obtain ⟨c1, c2, c3⟩ := hc
    obtain ⟨hS, hH, hI, hE⟩ := hR
    obtain ⟨h', sv, s1, s2, s3⟩ := save_sim hS hH
    obtain ⟨f, rfl⟩ : ∃ f : Nat, p1 = (f : Int) := ⟨p1.toNat, by omega⟩
    have hf : f < 6 := by omega
    have ef : ((f : Int)).toNat = f := by omega
    refine ⟨C.1.2.1.1 f, ((C.1.1, (upI C.1.2.1.1 f p2, upI C.1.2.1.2.1 f p3, C.1.2.1.2.2), C.1.2.2), h', C.2.2), (upI (upI M.1 (42 + 7 * f) p2) (42 + 7 * f + 1) p3, sv, h'.2.1, M.2.2.2), ?_, ?_, hS.setN hf c2.1 c2.2 (by omega), s3, hI, hE.mono⟩
    · rw [kC, if_pos c1, if_pos c2, if_pos c3]
      unfold X9_changeShape_news
      rw [s1, Option.bind_some, X1_arityOf_eq (by decide) _ g1, if_pos (by omega), Option.bind_some, X1_putShape_eq (by decide) _ c1.1 (by omega), Option.bind_some, ef]
      rfl
    · unfold rm_setNew
      rw [kM, if_pos c1, if_pos c2, if_pos c3]
      unfold X10_sets
      rw [s2, Option.bind_some, e_rd (by omega) (by omega), e_wr (by omega) (by omega), e_wr (by omega) (by omega), show (42 + 7 * (f : Int) + 0).toNat = 42 + 7 * f by omega, show (42 + 7 * (f : Int) + 1).toNat = 42 + 7 * f + 1 by omega, (hS.2.1 f hf).1]
      rfl
  · refine ⟨-2, _, _, ?_, ?_, rel_ref hR (code := -2) (by decide) (by decide)⟩
    · rw [kC]
      by_cases c1 : 0 ≤ p1 ∧ p1 ≤ 5
      · by_cases c2 : 0 ≤ p2 ∧ p2 ≤ 4
        · by_cases c3 : 0 ≤ p3 ∧ p3 ≤ 1
          · exact absurd ⟨c1, c2, c3⟩ hc
          · rw [if_pos c1, if_pos c2, if_neg c3]
        · rw [if_pos c1, if_neg c2]
      · rw [if_neg c1]
    · unfold rm_setNew
      rw [kM]
      by_cases c1 : 0 ≤ p1 ∧ p1 ≤ 5
      · by_cases c2 : 0 ≤ p2 ∧ p2 ≤ 4
        · by_cases c3 : 0 ≤ p3 ∧ p3 ≤ 1
          · exact absurd ⟨c1, c2, c3⟩ hc
          · rw [if_pos c1, if_pos c2, if_neg c3]; rfl
        · rw [if_pos c1, if_neg c2]; rfl
      · rw [if_neg c1]; rfl

theorem sim_setOldTerm (i : Int) (C : CM) (M : MT) (p1 p2 p3 : Int) (_ : 0 ≤ i) (_ : i ≤ 2048) (hR : REL i C M) (g1 : Rg p1) (g2 : Rg p2) (g3 : Rg p3) : ∃ (r : Int) (C' : CM) (M' : MT), cm_setOldTerm C p1 p2 p3 = some (r, C') ∧ rm_setOldTerm M p1 p2 p3 = some (r, M') ∧ REL (i + 4) C' M' := by
  have kC : cm_setOldTerm C p1 p2 p3 = if 0 ≤ p1 ∧ p1 ≤ 5 then (if -1 ≤ p2 ∧ p2 ≤ 3 then (if 0 ≤ p3 ∧ p3 ≤ 99 then (X9_changeTerm_olds C p1 p2 p3).bind (fun w13 => some (w13.1, w13.2)) else some (-2, setE C (bmp C.2.2.2.2.2.2.2 (-2)))) else some (-2, setE C (bmp C.2.2.2.2.2.2.2 (-2)))) else some (-2, setE C (bmp C.2.2.2.2.2.2.2 (-2))) := by
    unfold cm_setOldTerm X9_setOldTerm
    simp only [X9_isOld_eq g1, X9_isTermPosition_eq g2, wi9 g3 (by decide) (by decide) (by decide) (by decide) (lo := 0) (hi := 99), Option.bind_some, e_b10, ref_eq C (code := -2) (by decide) (by decide)]
  have kM : X10_setsTerm M.1 M.2.1 M.2.2.1 M.2.2.2.1 0 p1 p2 p3 = if 0 ≤ p1 ∧ p1 ≤ 5 then (if -1 ≤ p2 ∧ p2 ≤ 3 then (if 0 ≤ p3 ∧ p3 ≤ 99 then (X10_save M.1 M.2.1 M.2.2.1).bind (fun w13 => rdK 186 M.1 ((((0 + (7 * p1)) + 2) + 1) + p2) (fun v15 => wrK 186 M.1 ((((0 + (7 * p1)) + 2) + 1) + p2) p3 (fun f16 => some (v15, f16, w13.1, w13.2, M.2.2.2.1)))) else some (-2, M.1, M.2.1, M.2.2.1, bmp M.2.2.2.1 (-2))) else some (-2, M.1, M.2.1, M.2.2.1, bmp M.2.2.2.1 (-2))) else some (-2, M.1, M.2.1, M.2.2.1, bmp M.2.2.2.1 (-2)) := by
    unfold X10_setsTerm
    simp only [X10_isFunction_eq g1, lg9 g2, lg9 g3, in10 g2 (by decide) (by decide) (by decide) (by decide) (lo := -1) (hi := 3), in10 g3 (by decide) (by decide) (by decide) (by decide) (lo := 0) (hi := 99), Option.bind_some, e_b10, X10_error_eq M.2.2.2.1 (code := -2) (by decide) (by decide)]
  by_cases hc : (0 ≤ p1 ∧ p1 ≤ 5) ∧ (-1 ≤ p2 ∧ p2 ≤ 3) ∧ (0 ≤ p3 ∧ p3 ≤ 99)
  · obtain ⟨c1, c2, c3⟩ := hc
    obtain ⟨hS, hH, hI, hE⟩ := hR
    obtain ⟨h', sv, s1, s2, s3⟩ := save_sim hS hH
    obtain ⟨f, rfl⟩ : ∃ f : Nat, p1 = (f : Int) := ⟨p1.toNat, by omega⟩
    obtain ⟨k, hk⟩ : ∃ k : Nat, p2 + 1 = (k : Int) := ⟨(p2 + 1).toNat, by omega⟩
    have hf : f < 6 := by omega
    have hk5 : k < 5 := by omega
    have ef : 5 * ((f : Int)).toNat + (p2 + 1).toNat = 5 * f + k := by omega
    have ea : ((((0 : Int) + (7 * (f : Int))) + 2) + 1 + p2).toNat = 0 + 7 * f + 2 + k := by omega
    refine ⟨C.1.1.2.2 (5 * f + k), (((C.1.1.1, C.1.1.2.1, upI C.1.1.2.2 (5 * f + k) p3), C.1.2), h', C.2.2), (upI M.1 (0 + 7 * f + 2 + k) p3, sv, h'.2.1, M.2.2.2), ?_, ?_, hS.setOT hf hk5 c3.1 c3.2, s3, hI, hE.mono⟩
    · rw [kC, if_pos c1, if_pos c2, if_pos c3]
      unfold X9_changeTerm_olds
      rw [s1, Option.bind_some, X1_term_eq (by decide) _ c1.1 (by omega) c2.1 c2.2, Option.bind_some, X1_putTerm_eq (by decide) _ c1.1 (by omega) c2.1 c2.2, Option.bind_some, ef]
      rfl
    · unfold rm_setOldTerm X10_setOldTerm
      rw [kM, if_pos c1, if_pos c2, if_pos c3, s2, Option.bind_some, e_rd (by omega) (by omega), e_wr (by omega) (by omega), ea, ((hS.1 f hf).2.2.2.2.2 k hk5).1]
      rfl
  · refine ⟨-2, _, _, ?_, ?_, rel_ref hR (code := -2) (by decide) (by decide)⟩
    · rw [kC]
      by_cases c1 : 0 ≤ p1 ∧ p1 ≤ 5
      · by_cases c2 : -1 ≤ p2 ∧ p2 ≤ 3
        · by_cases c3 : 0 ≤ p3 ∧ p3 ≤ 99
          · exact absurd ⟨c1, c2, c3⟩ hc
          · rw [if_pos c1, if_pos c2, if_neg c3]
        · rw [if_pos c1, if_neg c2]
      · rw [if_neg c1]
    · unfold rm_setOldTerm X10_setOldTerm
      rw [kM]
      by_cases c1 : 0 ≤ p1 ∧ p1 ≤ 5
      · by_cases c2 : -1 ≤ p2 ∧ p2 ≤ 3
        · by_cases c3 : 0 ≤ p3 ∧ p3 ≤ 99
          · exact absurd ⟨c1, c2, c3⟩ hc
          · rw [if_pos c1, if_pos c2, if_neg c3]; rfl
        · rw [if_pos c1, if_neg c2]; rfl
      · rw [if_neg c1]; rfl

theorem sim_setNewTerm (i : Int) (C : CM) (M : MT) (p1 p2 p3 : Int) (_ : 0 ≤ i) (_ : i ≤ 2048) (hR : REL i C M) (g1 : Rg p1) (g2 : Rg p2) (g3 : Rg p3) : ∃ (r : Int) (C' : CM) (M' : MT), cm_setNewTerm C p1 p2 p3 = some (r, C') ∧ rm_setNewTerm M p1 p2 p3 = some (r, M') ∧ REL (i + 4) C' M' := by
  have kC : cm_setNewTerm C p1 p2 p3 = if 0 ≤ p1 ∧ p1 ≤ 5 then (if -1 ≤ p2 ∧ p2 ≤ 3 then (if 0 ≤ p3 ∧ p3 ≤ 99 then (X9_changeTerm_news C p1 p2 p3).bind (fun w13 => some (w13.1, w13.2)) else some (-2, setE C (bmp C.2.2.2.2.2.2.2 (-2)))) else some (-2, setE C (bmp C.2.2.2.2.2.2.2 (-2)))) else some (-2, setE C (bmp C.2.2.2.2.2.2.2 (-2))) := by
    unfold cm_setNewTerm X9_setNewTerm
    simp only [X9_isNew_eq g1, X9_isTermPosition_eq g2, wi9 g3 (by decide) (by decide) (by decide) (by decide) (lo := 0) (hi := 99), Option.bind_some, e_b10, ref_eq C (code := -2) (by decide) (by decide)]
  have kM : X10_setsTerm M.1 M.2.1 M.2.2.1 M.2.2.2.1 42 p1 p2 p3 = if 0 ≤ p1 ∧ p1 ≤ 5 then (if -1 ≤ p2 ∧ p2 ≤ 3 then (if 0 ≤ p3 ∧ p3 ≤ 99 then (X10_save M.1 M.2.1 M.2.2.1).bind (fun w13 => rdK 186 M.1 ((((42 + (7 * p1)) + 2) + 1) + p2) (fun v15 => wrK 186 M.1 ((((42 + (7 * p1)) + 2) + 1) + p2) p3 (fun f16 => some (v15, f16, w13.1, w13.2, M.2.2.2.1)))) else some (-2, M.1, M.2.1, M.2.2.1, bmp M.2.2.2.1 (-2))) else some (-2, M.1, M.2.1, M.2.2.1, bmp M.2.2.2.1 (-2))) else some (-2, M.1, M.2.1, M.2.2.1, bmp M.2.2.2.1 (-2)) := by
    unfold X10_setsTerm
    simp only [X10_isFunction_eq g1, lg9 g2, lg9 g3, in10 g2 (by decide) (by decide) (by decide) (by decide) (lo := -1) (hi := 3), in10 g3 (by decide) (by decide) (by decide) (by decide) (lo := 0) (hi := 99), Option.bind_some, e_b10, X10_error_eq M.2.2.2.1 (code := -2) (by decide) (by decide)]
  by_cases hc : (0 ≤ p1 ∧ p1 ≤ 5) ∧ (-1 ≤ p2 ∧ p2 ≤ 3) ∧ (0 ≤ p3 ∧ p3 ≤ 99)
  · obtain ⟨c1, c2, c3⟩ := hc
    obtain ⟨hS, hH, hI, hE⟩ := hR
    obtain ⟨h', sv, s1, s2, s3⟩ := save_sim hS hH
    obtain ⟨f, rfl⟩ : ∃ f : Nat, p1 = (f : Int) := ⟨p1.toNat, by omega⟩
    obtain ⟨k, hk⟩ : ∃ k : Nat, p2 + 1 = (k : Int) := ⟨(p2 + 1).toNat, by omega⟩
    have hf : f < 6 := by omega
    have hk5 : k < 5 := by omega
    have ef : 5 * ((f : Int)).toNat + (p2 + 1).toNat = 5 * f + k := by omega
    have ea : ((((42 : Int) + (7 * (f : Int))) + 2) + 1 + p2).toNat = 42 + 7 * f + 2 + k := by omega
    refine ⟨C.1.2.1.2.2 (5 * f + k), ((C.1.1, (C.1.2.1.1, C.1.2.1.2.1, upI C.1.2.1.2.2 (5 * f + k) p3), C.1.2.2), h', C.2.2), (upI M.1 (42 + 7 * f + 2 + k) p3, sv, h'.2.1, M.2.2.2), ?_, ?_, hS.setNT hf hk5 c3.1 c3.2, s3, hI, hE.mono⟩
    · rw [kC, if_pos c1, if_pos c2, if_pos c3]
      unfold X9_changeTerm_news
      rw [s1, Option.bind_some, X1_term_eq (by decide) _ c1.1 (by omega) c2.1 c2.2, Option.bind_some, X1_putTerm_eq (by decide) _ c1.1 (by omega) c2.1 c2.2, Option.bind_some, ef]
      rfl
    · unfold rm_setNewTerm X10_setNewTerm
      rw [kM, if_pos c1, if_pos c2, if_pos c3, s2, Option.bind_some, e_rd (by omega) (by omega), e_wr (by omega) (by omega), ea, ((hS.2.1 f hf).2.2.2.2.2 k hk5).1]
      rfl
  · refine ⟨-2, _, _, ?_, ?_, rel_ref hR (code := -2) (by decide) (by decide)⟩
    · rw [kC]
      by_cases c1 : 0 ≤ p1 ∧ p1 ≤ 5
      · by_cases c2 : -1 ≤ p2 ∧ p2 ≤ 3
        · by_cases c3 : 0 ≤ p3 ∧ p3 ≤ 99
          · exact absurd ⟨c1, c2, c3⟩ hc
          · rw [if_pos c1, if_pos c2, if_neg c3]
        · rw [if_pos c1, if_neg c2]
      · rw [if_neg c1]
    · unfold rm_setNewTerm X10_setNewTerm
      rw [kM]
      by_cases c1 : 0 ≤ p1 ∧ p1 ≤ 5
      · by_cases c2 : -1 ≤ p2 ∧ p2 ≤ 3
        · by_cases c3 : 0 ≤ p3 ∧ p3 ≤ 99
          · exact absurd ⟨c1, c2, c3⟩ hc
          · rw [if_pos c1, if_pos c2, if_neg c3]; rfl
        · rw [if_pos c1, if_neg c2]; rfl
      · rw [if_neg c1]; rfl

theorem sim_allowAdapters (i : Int) (C : CM) (M : MT) (p1 : Int) (_ : 0 ≤ i) (_ : i ≤ 2048) (hR : REL i C M) (g1 : Rg p1) : ∃ (r : Int) (C' : CM) (M' : MT), cm_allowAdapters C p1 = some (r, C') ∧ rm_allowAdapters M p1 = some (r, M') ∧ REL (i + 4) C' M' := by
  by_cases c1 : 0 ≤ p1 ∧ p1 ≤ 1
  · obtain ⟨hS, hH, hI, hE⟩ := hR
    obtain ⟨h', sv, s1, s2, s3⟩ := save_sim hS hH
    refine ⟨C.1.2.2.2.2.2.1, ((C.1.1, C.1.2.1, C.1.2.2.1, C.1.2.2.2.1, C.1.2.2.2.2.1, p1, C.1.2.2.2.2.2.2), h', C.2.2), (upI M.1 147 p1, sv, h'.2.1, M.2.2.2), ?_, ?_, hS.withAllow (by omega), s3, hI, hE.mono⟩
    · unfold cm_allowAdapters X9_allowAdapters
      rw [wi9 g1 (by decide) (by decide) (by decide) (by decide), Option.bind_some, e_b10, if_pos c1, s1, Option.bind_some]
    · unfold rm_allowAdapters X10_allowAdapters
      rw [lg9 g1, in10 g1 (by decide) (by decide) (by decide) (by decide), Option.bind_some, e_b10, if_pos c1, s2, Option.bind_some, e_rd (by decide) (by decide), e_wr (by decide) (by decide), show ((147 : Int)).toNat = 147 from rfl, hS.2.2.2.1.1]
      rfl
  · refine ⟨-2, _, _, ?_, ?_, rel_ref hR (code := -2) (by decide) (by decide)⟩
    · unfold cm_allowAdapters X9_allowAdapters
      rw [wi9 g1 (by decide) (by decide) (by decide) (by decide), Option.bind_some, e_b10, if_neg c1, ref_eq C (by decide) (by decide)]
    · unfold rm_allowAdapters X10_allowAdapters
      rw [lg9 g1, in10 g1 (by decide) (by decide) (by decide) (by decide), Option.bind_some, e_b10, if_neg c1, X10_error_eq _ (by decide) (by decide)]
      rfl

theorem sim_left (i : Int) (C : CM) (M : MT) (p1 : Int) (_ : 0 ≤ i) (_ : i ≤ 2048) (hR : REL i C M) (g1 : Rg p1) : ∃ (r : Int) (C' : CM) (M' : MT), cm_left C p1 = some (r, C') ∧ rm_left M p1 = some (r, M') ∧ REL (i + 4) C' M' := by
  by_cases c1 : 1 ≤ p1 ∧ p1 ≤ 7
  · obtain ⟨r, hr⟩ : ∃ r : Nat, p1 = (r : Int) := ⟨p1.toNat, by omega⟩
    subst hr
    have e1 := (hR.1.2.2.2.2.2.2 r (by omega) (by omega)).1
    refine ⟨C.1.2.2.2.2.2.2.2.2 r, C, M, ?_, ?_, hR.mono⟩
    · unfold cm_left X9_left
      rw [wi9 g1 (by decide) (by decide) (by decide) (by decide), Option.bind_some, e_b10, if_pos c1, e_rd (by omega) (by omega), show ((r : Int)).toNat = r by omega]
    · unfold rm_left X10_left
      rw [lg9 g1, in10 g1 (by decide) (by decide) (by decide) (by decide), Option.bind_some, e_b10, if_pos c1, e_rd (by omega) (by omega), show (179 + (r : Int) - 1).toNat = 178 + r by omega, e1]
      rfl
  · refine ⟨-2, _, _, ?_, ?_, rel_ref hR (code := -2) (by decide) (by decide)⟩
    · unfold cm_left X9_left
      rw [wi9 g1 (by decide) (by decide) (by decide) (by decide), Option.bind_some, e_b10, if_neg c1, ref_eq C (by decide) (by decide)]
    · unfold rm_left X10_left
      rw [lg9 g1, in10 g1 (by decide) (by decide) (by decide) (by decide), Option.bind_some, e_b10, if_neg c1, X10_error_eq _ (by decide) (by decide)]
      rfl

theorem sim_errorCount (i : Int) (C : CM) (M : MT) (p1 : Int) (_ : 0 ≤ i) (_ : i ≤ 2048) (hR : REL i C M) (g1 : Rg p1) : ∃ (r : Int) (C' : CM) (M' : MT), cm_errorCount C p1 = some (r, C') ∧ rm_errorCount M p1 = some (r, M') ∧ REL (i + 4) C' M' := by
  by_cases c1 : -5 ≤ p1 ∧ p1 ≤ -2
  · have e1 := (hR.2.2.2 (-2 - p1).toNat (by omega)).1
    refine ⟨C.2.2.2.2.2.2.2 (-2 - p1).toNat, C, M, ?_, ?_, hR.mono⟩
    · unfold cm_errorCount X9_errorCount
      rw [wi9 g1 (by decide) (by decide) (by decide) (by decide), Option.bind_some, e_b10, if_pos c1, e_rd (by omega) (by omega)]
    · unfold rm_errorCount X10_errorCount
      rw [lg9 g1, in10 g1 (by decide) (by decide) (by decide) (by decide), Option.bind_some, e_b10, if_pos c1, e_rd (by omega) (by omega), e1]
      rfl
  · refine ⟨-2, _, _, ?_, ?_, rel_ref hR (code := -2) (by decide) (by decide)⟩
    · unfold cm_errorCount X9_errorCount
      rw [wi9 g1 (by decide) (by decide) (by decide) (by decide), Option.bind_some, e_b10, if_neg c1, ref_eq C (by decide) (by decide)]
    · unfold rm_errorCount X10_errorCount
      rw [lg9 g1, in10 g1 (by decide) (by decide) (by decide) (by decide), Option.bind_some, e_b10, if_neg c1, X10_error_eq _ (by decide) (by decide)]
      rfl

theorem sim_clearText (i : Int) (C : CM) (M : MT) (_ : 0 ≤ i) (_ : i ≤ 2048) (hR : REL i C M) : ∃ (r : Int) (C' : CM) (M' : MT), cm_clearText C  = some (r, C') ∧ rm_clearText M  = some (r, M') ∧ REL (i + 4) C' M' := by
  refine ⟨C.2.2.1.2.1, (C.1, C.2.1, (C.2.2.1.1, 0, C.2.2.1.2.2), C.2.2.2), (M.1, M.2.1, M.2.2.1, M.2.2.2.1, M.2.2.2.2.1, 0, M.2.2.2.2.2.2), rfl, ?_, hR.1, hR.2.1, ⟨rfl, Int.le_refl _, by show (0 : Int) ≤ 120; decide, fun k hk => absurd hk (by show ¬ k < (0 : Int).toNat; omega)⟩, hR.2.2.2.mono⟩
  unfold rm_clearText X10_clearText
  rw [hR.2.2.1.1]
  rfl

theorem sim_nodes (i : Int) (C : CM) (M : MT) (_ : 0 ≤ i) (_ : i ≤ 2048) (hR : REL i C M) : ∃ (r : Int) (C' : CM) (M' : MT), cm_nodes C  = some (r, C') ∧ rm_nodes M  = some (r, M') ∧ REL (i + 4) C' M' := by
  refine ⟨C.1.2.2.2.2.2.2.2.1.1, C, M, rfl, ?_, hR.mono⟩
  unfold rm_nodes X10_nodes
  rw [e_rd (by decide) (by decide), show ((148 : Int)).toNat = 148 from rfl, hR.1.2.2.2.2.2.1.2.2.1]
  rfl

theorem sim_append (i : Int) (C : CM) (M : MT) (p1 : Int) (_ : 0 ≤ i) (_ : i ≤ 2048) (hR : REL i C M) (g1 : Rg p1) : ∃ (r : Int) (C' : CM) (M' : MT), cm_append C p1 = some (r, C') ∧ rm_append M p1 = some (r, M') ∧ REL (i + 4) C' M' := by
  obtain ⟨hS, hH, ⟨t1, t2, t3, t4⟩, hE⟩ := id hR
  by_cases c1 : 0 ≤ p1 ∧ p1 ≤ 127
  · by_cases c2 : C.2.2.1.2.1 < 120
    · refine ⟨C.2.2.1.2.1 + 1, (C.1, C.2.1, (upI C.2.2.1.1 C.2.2.1.2.1.toNat p1, C.2.2.1.2.1 + 1, C.2.2.1.2.2), C.2.2.2), (M.1, M.2.1, M.2.2.1, M.2.2.2.1, upI M.2.2.2.2.1 C.2.2.1.2.1.toNat p1, C.2.2.1.2.1 + 1, M.2.2.2.2.2.2), ?_, ?_, hS, hH, ⟨rfl, by show 0 ≤ C.2.2.1.2.1 + 1; omega, by show C.2.2.1.2.1 + 1 ≤ 120; omega, fun k hk => ?_⟩, hE.mono⟩
      · unfold cm_append X9_append X3_add
        rw [wi9 g1 (by decide) (by decide) (by decide) (by decide), Option.bind_some, e_b10, if_pos c1, e_LT (by omega) (by omega) (by decide) (by decide), if_pos c2, e_wr t2 (by omega), Option.bind_some]
        show brEQ 1 0 _ _ = _
        rw [e_b1]
      · unfold rm_append X10_append
        rw [lg9 g1, in10 g1 (by decide) (by decide) (by decide) (by decide), Option.bind_some, e_b10, if_pos c1, t1, e_EQ (by omega) (by omega) (by decide) (by decide), if_neg (by omega), e_wr t2 (by omega)]
        rfl
      · have hk' : k < C.2.2.1.2.1.toNat + 1 := by
          have : k < (C.2.2.1.2.1 + 1).toNat := hk
          omega
        show upI M.2.2.2.2.1 C.2.2.1.2.1.toNat p1 k = upI C.2.2.1.1 C.2.2.1.2.1.toNat p1 k ∧ 0 ≤ upI C.2.2.1.1 C.2.2.1.2.1.toNat p1 k ∧ upI C.2.2.1.1 C.2.2.1.2.1.toNat p1 k ≤ 127
        by_cases hq : k = C.2.2.1.2.1.toNat
        · subst hq
          rw [uI_same, uI_same]
          exact ⟨rfl, c1.1, c1.2⟩
        · rw [uI_ne hq, uI_ne hq]
          exact t4 k (by omega)
    · refine ⟨-4, _, _, ?_, ?_, rel_ref hR (code := -4) (by decide) (by decide)⟩
      · unfold cm_append X9_append X3_add
        rw [wi9 g1 (by decide) (by decide) (by decide) (by decide), Option.bind_some, e_b10, if_pos c1, e_LT (by omega) (by omega) (by decide) (by decide), if_neg c2, Option.bind_some]
        show brEQ 0 0 _ _ = _
        rw [e_b0]
        exact ref_eq C (by decide) (by decide)
      · unfold rm_append X10_append
        rw [lg9 g1, in10 g1 (by decide) (by decide) (by decide) (by decide), Option.bind_some, e_b10, if_pos c1, t1, e_EQ (by omega) (by omega) (by decide) (by decide), if_pos (by omega), X10_error_eq _ (by decide) (by decide), ← t1]
        rfl
  · refine ⟨-2, _, _, ?_, ?_, rel_ref hR (code := -2) (by decide) (by decide)⟩
    · unfold cm_append X9_append
      rw [wi9 g1 (by decide) (by decide) (by decide) (by decide), Option.bind_some, e_b10, if_neg c1, ref_eq C (by decide) (by decide)]
    · unfold rm_append X10_append
      rw [lg9 g1, in10 g1 (by decide) (by decide) (by decide) (by decide), Option.bind_some, e_b10, if_neg c1, X10_error_eq _ (by decide) (by decide)]
      rfl
