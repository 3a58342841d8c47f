/-! pure: mappings' methods, adapters, sites -/
theorem faith_both {S : St} {A : Arr} {f t : Nat} (hS : RS S A) (hf : f < 6) (ht : t < 6) (hft : S.2.2.2.2.2.2.1.1 f = (t : Int)) : ∃ r : Int, (r = 0 ∨ r = 1) ∧ (X8_keepsMeaning S (f : Int)).bind (fun v1 => brEQ v1 0 (some 0) (some 1)) = some r ∧ X10_faithful A (f : Int) = some r := by
  obtain ⟨r, h1, h2, h3⟩ := faith_sim hS hf ht hft
  refine ⟨r, h1, ?_, ?_⟩
  · rw [h2, Option.bind_some]
    rcases h1 with rfl | rfl
    · rw [e_b0]
    · rw [e_b1]
  · unfold X10_faithful
    rw [h3, Option.bind_some]
    rcases h1 with rfl | rfl
    · rw [e_b0]
    · rw [e_b1]
theorem RMp.setT {P : Mp} {A : Arr} (h : RMp P A) {f : Nat} (hf : f < 6) {v : Int} (h1 : -1 ≤ v) (h2 : v ≤ 5) : RMp (upI P.1 f v, P.2.1, P.2.2) (upI A (117 + 5 * f) v) := by
  intro g hg
  obtain ⟨m1, m2, m3, m4⟩ := h g hg
  have hrest : ∀ p : Nat, p < 4 → upI A (117 + 5 * f) v (118 + 5 * g + p) = A (118 + 5 * g + p) := fun p hp => uI_ne (by omega)
  show upI A (117 + 5 * f) v (117 + 5 * g) = upI P.1 f v g ∧ -1 ≤ upI P.1 f v g ∧ upI P.1 f v g ≤ 5 ∧ _
  by_cases hq : g = f
  · subst hq
    rw [uI_same, uI_same]
    exact ⟨rfl, h1, h2, fun p hp => by rw [hrest p hp]; exact m4 p hp⟩
  · rw [uI_ne hq, uI_ne (by omega)]
    exact ⟨m1, m2, m3, fun p hp => by rw [hrest p hp]; exact m4 p hp⟩
theorem RMp.setE {P : Mp} {A : Arr} (h : RMp P A) {f p : Nat} (hf : f < 6) (hp : p < 4) {q r e : Int} (he : (q = -1 ∧ 0 ≤ r ∧ r ≤ 99 ∧ e = 100 + r) ∨ (0 ≤ q ∧ q ≤ 2 ∧ e = q)) : RMp (P.1, upI P.2.1 (4 * f + p) q, upI P.2.2 (4 * f + p) r) (upI A (118 + 5 * f + p) e) := by
  intro g hg
  obtain ⟨m1, m2, m3, m4⟩ := h g hg
  refine ⟨by rw [uI_ne (by omega)]; exact m1, m2, m3, fun k hk => ?_⟩
  show (upI P.2.1 (4 * f + p) q (4 * g + k) = -1 ∧ 0 ≤ upI P.2.2 (4 * f + p) r (4 * g + k) ∧ upI P.2.2 (4 * f + p) r (4 * g + k) ≤ 99 ∧ upI A (118 + 5 * f + p) e (118 + 5 * g + k) = 100 + upI P.2.2 (4 * f + p) r (4 * g + k)) ∨ (0 ≤ upI P.2.1 (4 * f + p) q (4 * g + k) ∧ upI P.2.1 (4 * f + p) q (4 * g + k) ≤ 2 ∧ upI A (118 + 5 * f + p) e (118 + 5 * g + k) = upI P.2.1 (4 * f + p) q (4 * g + k))
  by_cases hq : 4 * g + k = 4 * f + p
  · have a1 : g = f := by omega
    have a2 : k = p := by omega
    subst a1; subst a2
    rw [uI_same, uI_same, uI_same]
    exact he
  · rw [uI_ne hq, uI_ne hq, uI_ne (by omega)]
    exact m4 k hk
theorem tgt_bd {S : St} {A : Arr} (hS : RS S A) {f : Nat} (hf : f < 6) : A (117 + 5 * f) = S.2.2.2.2.2.2.1.1 f ∧ -1 ≤ S.2.2.2.2.2.2.1.1 f ∧ S.2.2.2.2.2.2.1.1 f ≤ 5 := ⟨(hS.2.2.2.2.1 f hf).1, (hS.2.2.2.2.1 f hf).2.1, (hS.2.2.2.2.1 f hf).2.2.1⟩
theorem sim_isFaithful (i : Int) (C : CM) (M : MT) (p1 : Int) (_ : 0 ≤ i) (_ : i ≤ 2048) (hR : REL i C M) (g1 : Rg p1) : ∃ (r : Int) (C' : CM) (M' : MT), cm_isFaithful C p1 = some (r, C') ∧ rm_isFaithful M p1 = some (r, M') ∧ REL (i + 4) C' M' := by
  by_cases c1 : 0 ≤ p1 ∧ p1 ≤ 5
  · obtain ⟨f, rfl⟩ : ∃ f : Nat, p1 = (f : Int) := ⟨p1.toNat, by omega⟩
    have hf : f < 6 := by omega
    obtain ⟨t0, t1, t2⟩ := tgt_bd hR.1 hf
    by_cases c2 : C.1.2.2.2.2.2.2.1.1 f = -1
    · refine ⟨-3, _, _, ?_, ?_, rel_ref hR (code := -3) (by decide) (by decide)⟩
      · unfold cm_isFaithful X9_isFaithful
        rw [X9_isOld_eq g1, Option.bind_some, e_b10, if_pos c1, X4_targetOf_eq _ c1.1 c1.2, Option.bind_some, show ((f : Int)).toNat = f by omega, e_EQ (by omega) (by omega) (by decide) (by decide), if_pos c2, ref_eq C (by decide) (by decide)]
      · unfold rm_isFaithful X10_isFaithful
        rw [X10_isFunction_eq g1, Option.bind_some, e_b10, if_pos c1, X10_newOf_eq _ hf, Option.bind_some, t0, e_EQ (by omega) (by omega) (by decide) (by decide), if_pos c2, X10_error_eq _ (by decide) (by decide)]
        rfl
    · obtain ⟨t, ht⟩ : ∃ t : Nat, C.1.2.2.2.2.2.2.1.1 f = (t : Int) := ⟨(C.1.2.2.2.2.2.2.1.1 f).toNat, by omega⟩
      obtain ⟨r, r1, r2, r3⟩ := faith_both hR.1 hf (t := t) (by omega) ht
      refine ⟨r, C, M, ?_, ?_, hR.mono⟩
      · unfold cm_isFaithful X9_isFaithful X9_faithfulness
        rw [X9_isOld_eq g1, Option.bind_some, e_b10, if_pos c1, X4_targetOf_eq _ c1.1 c1.2, Option.bind_some, show ((f : Int)).toNat = f by omega, e_EQ (by omega) (by omega) (by decide) (by decide), if_neg c2, r2]
        rfl
      · unfold rm_isFaithful X10_isFaithful
        rw [X10_isFunction_eq g1, Option.bind_some, e_b10, if_pos c1, X10_newOf_eq _ hf, Option.bind_some, t0, e_EQ (by omega) (by omega) (by decide) (by decide), if_neg c2, r3]
        rfl
  · refine ⟨-2, _, _, ?_, ?_, rel_ref hR (code := -2) (by decide) (by decide)⟩
    · unfold cm_isFaithful X9_isFaithful
      rw [X9_isOld_eq g1, Option.bind_some, e_b10, if_neg c1, ref_eq C (by decide) (by decide)]
    · unfold rm_isFaithful X10_isFaithful
      rw [X10_isFunction_eq g1, Option.bind_some, e_b10, if_neg c1, X10_error_eq _ (by decide) (by decide)]
      rfl
theorem sim_unmap (i : Int) (C : CM) (M : MT) (p1 : Int) (_ : 0 ≤ i) (_ : i ≤ 2048) (hR : REL i C M) (g1 : Rg p1) : ∃ (r : Int) (C' : CM) (M' : MT), cm_unmap C p1 = some (r, C') ∧ rm_unmap M p1 = some (r, M') ∧ REL (i + 4) C' M' := by
  by_cases c1 : 0 ≤ p1 ∧ p1 ≤ 5
  · obtain ⟨f, rfl⟩ : ∃ f : Nat, p1 = (f : Int) := ⟨p1.toNat, by omega⟩
    have hf : f < 6 := by omega
    have ef : ((f : Int)).toNat = f := by omega
    obtain ⟨t0, t1, t2⟩ := tgt_bd hR.1 hf
    by_cases c2 : C.1.2.2.2.2.2.2.1.1 f = -1
    · refine ⟨-3, _, _, ?_, ?_, rel_ref hR (code := -3) (by decide) (by decide)⟩
      · unfold cm_unmap X9_unmap
        rw [X9_isOld_eq g1, Option.bind_some, e_b10, if_pos c1, X4_targetOf_eq _ c1.1 c1.2, Option.bind_some, ef, e_EQ (by omega) (by omega) (by decide) (by decide), if_pos c2, ref_eq C (by decide) (by decide)]
      · unfold rm_unmap X10_unmap
        rw [X10_isFunction_eq g1, Option.bind_some, e_b10, if_pos c1, X10_newOf_eq _ hf, Option.bind_some, t0, e_EQ (by omega) (by omega) (by decide) (by decide), if_pos c2, X10_error_eq _ (by decide) (by decide)]
        rfl
    · obtain ⟨hS, hH, hI, hE⟩ := hR
      obtain ⟨h', sv, s1, s2, s3⟩ := save_sim hS hH
      refine ⟨C.1.2.2.2.2.2.2.1.1 f, ((C.1.1, C.1.2.1, C.1.2.2.1, C.1.2.2.2.1, C.1.2.2.2.2.1, C.1.2.2.2.2.2.1, (upI C.1.2.2.2.2.2.2.1.1 f (-1), C.1.2.2.2.2.2.2.1.2), C.1.2.2.2.2.2.2.2), h', C.2.2), (upI M.1 (117 + 5 * f) (-1), sv, h'.2.1, M.2.2.2), ?_, ?_, hS.withMap (fun j hj => uI_ne (by omega)) (hS.2.2.2.2.1.setT hf (by decide) (by decide)), s3, hI, hE.mono⟩
      · unfold cm_unmap X9_unmap
        rw [X9_isOld_eq g1, Option.bind_some, e_b10, if_pos c1, X4_targetOf_eq _ c1.1 c1.2, Option.bind_some, ef, e_EQ (by omega) (by omega) (by decide) (by decide), if_neg c2, s1, Option.bind_some, X4_putTarget_eq _ c1.1 c1.2, Option.bind_some, ef]
      · unfold rm_unmap X10_unmap
        rw [X10_isFunction_eq g1, Option.bind_some, e_b10, if_pos c1, X10_newOf_eq _ hf, Option.bind_some, t0, e_EQ (by omega) (by omega) (by decide) (by decide), if_neg c2, s2, Option.bind_some, e_wr (by omega) (by omega), show (117 + 5 * (f : Int)).toNat = 117 + 5 * f by omega]
        rfl
  · refine ⟨-2, _, _, ?_, ?_, rel_ref hR (code := -2) (by decide) (by decide)⟩
    · unfold cm_unmap X9_unmap
      rw [X9_isOld_eq g1, Option.bind_some, e_b10, if_neg c1, ref_eq C (by decide) (by decide)]
    · unfold rm_unmap X10_unmap
      rw [X10_isFunction_eq g1, Option.bind_some, e_b10, if_neg c1, X10_error_eq _ (by decide) (by decide)]
      rfl
/-- an entry is put: both sides -/
theorem entry_sim {i : Int} {C : CM} {M : MT} (hR : REL i C M) {f p : Nat} (hf : f < 6) (hp : p < 4) {q r e : Int} (he : (q = -1 ∧ 0 ≤ r ∧ r ≤ 99 ∧ e = 100 + r) ∨ (0 ≤ q ∧ q ≤ 2 ∧ e = q)) : ∃ (z : Int) (C' : CM) (M' : MT), X9_changeEntry C (f : Int) (p : Int) q r = some (z, C') ∧ X10_setsEntry M.1 M.2.1 M.2.2.1 M.2.2.2.1 (f : Int) (p : Int) e 1 = some (z, M'.1, M'.2.1, M'.2.2.1, M'.2.2.2.1) ∧ M'.2.2.2.2 = M.2.2.2.2 ∧ REL (i + 4) C' M' := by
  have ef : ((f : Int)).toNat = f := by omega
  have ep : 4 * ((f : Int)).toNat + ((p : Int)).toNat = 4 * f + p := by omega
  have gf : Rg (f : Int) := ⟨by omega, by omega⟩
  have gp : Rg (p : Int) := ⟨by omega, by omega⟩
  obtain ⟨t0, t1, t2⟩ := tgt_bd hR.1 hf
  have kM : X10_setsEntry M.1 M.2.1 M.2.2.1 M.2.2.2.1 (f : Int) (p : Int) e 1 = if C.1.2.2.2.2.2.2.1.1 f = -1 then some (-3, M.1, M.2.1, M.2.2.1, bmp M.2.2.2.1 (-3)) else (X10_save M.1 M.2.1 M.2.2.1).bind (fun w15 => (X10_faithful (upI M.1 (118 + 5 * f + p) e) (f : Int)).bind (fun v18 => some (v18, upI M.1 (118 + 5 * f + p) e, w15.1, w15.2, M.2.2.2.1))) := by
    unfold X10_setsEntry
    rw [X10_isFunction_eq gf, Option.bind_some, e_b10, if_pos (by omega), lg9 gp, in10 gp (by decide) (by decide) (by decide) (by decide), Option.bind_some, e_b10, if_pos (by omega), e_b1, X10_newOf_eq _ hf, Option.bind_some, t0, e_EQ (by omega) (by omega) (by decide) (by decide), X10_error_eq _ (by decide) (by decide)]
    by_cases c2 : C.1.2.2.2.2.2.2.1.1 f = -1
    · rw [if_pos c2, if_pos c2]; rfl
    · rw [if_neg c2, if_neg c2]
      refine congrArg (Option.bind _) (funext fun w15 => ?_)
      rw [e_wr (by omega) (by omega), show (117 + 5 * (f : Int) + 1 + (p : Int)).toNat = 118 + 5 * f + p by omega]
  by_cases c2 : C.1.2.2.2.2.2.2.1.1 f = -1
  · refine ⟨-3, _, (M.1, M.2.1, M.2.2.1, bmp M.2.2.2.1 (-3), M.2.2.2.2), ?_, ?_, rfl, rel_ref hR (code := -3) (by decide) (by decide)⟩
    · unfold X9_changeEntry
      rw [X4_targetOf_eq _ (by omega) (by omega), Option.bind_some, ef, e_EQ (by omega) (by omega) (by decide) (by decide), if_pos c2, ref_eq C (by decide) (by decide)]
    · rw [kM, if_pos c2]
  · obtain ⟨t, ht⟩ : ∃ t : Nat, C.1.2.2.2.2.2.2.1.1 f = (t : Int) := ⟨(C.1.2.2.2.2.2.2.1.1 f).toNat, by omega⟩
    obtain ⟨hS, hH, hI, hE⟩ := hR
    obtain ⟨h', sv, s1, s2, s3⟩ := save_sim hS hH
    have hS' := hS.withMap (P := (C.1.2.2.2.2.2.2.1.1, upI C.1.2.2.2.2.2.2.1.2.1 (4 * f + p) q, upI C.1.2.2.2.2.2.2.1.2.2 (4 * f + p) r)) (B := upI M.1 (118 + 5 * f + p) e) (fun j hj => uI_ne (by omega)) (hS.2.2.2.2.1.setE hf hp he)
    obtain ⟨z, z1, z2, z3⟩ := faith_both hS' hf (t := t) (by omega) ht
    refine ⟨z, ((C.1.1, C.1.2.1, C.1.2.2.1, C.1.2.2.2.1, C.1.2.2.2.2.1, C.1.2.2.2.2.2.1, (C.1.2.2.2.2.2.2.1.1, upI C.1.2.2.2.2.2.2.1.2.1 (4 * f + p) q, upI C.1.2.2.2.2.2.2.1.2.2 (4 * f + p) r), C.1.2.2.2.2.2.2.2), h', C.2.2), (upI M.1 (118 + 5 * f + p) e, sv, h'.2.1, M.2.2.2), ?_, ?_, rfl, hS', s3, hI, hE.mono⟩
    · unfold X9_changeEntry X9_faithfulness
      rw [X4_targetOf_eq _ (by omega) (by omega), Option.bind_some, ef, e_EQ (by omega) (by omega) (by decide) (by decide), if_neg c2, s1, Option.bind_some, X4_putEntry_eq _ (by omega) (by omega) (by omega) (by omega), Option.bind_some, ep]
      refine (congrArg (fun o => Option.bind o _) z2).trans ?_
      rfl
    · rw [kM, if_neg c2, s2, Option.bind_some, z3]
      rfl
