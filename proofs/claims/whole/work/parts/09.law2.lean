def SimAll (REL : Int → CM → MT → Prop) : Prop := (∀ (i : Int) (C : CM) (M : MT), REL i C M → REL (i + 4) C M) ∧ (∀ (i : Int) (C : CM) (M : MT) (p1 p2 p3 : Int), 0 ≤ i → i ≤ 2048 → REL i C M → Rg p1 → Rg p2 → Rg p3 → ∃ (r : Int) (C' : CM) (M' : MT), cm_setOld C p1 p2 p3 = some (r, C') ∧ rm_setOld M p1 p2 p3 = some (r, M') ∧ REL (i + 4) C' M') ∧ (∀ (i : Int) (C : CM) (M : MT) (p1 p2 p3 : Int), 0 ≤ i → i ≤ 2048 → REL i C M → Rg p1 → Rg p2 → Rg p3 → ∃ (r : Int) (C' : CM) (M' : MT), cm_setNew C p1 p2 p3 = some (r, C') ∧ rm_setNew M p1 p2 p3 = some (r, M') ∧ REL (i + 4) C' M') ∧ (∀ (i : Int) (C : CM) (M : MT) (p1 p2 p3 : Int), 0 ≤ i → i ≤ 2048 → REL i C M → Rg p1 → Rg p2 → Rg p3 → ∃ (r : Int) (C' : CM) (M' : MT), cm_setOldTerm C p1 p2 p3 = some (r, C') ∧ rm_setOldTerm M p1 p2 p3 = some (r, M') ∧ REL (i + 4) C' M') ∧ (∀ (i : Int) (C : CM) (M : MT) (p1 p2 p3 : Int), 0 ≤ i → i ≤ 2048 → REL i C M → Rg p1 → Rg p2 → Rg p3 → ∃ (r : Int) (C' : CM) (M' : MT), cm_setNewTerm C p1 p2 p3 = some (r, C') ∧ rm_setNewTerm M p1 p2 p3 = some (r, M') ∧ REL (i + 4) C' M') ∧ (∀ (i : Int) (C : CM) (M : MT) (p1 p2 : Int), 0 ≤ i → i ≤ 2048 → REL i C M → Rg p1 → Rg p2 → ∃ (r : Int) (C' : CM) (M' : MT), cm_map C p1 p2 = some (r, C') ∧ rm_map M p1 p2 = some (r, M') ∧ REL (i + 4) C' M') ∧ (∀ (i : Int) (C : CM) (M : MT) (p1 : Int), 0 ≤ i → i ≤ 2048 → REL i C M → Rg p1 → ∃ (r : Int) (C' : CM) (M' : MT), cm_unmap C p1 = some (r, C') ∧ rm_unmap M p1 = some (r, M') ∧ REL (i + 4) C' M') ∧ (∀ (i : Int) (C : CM) (M : MT) (p1 p2 p3 : Int), 0 ≤ i → i ≤ 2048 → REL i C M → Rg p1 → Rg p2 → Rg p3 → ∃ (r : Int) (C' : CM) (M' : MT), cm_setSource C p1 p2 p3 = some (r, C') ∧ rm_setSource M p1 p2 p3 = some (r, M') ∧ REL (i + 4) C' M') ∧ (∀ (i : Int) (C : CM) (M : MT) (p1 p2 p3 : Int), 0 ≤ i → i ≤ 2048 → REL i C M → Rg p1 → Rg p2 → Rg p3 → ∃ (r : Int) (C' : CM) (M' : MT), cm_setConstant C p1 p2 p3 = some (r, C') ∧ rm_setConstant M p1 p2 p3 = some (r, M') ∧ REL (i + 4) C' M') ∧ (∀ (i : Int) (C : CM) (M : MT) (p1 : Int), 0 ≤ i → i ≤ 2048 → REL i C M → Rg p1 → ∃ (r : Int) (C' : CM) (M' : MT), cm_isFaithful C p1 = some (r, C') ∧ rm_isFaithful M p1 = some (r, M') ∧ REL (i + 4) C' M') ∧ (∀ (i : Int) (C : CM) (M : MT) (p1 : Int), 0 ≤ i → i ≤ 2048 → REL i C M → Rg p1 → ∃ (r : Int) (C' : CM) (M' : MT), cm_allowAdapters C p1 = some (r, C') ∧ rm_allowAdapters M p1 = some (r, M') ∧ REL (i + 4) C' M') ∧ (∀ (i : Int) (C : CM) (M : MT) (p1 : Int), 0 ≤ i → i ≤ 2048 → REL i C M → Rg p1 → ∃ (r : Int) (C' : CM) (M' : MT), cm_adapterOf C p1 = some (r, C') ∧ rm_adapterOf M p1 = some (r, M') ∧ REL (i + 4) C' M') ∧ (∀ (i : Int) (C : CM) (M : MT) (p1 : Int), 0 ≤ i → i ≤ 2048 → REL i C M → Rg p1 → ∃ (r : Int) (C' : CM) (M' : MT), cm_append C p1 = some (r, C') ∧ rm_append M p1 = some (r, M') ∧ REL (i + 4) C' M') ∧ (∀ (i : Int) (C : CM) (M : MT) , 0 ≤ i → i ≤ 2048 → REL i C M → ∃ (r : Int) (C' : CM) (M' : MT), cm_clearText C  = some (r, C') ∧ rm_clearText M  = some (r, M') ∧ REL (i + 4) C' M') ∧ (∀ (i : Int) (C : CM) (M : MT) , 0 ≤ i → i ≤ 2048 → REL i C M → ∃ (r : Int) (C' : CM) (M' : MT), cm_parse C  = some (r, C') ∧ rm_parse M  = some (r, M') ∧ REL (i + 4) C' M') ∧ (∀ (i : Int) (C : CM) (M : MT) , 0 ≤ i → i ≤ 2048 → REL i C M → ∃ (r : Int) (C' : CM) (M' : MT), cm_migrate C  = some (r, C') ∧ rm_migrate M  = some (r, M') ∧ REL (i + 4) C' M') ∧ (∀ (i : Int) (C : CM) (M : MT) (p1 : Int), 0 ≤ i → i ≤ 2048 → REL i C M → Rg p1 → ∃ (r : Int) (C' : CM) (M' : MT), cm_left C p1 = some (r, C') ∧ rm_left M p1 = some (r, M') ∧ REL (i + 4) C' M') ∧ (∀ (i : Int) (C : CM) (M : MT) , 0 ≤ i → i ≤ 2048 → REL i C M → ∃ (r : Int) (C' : CM) (M' : MT), cm_sites C  = some (r, C') ∧ rm_sites M  = some (r, M') ∧ REL (i + 4) C' M') ∧ (∀ (i : Int) (C : CM) (M : MT) , 0 ≤ i → i ≤ 2048 → REL i C M → ∃ (r : Int) (C' : CM) (M' : MT), cm_nodes C  = some (r, C') ∧ rm_nodes M  = some (r, M') ∧ REL (i + 4) C' M') ∧ (∀ (i : Int) (C : CM) (M : MT) (p1 p2 : Int), 0 ≤ i → i ≤ 2048 → REL i C M → Rg p1 → Rg p2 → ∃ (r : Int) (C' : CM) (M' : MT), cm_value C p1 p2 = some (r, C') ∧ rm_value M p1 p2 = some (r, M') ∧ REL (i + 4) C' M') ∧ (∀ (i : Int) (C : CM) (M : MT) (p1 : Int), 0 ≤ i → i ≤ 2048 → REL i C M → Rg p1 → ∃ (r : Int) (C' : CM) (M' : MT), cm_textByte C p1 = some (r, C') ∧ rm_textByte M p1 = some (r, M') ∧ REL (i + 4) C' M') ∧ (∀ (i : Int) (C : CM) (M : MT) , 0 ≤ i → i ≤ 2048 → REL i C M → ∃ (r : Int) (C' : CM) (M' : MT), cm_undo C  = some (r, C') ∧ rm_undo M  = some (r, M') ∧ REL (i + 4) C' M') ∧ (∀ (i : Int) (C : CM) (M : MT) (p1 : Int), 0 ≤ i → i ≤ 2048 → REL i C M → Rg p1 → ∃ (r : Int) (C' : CM) (M' : MT), cm_errorCount C p1 = some (r, C') ∧ rm_errorCount M p1 = some (r, M') ∧ REL (i + 4) C' M') ∧ (∀ (i : Int) (C : CM) (M : MT) , 0 ≤ i → i ≤ 2048 → REL i C M → ∃ (r : Int) (C' : CM) (M' : MT), cm_digest C  = some (r, C') ∧ rm_digest M  = some (r, M') ∧ REL (i + 4) C' M')
theorem rg32 (x : Int32) : Rg x.toInt := ⟨by have := Int32.le_toInt x; omega, by have := Int32.toInt_lt x; omega⟩
set_option maxHeartbeats 8000000 in
set_option maxRecDepth 100000 in
theorem law_loop {REL : Int → CM → MT → Prop} (hsim : SimAll REL) (K : KE) (l : Launch) (a d : Nat → Nat) {p : Program} {e : Env} {s : State} {m : MethodId} {below : List Frame} {meth : Method} {c : Code} {b L : Nat} {xs : Nat → Int32} (X : CX p s m #[Value.ref b] c K.1 vwCl (kT K) (fun q : Nat => s.heap.size ≤ q) cL_law 4 wsL_law RL) (hr : meth.sig.returnType = ret) (hlk : meth.locks = false) (hX : va_X b L xs s s.heap) (hbl : b < s.heap.size) (hL : L ≤ 2048) : ∀ (n : Nat) (i : Int) (C : CM) (M : MT), 0 ≤ i → i ≤ (L : Int) + 4 → (L : Int) + 8 ≤ i + 4 * n → REL i C M → GO p l e room_1 s m #[Value.ref b] below meth c K.1 vwCl (fun q : Nat => s.heap.size ≤ q) (lw_Z below #[Value.ref b] s) 4 600000 7302250 18 [(0, .ref b), (1, .ref (a 0)), (2, .ref (d 0)), (3, ii i)] [] (c9 K a C ++ cM K d M) := by
  obtain ⟨h_mono, h_setOld, h_setNew, h_setOldTerm, h_setNewTerm, h_map, h_unmap, h_setSource, h_setConstant, h_isFaithful, h_allowAdapters, h_adapterOf, h_append, h_clearText, h_parse, h_migrate, h_left, h_sites, h_nodes, h_value, h_textByte, h_undo, h_errorCount, h_digest⟩ := hsim
  have hbA : ¬ (fun q : Nat => s.heap.size ≤ q) b := Nat.not_le.mpr hbl
  intro n
  induction n with
  | zero => intro i C M h0 hiL hin; exact absurd hin (by omega)
  | succ n ih =>
    intro i C M hi0 hiL hin hR
    refine g_iload_n X dL_law_18 3 rfl rfl ?_
    refine g_aload_n X dL_law_19 0 rfl rfl ?_
    refine g_slen X hX hbl hbA dL_law_20 ?_
    refine g_iconst X dL_law_21 ?_
    refine g_isub X dL_law_22 ?_
    have r1 : Rg i := ⟨by omega, by omega⟩
    have r2 : Rg ((L : Int) - 4) := ⟨by omega, by omega⟩
    by_cases hle : i ≤ (L : Int) - 4
    · refine g_icmp_gt X (show brLE i ((L : Int) - 4) (some ()) none = some () by unfold brLE; rw [if_pos ⟨r1, r2⟩, if_pos hle]) 746 dL_law_23 (by decide) (fun _ => ?_) (fun h => nomatch h)
      refine g_aload_n X dL_law_26 0 rfl rfl ?_
      refine g_iload_n X dL_law_27 3 rfl rfl ?_
      refine g_sld X hX hbl hbA hL ⟨by omega, by omega⟩ dL_law_28 ?_
      refine g_bipush X dL_law_29 (by decide +kernel) ?_
      refine g_iand31 X dL_law_31 (fun v hv0 hv1 => ?_)
      have hgo : ∀ (C' : CM) (M' : MT), REL (i + 4) C' M' → GO p l e room_1 s m #[Value.ref b] below meth c K.1 vwCl (fun q : Nat => s.heap.size ≤ q) (lw_Z below #[Value.ref b] s) 4 600000 7302250 740 [(0, .ref b), (1, .ref (a 0)), (2, .ref (d 0)), (3, ii i)] [] (c9 K a C' ++ cM K d M') := by
        intro C' M' hR'
        refine g_iinc X (lv' := [(3, ii (i + 4)), (0, .ref b), (1, .ref (a 0)), (2, .ref (d 0))]) dL_law_740 3 rfl (by decide) rfl ?_
        refine g_goto X 18 dL_law_743 (by decide) ?_
        refine g_sub (lv' := [(0, .ref b), (1, .ref (a 0)), (2, .ref (d 0)), (3, ii (i + 4))]) [1, 2, 3, 0] rfl ?_
        exact ih (i + 4) C' M' (by omega) (by omega) (by omega) hR'
      have hv : Rg v := ⟨by omega, by omega⟩
      rcases (show v = 0 ∨ v = 1 ∨ v = 2 ∨ v = 3 ∨ v = 4 ∨ v = 5 ∨ v = 6 ∨ v = 7 ∨ v = 8 ∨ v = 9 ∨ v = 10 ∨ v = 11 ∨ v = 12 ∨ v = 13 ∨ v = 14 ∨ v = 15 ∨ v = 16 ∨ v = 17 ∨ v = 18 ∨ v = 19 ∨ v = 20 ∨ v = 21 ∨ v = 22 ∨ 22 < v by omega) with hk | hk | hk | hk | hk | hk | hk | hk | hk | hk | hk | hk | hk | hk | hk | hk | hk | hk | hk | hk | hk | hk | hk | hk
      · subst hk
        obtain ⟨r, C', M', h1, h2, h3⟩ := h_setOld i C M ((xs (i + 1).toNat).toInt) ((xs (i + 2).toNat).toInt) ((xs (i + 3).toNat).toInt) hi0 (by omega) hR (rg32 _) (rg32 _) (rg32 _)
        refine g_tab X 108 140 dL_law_32 hv (by decide) (by decide) rfl (by decide) ?_
        exact law_setOld K l a d X hX hbl hL i hi0 (by omega) C C' M M' r h1 h2 (hgo C' M' h3)
      · subst hk
        obtain ⟨r, C', M', h1, h2, h3⟩ := h_setNew i C M ((xs (i + 1).toNat).toInt) ((xs (i + 2).toNat).toInt) ((xs (i + 3).toNat).toInt) hi0 (by omega) hR (rg32 _) (rg32 _) (rg32 _)
        refine g_tab X 151 183 dL_law_32 hv (by decide) (by decide) rfl (by decide) ?_
        exact law_setNew K l a d X hX hbl hL i hi0 (by omega) C C' M M' r h1 h2 (hgo C' M' h3)
      · subst hk
        obtain ⟨r, C', M', h1, h2, h3⟩ := h_setOldTerm i C M ((xs (i + 1).toNat).toInt) ((xs (i + 2).toNat).toInt) ((xs (i + 3).toNat).toInt) hi0 (by omega) hR (rg32 _) (rg32 _) (rg32 _)
        refine g_tab X 194 226 dL_law_32 hv (by decide) (by decide) rfl (by decide) ?_
        exact law_setOldTerm K l a d X hX hbl hL i hi0 (by omega) C C' M M' r h1 h2 (hgo C' M' h3)
      · subst hk
        obtain ⟨r, C', M', h1, h2, h3⟩ := h_setNewTerm i C M ((xs (i + 1).toNat).toInt) ((xs (i + 2).toNat).toInt) ((xs (i + 3).toNat).toInt) hi0 (by omega) hR (rg32 _) (rg32 _) (rg32 _)
        refine g_tab X 237 269 dL_law_32 hv (by decide) (by decide) rfl (by decide) ?_
        exact law_setNewTerm K l a d X hX hbl hL i hi0 (by omega) C C' M M' r h1 h2 (hgo C' M' h3)
      · subst hk
        obtain ⟨r, C', M', h1, h2, h3⟩ := h_map i C M ((xs (i + 1).toNat).toInt) ((xs (i + 2).toNat).toInt) hi0 (by omega) hR (rg32 _) (rg32 _)
        refine g_tab X 280 312 dL_law_32 hv (by decide) (by decide) rfl (by decide) ?_
        exact law_map K l a d X hX hbl hL i hi0 (by omega) C C' M M' r h1 h2 (hgo C' M' h3)
      · subst hk
        obtain ⟨r, C', M', h1, h2, h3⟩ := h_unmap i C M ((xs (i + 1).toNat).toInt) hi0 (by omega) hR (rg32 _)
        refine g_tab X 313 345 dL_law_32 hv (by decide) (by decide) rfl (by decide) ?_
        exact law_unmap K l a d X hX hbl hL i hi0 (by omega) C C' M M' r h1 h2 (hgo C' M' h3)
      · subst hk
        obtain ⟨r, C', M', h1, h2, h3⟩ := h_setSource i C M ((xs (i + 1).toNat).toInt) ((xs (i + 2).toNat).toInt) ((xs (i + 3).toNat).toInt) hi0 (by omega) hR (rg32 _) (rg32 _) (rg32 _)
        refine g_tab X 336 368 dL_law_32 hv (by decide) (by decide) rfl (by decide) ?_
        exact law_setSource K l a d X hX hbl hL i hi0 (by omega) C C' M M' r h1 h2 (hgo C' M' h3)
      · subst hk
        obtain ⟨r, C', M', h1, h2, h3⟩ := h_setConstant i C M ((xs (i + 1).toNat).toInt) ((xs (i + 2).toNat).toInt) ((xs (i + 3).toNat).toInt) hi0 (by omega) hR (rg32 _) (rg32 _) (rg32 _)
        refine g_tab X 379 411 dL_law_32 hv (by decide) (by decide) rfl (by decide) ?_
        exact law_setConstant K l a d X hX hbl hL i hi0 (by omega) C C' M M' r h1 h2 (hgo C' M' h3)
      · subst hk
        obtain ⟨r, C', M', h1, h2, h3⟩ := h_isFaithful i C M ((xs (i + 1).toNat).toInt) hi0 (by omega) hR (rg32 _)
        refine g_tab X 422 454 dL_law_32 hv (by decide) (by decide) rfl (by decide) ?_
        exact law_isFaithful K l a d X hX hbl hL i hi0 (by omega) C C' M M' r h1 h2 (hgo C' M' h3)
      · subst hk
        obtain ⟨r, C', M', h1, h2, h3⟩ := h_allowAdapters i C M ((xs (i + 1).toNat).toInt) hi0 (by omega) hR (rg32 _)
        refine g_tab X 445 477 dL_law_32 hv (by decide) (by decide) rfl (by decide) ?_
        exact law_allowAdapters K l a d X hX hbl hL i hi0 (by omega) C C' M M' r h1 h2 (hgo C' M' h3)
      · subst hk
        obtain ⟨r, C', M', h1, h2, h3⟩ := h_adapterOf i C M ((xs (i + 1).toNat).toInt) hi0 (by omega) hR (rg32 _)
        refine g_tab X 468 500 dL_law_32 hv (by decide) (by decide) rfl (by decide) ?_
        exact law_adapterOf K l a d X hX hbl hL i hi0 (by omega) C C' M M' r h1 h2 (hgo C' M' h3)
      · subst hk
        obtain ⟨r, C', M', h1, h2, h3⟩ := h_append i C M ((xs (i + 1).toNat).toInt) hi0 (by omega) hR (rg32 _)
        refine g_tab X 491 523 dL_law_32 hv (by decide) (by decide) rfl (by decide) ?_
        exact law_append K l a d X hX hbl hL i hi0 (by omega) C C' M M' r h1 h2 (hgo C' M' h3)
      · subst hk
        obtain ⟨r, C', M', h1, h2, h3⟩ := h_clearText i C M  hi0 (by omega) hR 
        refine g_tab X 514 546 dL_law_32 hv (by decide) (by decide) rfl (by decide) ?_
        exact law_clearText K l a d X hX hbl hL i hi0 (by omega) C C' M M' r h1 h2 (hgo C' M' h3)
      · subst hk
        obtain ⟨r, C', M', h1, h2, h3⟩ := h_parse i C M  hi0 (by omega) hR 
        refine g_tab X 527 559 dL_law_32 hv (by decide) (by decide) rfl (by decide) ?_
        exact law_parse K l a d X hX hbl hL i hi0 (by omega) C C' M M' r h1 h2 (hgo C' M' h3)
      · subst hk
        obtain ⟨r, C', M', h1, h2, h3⟩ := h_migrate i C M  hi0 (by omega) hR 
        refine g_tab X 540 572 dL_law_32 hv (by decide) (by decide) rfl (by decide) ?_
        exact law_migrate K l a d X hX hbl hL i hi0 (by omega) C C' M M' r h1 h2 (hgo C' M' h3)
      · subst hk
        obtain ⟨r, C', M', h1, h2, h3⟩ := h_left i C M ((xs (i + 1).toNat).toInt) hi0 (by omega) hR (rg32 _)
        refine g_tab X 553 585 dL_law_32 hv (by decide) (by decide) rfl (by decide) ?_
        exact law_left K l a d X hX hbl hL i hi0 (by omega) C C' M M' r h1 h2 (hgo C' M' h3)
      · subst hk
        obtain ⟨r, C', M', h1, h2, h3⟩ := h_sites i C M  hi0 (by omega) hR 
        refine g_tab X 576 608 dL_law_32 hv (by decide) (by decide) rfl (by decide) ?_
        exact law_sites K l a d X hX hbl hL i hi0 (by omega) C C' M M' r h1 h2 (hgo C' M' h3)
      · subst hk
        obtain ⟨r, C', M', h1, h2, h3⟩ := h_nodes i C M  hi0 (by omega) hR 
        refine g_tab X 589 621 dL_law_32 hv (by decide) (by decide) rfl (by decide) ?_
        exact law_nodes K l a d X hX hbl hL i hi0 (by omega) C C' M M' r h1 h2 (hgo C' M' h3)
      · subst hk
        obtain ⟨r, C', M', h1, h2, h3⟩ := h_value i C M ((xs (i + 1).toNat).toInt) ((xs (i + 2).toNat).toInt) hi0 (by omega) hR (rg32 _) (rg32 _)
        refine g_tab X 602 634 dL_law_32 hv (by decide) (by decide) rfl (by decide) ?_
        exact law_value K l a d X hX hbl hL i hi0 (by omega) C C' M M' r h1 h2 (hgo C' M' h3)
      · subst hk
        obtain ⟨r, C', M', h1, h2, h3⟩ := h_textByte i C M ((xs (i + 1).toNat).toInt) hi0 (by omega) hR (rg32 _)
        refine g_tab X 635 667 dL_law_32 hv (by decide) (by decide) rfl (by decide) ?_
        exact law_textByte K l a d X hX hbl hL i hi0 (by omega) C C' M M' r h1 h2 (hgo C' M' h3)
      · subst hk
        obtain ⟨r, C', M', h1, h2, h3⟩ := h_undo i C M  hi0 (by omega) hR 
        refine g_tab X 658 690 dL_law_32 hv (by decide) (by decide) rfl (by decide) ?_
        exact law_undo K l a d X hX hbl hL i hi0 (by omega) C C' M M' r h1 h2 (hgo C' M' h3)
      · subst hk
        obtain ⟨r, C', M', h1, h2, h3⟩ := h_errorCount i C M ((xs (i + 1).toNat).toInt) hi0 (by omega) hR (rg32 _)
        refine g_tab X 671 703 dL_law_32 hv (by decide) (by decide) rfl (by decide) ?_
        exact law_errorCount K l a d X hX hbl hL i hi0 (by omega) C C' M M' r h1 h2 (hgo C' M' h3)
      · subst hk
        obtain ⟨r, C', M', h1, h2, h3⟩ := h_digest i C M  hi0 (by omega) hR 
        refine g_tab X 694 726 dL_law_32 hv (by decide) (by decide) rfl (by decide) ?_
        exact law_digest K l a d X hX hbl hL i hi0 (by omega) C C' M M' r h1 h2 (hgo C' M' h3)
      · refine g_tabD X 740 dL_law_32 hv hk (by decide) ?_
        exact hgo C M (h_mono i C M hR)
    · refine g_icmp_gt X (show brLE i ((L : Int) - 4) none (some ()) = some () by unfold brLE; rw [if_pos ⟨r1, r2⟩, if_neg hle]) 746 dL_law_23 (by decide) (fun h => nomatch h) (fun _ => ?_)
      refine g_iconst X dL_law_746 ?_
      intro H locs ls hP hD hS hl
      refine va_forget (fun q hq => hS.2.2 q hq) ?_
      exact lw_ret X.1 X.2.1 hr hlk dL_law_747
