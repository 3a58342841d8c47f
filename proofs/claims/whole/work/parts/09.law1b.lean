set_option maxHeartbeats 4000000 in
set_option maxRecDepth 100000 in
theorem law_clearText (K : KE) (l : Launch) (a d : Nat → Nat) {p : Program} {e : Env} {s : State} {m : MethodId} {below : List Frame} {meth : Method} {c : Code} {b L : Nat} {xs : Nat → Int32} (X : CX p s m #[Value.ref b] c K.1 vwCl (kT K) (fun q : Nat => s.heap.size ≤ q) cL_law 4 wsL_law RL) (hX : va_X b L xs s s.heap) (hbl : b < s.heap.size) (hL : L ≤ 2048) (i : Int) (hi0 : 0 ≤ i) (hi3 : i + 3 < L) (C C' : CM) (M M' : MT) (r : Int) (hC : cm_clearText C  = some (r, C')) (hM : rm_clearText M  = some (r, M')) (hk : GO p l e room_1 s m #[Value.ref b] below meth c K.1 vwCl (fun q : Nat => s.heap.size ≤ q) (lw_Z below #[Value.ref b] s) 4 600000 7302250 740 [(0, .ref b), (1, .ref (a 0)), (2, .ref (d 0)), (3, ii i)] [] (c9 K a C' ++ cM K d M')) : GO p l e room_1 s m #[Value.ref b] below meth c K.1 vwCl (fun q : Nat => s.heap.size ≤ q) (lw_Z below #[Value.ref b] s) 4 600000 7302250 546 [(0, .ref b), (1, .ref (a 0)), (2, .ref (d 0)), (3, ii i)] [] (c9 K a C ++ cM K d M) := by
  have hbA : ¬ (fun q : Nat => s.heap.size ≤ q) b := Nat.not_le.mpr hbl
  unfold cm_clearText at hC
  unfold rm_clearText at hM
  obtain ⟨w, hw, hwe⟩ := Option.map_eq_some_iff.mp hM
  cases hwe
  refine g_aload_n X dL_law_546 1 rfl rfl ?_
  refine g_callV X (As := []) (st := []) (st1 := [ii w.1]) (ws' := c9 K a C' ++ cM K d M) (X9_clearText_ok K l a C  _ hC) gL_law_X9_clearText rfl 0 (by decide +kernel) ⟨rfl, rfl⟩ ⟨Nat.le_of_ble_eq_true rfl, Nat.le_of_ble_eq_true rfl⟩ ⟨Nat.le_of_ble_eq_true rfl, Nat.le_of_ble_eq_true rfl⟩ 0 rfl rfl rfl rfl (Nat.le_of_ble_eq_true rfl) dL_law_547 (SG.one [] (cM K d M) rfl rfl rfl) rfl ?_
  refine g_aload_n X dL_law_550 2 rfl rfl ?_
  refine g_callV X (As := []) (st := [ii w.1]) (st1 := [ii w.1, ii w.1]) (ws' := c9 K a C' ++ c10 K d M.1 M.2.1 M.2.2.1 M.2.2.2.1 M.2.2.2.2.1 w.2 M.2.2.2.2.2.2.1 M.2.2.2.2.2.2.2.1 M.2.2.2.2.2.2.2.2.1 M.2.2.2.2.2.2.2.2.2.1 M.2.2.2.2.2.2.2.2.2.2.1 M.2.2.2.2.2.2.2.2.2.2.2.1 M.2.2.2.2.2.2.2.2.2.2.2.2.1 M.2.2.2.2.2.2.2.2.2.2.2.2.2.1 M.2.2.2.2.2.2.2.2.2.2.2.2.2.2.1 M.2.2.2.2.2.2.2.2.2.2.2.2.2.2.2.1 M.2.2.2.2.2.2.2.2.2.2.2.2.2.2.2.2.1 M.2.2.2.2.2.2.2.2.2.2.2.2.2.2.2.2.2.1 M.2.2.2.2.2.2.2.2.2.2.2.2.2.2.2.2.2.2.1 M.2.2.2.2.2.2.2.2.2.2.2.2.2.2.2.2.2.2.2.1 M.2.2.2.2.2.2.2.2.2.2.2.2.2.2.2.2.2.2.2.2.1 M.2.2.2.2.2.2.2.2.2.2.2.2.2.2.2.2.2.2.2.2.2.1 M.2.2.2.2.2.2.2.2.2.2.2.2.2.2.2.2.2.2.2.2.2.2) (X10_clearText_ok K l d M.1 M.2.1 M.2.2.1 M.2.2.2.1 M.2.2.2.2.1 M.2.2.2.2.2.1 M.2.2.2.2.2.2.1 M.2.2.2.2.2.2.2.1 M.2.2.2.2.2.2.2.2.1 M.2.2.2.2.2.2.2.2.2.1 M.2.2.2.2.2.2.2.2.2.2.1 M.2.2.2.2.2.2.2.2.2.2.2.1 M.2.2.2.2.2.2.2.2.2.2.2.2.1 M.2.2.2.2.2.2.2.2.2.2.2.2.2.1 M.2.2.2.2.2.2.2.2.2.2.2.2.2.2.1 M.2.2.2.2.2.2.2.2.2.2.2.2.2.2.2.1 M.2.2.2.2.2.2.2.2.2.2.2.2.2.2.2.2.1 M.2.2.2.2.2.2.2.2.2.2.2.2.2.2.2.2.2.1 M.2.2.2.2.2.2.2.2.2.2.2.2.2.2.2.2.2.2.1 M.2.2.2.2.2.2.2.2.2.2.2.2.2.2.2.2.2.2.2.1 M.2.2.2.2.2.2.2.2.2.2.2.2.2.2.2.2.2.2.2.2.1 M.2.2.2.2.2.2.2.2.2.2.2.2.2.2.2.2.2.2.2.2.2.1 M.2.2.2.2.2.2.2.2.2.2.2.2.2.2.2.2.2.2.2.2.2.2  w hw) gL_law_X10_clearText rfl 0 (by decide +kernel) ⟨rfl, rfl⟩ ⟨Nat.le_of_ble_eq_true rfl, Nat.le_of_ble_eq_true rfl⟩ ⟨Nat.le_of_ble_eq_true rfl, Nat.le_of_ble_eq_true rfl⟩ 137 rfl rfl rfl rfl (Nat.le_of_ble_eq_true rfl) dL_law_551 (SG.one (c9 K a C') [] rfl rfl rfl) rfl ?_
  refine g_same X 740 dL_law_554 (by decide) ?_
  exact hk
set_option maxHeartbeats 4000000 in
set_option maxRecDepth 100000 in
theorem law_parse (K : KE) (l : Launch) (a d : Nat → Nat) {p : Program} {e : Env} {s : State} {m : MethodId} {below : List Frame} {meth : Method} {c : Code} {b L : Nat} {xs : Nat → Int32} (X : CX p s m #[Value.ref b] c K.1 vwCl (kT K) (fun q : Nat => s.heap.size ≤ q) cL_law 4 wsL_law RL) (hX : va_X b L xs s s.heap) (hbl : b < s.heap.size) (hL : L ≤ 2048) (i : Int) (hi0 : 0 ≤ i) (hi3 : i + 3 < L) (C C' : CM) (M M' : MT) (r : Int) (hC : cm_parse C  = some (r, C')) (hM : rm_parse M  = some (r, M')) (hk : GO p l e room_1 s m #[Value.ref b] below meth c K.1 vwCl (fun q : Nat => s.heap.size ≤ q) (lw_Z below #[Value.ref b] s) 4 600000 7302250 740 [(0, .ref b), (1, .ref (a 0)), (2, .ref (d 0)), (3, ii i)] [] (c9 K a C' ++ cM K d M')) : GO p l e room_1 s m #[Value.ref b] below meth c K.1 vwCl (fun q : Nat => s.heap.size ≤ q) (lw_Z below #[Value.ref b] s) 4 600000 7302250 559 [(0, .ref b), (1, .ref (a 0)), (2, .ref (d 0)), (3, ii i)] [] (c9 K a C ++ cM K d M) := by
  have hbA : ¬ (fun q : Nat => s.heap.size ≤ q) b := Nat.not_le.mpr hbl
  unfold cm_parse at hC
  unfold rm_parse at hM
  obtain ⟨w, hw, hwe⟩ := Option.map_eq_some_iff.mp hM
  cases hwe
  refine g_aload_n X dL_law_559 1 rfl rfl ?_
  refine g_callV X (As := []) (st := []) (st1 := [ii w.1]) (ws' := c9 K a C' ++ cM K d M) (X9_parse_ok K l a C  _ hC) gL_law_X9_parse rfl 0 (by decide +kernel) ⟨rfl, rfl⟩ ⟨Nat.le_of_ble_eq_true rfl, Nat.le_of_ble_eq_true rfl⟩ ⟨Nat.le_of_ble_eq_true rfl, Nat.le_of_ble_eq_true rfl⟩ 0 rfl rfl rfl rfl (Nat.le_of_ble_eq_true rfl) dL_law_560 (SG.one [] (cM K d M) rfl rfl rfl) rfl ?_
  refine g_aload_n X dL_law_563 2 rfl rfl ?_
  refine g_callV X (As := []) (st := [ii w.1]) (st1 := [ii w.1, ii w.1]) (ws' := c9 K a C' ++ c10 K d w.2.1 w.2.2.1 w.2.2.2.1 M.2.2.2.1 M.2.2.2.2.1 M.2.2.2.2.2.1 w.2.2.2.2.1 w.2.2.2.2.2.1 w.2.2.2.2.2.2.1 w.2.2.2.2.2.2.2.1 w.2.2.2.2.2.2.2.2 M.2.2.2.2.2.2.2.2.2.2.2.1 M.2.2.2.2.2.2.2.2.2.2.2.2.1 M.2.2.2.2.2.2.2.2.2.2.2.2.2.1 M.2.2.2.2.2.2.2.2.2.2.2.2.2.2.1 M.2.2.2.2.2.2.2.2.2.2.2.2.2.2.2.1 M.2.2.2.2.2.2.2.2.2.2.2.2.2.2.2.2.1 M.2.2.2.2.2.2.2.2.2.2.2.2.2.2.2.2.2.1 M.2.2.2.2.2.2.2.2.2.2.2.2.2.2.2.2.2.2.1 M.2.2.2.2.2.2.2.2.2.2.2.2.2.2.2.2.2.2.2.1 M.2.2.2.2.2.2.2.2.2.2.2.2.2.2.2.2.2.2.2.2.1 M.2.2.2.2.2.2.2.2.2.2.2.2.2.2.2.2.2.2.2.2.2.1 M.2.2.2.2.2.2.2.2.2.2.2.2.2.2.2.2.2.2.2.2.2.2) (X10_parse_ok K l d M.1 M.2.1 M.2.2.1 M.2.2.2.1 M.2.2.2.2.1 M.2.2.2.2.2.1 M.2.2.2.2.2.2.1 M.2.2.2.2.2.2.2.1 M.2.2.2.2.2.2.2.2.1 M.2.2.2.2.2.2.2.2.2.1 M.2.2.2.2.2.2.2.2.2.2.1 M.2.2.2.2.2.2.2.2.2.2.2.1 M.2.2.2.2.2.2.2.2.2.2.2.2.1 M.2.2.2.2.2.2.2.2.2.2.2.2.2.1 M.2.2.2.2.2.2.2.2.2.2.2.2.2.2.1 M.2.2.2.2.2.2.2.2.2.2.2.2.2.2.2.1 M.2.2.2.2.2.2.2.2.2.2.2.2.2.2.2.2.1 M.2.2.2.2.2.2.2.2.2.2.2.2.2.2.2.2.2.1 M.2.2.2.2.2.2.2.2.2.2.2.2.2.2.2.2.2.2.1 M.2.2.2.2.2.2.2.2.2.2.2.2.2.2.2.2.2.2.2.1 M.2.2.2.2.2.2.2.2.2.2.2.2.2.2.2.2.2.2.2.2.1 M.2.2.2.2.2.2.2.2.2.2.2.2.2.2.2.2.2.2.2.2.2.1 M.2.2.2.2.2.2.2.2.2.2.2.2.2.2.2.2.2.2.2.2.2.2  w hw) gL_law_X10_parse rfl 0 (by decide +kernel) ⟨rfl, rfl⟩ ⟨Nat.le_of_ble_eq_true rfl, Nat.le_of_ble_eq_true rfl⟩ ⟨Nat.le_of_ble_eq_true rfl, Nat.le_of_ble_eq_true rfl⟩ 137 rfl rfl rfl rfl (Nat.le_of_ble_eq_true rfl) dL_law_564 (SG.one (c9 K a C') [] rfl rfl rfl) rfl ?_
  refine g_same X 740 dL_law_567 (by decide) ?_
  exact hk
set_option maxHeartbeats 4000000 in
set_option maxRecDepth 100000 in
theorem law_migrate (K : KE) (l : Launch) (a d : Nat → Nat) {p : Program} {e : Env} {s : State} {m : MethodId} {below : List Frame} {meth : Method} {c : Code} {b L : Nat} {xs : Nat → Int32} (X : CX p s m #[Value.ref b] c K.1 vwCl (kT K) (fun q : Nat => s.heap.size ≤ q) cL_law 4 wsL_law RL) (hX : va_X b L xs s s.heap) (hbl : b < s.heap.size) (hL : L ≤ 2048) (i : Int) (hi0 : 0 ≤ i) (hi3 : i + 3 < L) (C C' : CM) (M M' : MT) (r : Int) (hC : cm_migrate C  = some (r, C')) (hM : rm_migrate M  = some (r, M')) (hk : GO p l e room_1 s m #[Value.ref b] below meth c K.1 vwCl (fun q : Nat => s.heap.size ≤ q) (lw_Z below #[Value.ref b] s) 4 600000 7302250 740 [(0, .ref b), (1, .ref (a 0)), (2, .ref (d 0)), (3, ii i)] [] (c9 K a C' ++ cM K d M')) : GO p l e room_1 s m #[Value.ref b] below meth c K.1 vwCl (fun q : Nat => s.heap.size ≤ q) (lw_Z below #[Value.ref b] s) 4 600000 7302250 572 [(0, .ref b), (1, .ref (a 0)), (2, .ref (d 0)), (3, ii i)] [] (c9 K a C ++ cM K d M) := by
  have hbA : ¬ (fun q : Nat => s.heap.size ≤ q) b := Nat.not_le.mpr hbl
  unfold cm_migrate at hC
  unfold rm_migrate at hM
  obtain ⟨w, hw, hwe⟩ := Option.map_eq_some_iff.mp hM
  cases hwe
  refine g_aload_n X dL_law_572 1 rfl rfl ?_
  refine g_callV X (As := []) (st := []) (st1 := [ii w.1]) (ws' := c9 K a C' ++ cM K d M) (X9_migrate_ok K l a C  _ hC) gL_law_X9_migrate rfl 0 (by decide +kernel) ⟨rfl, rfl⟩ ⟨Nat.le_of_ble_eq_true rfl, Nat.le_of_ble_eq_true rfl⟩ ⟨Nat.le_of_ble_eq_true rfl, Nat.le_of_ble_eq_true rfl⟩ 0 rfl rfl rfl rfl (Nat.le_of_ble_eq_true rfl) dL_law_573 (SG.one [] (cM K d M) rfl rfl rfl) rfl ?_
  refine g_aload_n X dL_law_576 2 rfl rfl ?_
  refine g_callV X (As := []) (st := [ii w.1]) (st1 := [ii w.1, ii w.1]) (ws' := c9 K a C' ++ c10 K d w.2.1 w.2.2.1 w.2.2.2.1 M.2.2.2.1 M.2.2.2.2.1 M.2.2.2.2.2.1 M.2.2.2.2.2.2.1 M.2.2.2.2.2.2.2.1 M.2.2.2.2.2.2.2.2.1 M.2.2.2.2.2.2.2.2.2.1 M.2.2.2.2.2.2.2.2.2.2.1 w.2.2.2.2.1 w.2.2.2.2.2.1 w.2.2.2.2.2.2.1 w.2.2.2.2.2.2.2.1 w.2.2.2.2.2.2.2.2.1 w.2.2.2.2.2.2.2.2.2.1 w.2.2.2.2.2.2.2.2.2.2.1 w.2.2.2.2.2.2.2.2.2.2.2.1 w.2.2.2.2.2.2.2.2.2.2.2.2 M.2.2.2.2.2.2.2.2.2.2.2.2.2.2.2.2.2.2.2.2.1 M.2.2.2.2.2.2.2.2.2.2.2.2.2.2.2.2.2.2.2.2.2.1 M.2.2.2.2.2.2.2.2.2.2.2.2.2.2.2.2.2.2.2.2.2.2) (X10_migrate_ok K l d M.1 M.2.1 M.2.2.1 M.2.2.2.1 M.2.2.2.2.1 M.2.2.2.2.2.1 M.2.2.2.2.2.2.1 M.2.2.2.2.2.2.2.1 M.2.2.2.2.2.2.2.2.1 M.2.2.2.2.2.2.2.2.2.1 M.2.2.2.2.2.2.2.2.2.2.1 M.2.2.2.2.2.2.2.2.2.2.2.1 M.2.2.2.2.2.2.2.2.2.2.2.2.1 M.2.2.2.2.2.2.2.2.2.2.2.2.2.1 M.2.2.2.2.2.2.2.2.2.2.2.2.2.2.1 M.2.2.2.2.2.2.2.2.2.2.2.2.2.2.2.1 M.2.2.2.2.2.2.2.2.2.2.2.2.2.2.2.2.1 M.2.2.2.2.2.2.2.2.2.2.2.2.2.2.2.2.2.1 M.2.2.2.2.2.2.2.2.2.2.2.2.2.2.2.2.2.2.1 M.2.2.2.2.2.2.2.2.2.2.2.2.2.2.2.2.2.2.2.1 M.2.2.2.2.2.2.2.2.2.2.2.2.2.2.2.2.2.2.2.2.1 M.2.2.2.2.2.2.2.2.2.2.2.2.2.2.2.2.2.2.2.2.2.1 M.2.2.2.2.2.2.2.2.2.2.2.2.2.2.2.2.2.2.2.2.2.2  w hw) gL_law_X10_migrate rfl 0 (by decide +kernel) ⟨rfl, rfl⟩ ⟨Nat.le_of_ble_eq_true rfl, Nat.le_of_ble_eq_true rfl⟩ ⟨Nat.le_of_ble_eq_true rfl, Nat.le_of_ble_eq_true rfl⟩ 137 rfl rfl rfl rfl (Nat.le_of_ble_eq_true rfl) dL_law_577 (SG.one (c9 K a C') [] rfl rfl rfl) rfl ?_
  refine g_same X 740 dL_law_580 (by decide) ?_
  exact hk
set_option maxHeartbeats 4000000 in
set_option maxRecDepth 100000 in
theorem law_left (K : KE) (l : Launch) (a d : Nat → Nat) {p : Program} {e : Env} {s : State} {m : MethodId} {below : List Frame} {meth : Method} {c : Code} {b L : Nat} {xs : Nat → Int32} (X : CX p s m #[Value.ref b] c K.1 vwCl (kT K) (fun q : Nat => s.heap.size ≤ q) cL_law 4 wsL_law RL) (hX : va_X b L xs s s.heap) (hbl : b < s.heap.size) (hL : L ≤ 2048) (i : Int) (hi0 : 0 ≤ i) (hi3 : i + 3 < L) (C C' : CM) (M M' : MT) (r : Int) (hC : cm_left C ((xs (i + 1).toNat).toInt) = some (r, C')) (hM : rm_left M ((xs (i + 1).toNat).toInt) = some (r, M')) (hk : GO p l e room_1 s m #[Value.ref b] below meth c K.1 vwCl (fun q : Nat => s.heap.size ≤ q) (lw_Z below #[Value.ref b] s) 4 600000 7302250 740 [(0, .ref b), (1, .ref (a 0)), (2, .ref (d 0)), (3, ii i)] [] (c9 K a C' ++ cM K d M')) : GO p l e room_1 s m #[Value.ref b] below meth c K.1 vwCl (fun q : Nat => s.heap.size ≤ q) (lw_Z below #[Value.ref b] s) 4 600000 7302250 585 [(0, .ref b), (1, .ref (a 0)), (2, .ref (d 0)), (3, ii i)] [] (c9 K a C ++ cM K d M) := by
  have hbA : ¬ (fun q : Nat => s.heap.size ≤ q) b := Nat.not_le.mpr hbl
  unfold cm_left at hC
  unfold rm_left at hM
  obtain ⟨w, hw, hwe⟩ := Option.map_eq_some_iff.mp hM
  cases hwe
  refine g_aload_n X dL_law_585 1 rfl rfl ?_
  refine g_aload_n X dL_law_586 0 rfl rfl ?_
  refine g_iload_n X dL_law_587 3 rfl rfl ?_
  refine g_iconst X dL_law_588 ?_
  refine g_iadd X dL_law_589 ?_
  refine g_sld X hX hbl hbA hL ⟨by omega, by omega⟩ dL_law_590 ?_
  refine g_callV X (As := [ii (xs (i + 1).toNat).toInt]) (st := []) (st1 := [ii w.1]) (ws' := c9 K a C' ++ cM K d M) (X9_left_ok K l a C ((xs (i + 1).toNat).toInt) _ hC) gL_law_X9_left rfl 1 (by decide +kernel) ⟨rfl, rfl⟩ ⟨Nat.le_of_ble_eq_true rfl, Nat.le_of_ble_eq_true rfl⟩ ⟨Nat.le_of_ble_eq_true rfl, Nat.le_of_ble_eq_true rfl⟩ 0 rfl rfl rfl rfl (Nat.le_of_ble_eq_true rfl) dL_law_591 (SG.one [] (cM K d M) rfl rfl rfl) rfl ?_
  refine g_aload_n X dL_law_594 2 rfl rfl ?_
  refine g_aload_n X dL_law_595 0 rfl rfl ?_
  refine g_iload_n X dL_law_596 3 rfl rfl ?_
  refine g_iconst X dL_law_597 ?_
  refine g_iadd X dL_law_598 ?_
  refine g_sld X hX hbl hbA hL ⟨by omega, by omega⟩ dL_law_599 ?_
  refine g_callV X (As := [ii (xs (i + 1).toNat).toInt]) (st := [ii w.1]) (st1 := [ii w.1, ii w.1]) (ws' := c9 K a C' ++ c10 K d M.1 M.2.1 M.2.2.1 w.2 M.2.2.2.2.1 M.2.2.2.2.2.1 M.2.2.2.2.2.2.1 M.2.2.2.2.2.2.2.1 M.2.2.2.2.2.2.2.2.1 M.2.2.2.2.2.2.2.2.2.1 M.2.2.2.2.2.2.2.2.2.2.1 M.2.2.2.2.2.2.2.2.2.2.2.1 M.2.2.2.2.2.2.2.2.2.2.2.2.1 M.2.2.2.2.2.2.2.2.2.2.2.2.2.1 M.2.2.2.2.2.2.2.2.2.2.2.2.2.2.1 M.2.2.2.2.2.2.2.2.2.2.2.2.2.2.2.1 M.2.2.2.2.2.2.2.2.2.2.2.2.2.2.2.2.1 M.2.2.2.2.2.2.2.2.2.2.2.2.2.2.2.2.2.1 M.2.2.2.2.2.2.2.2.2.2.2.2.2.2.2.2.2.2.1 M.2.2.2.2.2.2.2.2.2.2.2.2.2.2.2.2.2.2.2.1 M.2.2.2.2.2.2.2.2.2.2.2.2.2.2.2.2.2.2.2.2.1 M.2.2.2.2.2.2.2.2.2.2.2.2.2.2.2.2.2.2.2.2.2.1 M.2.2.2.2.2.2.2.2.2.2.2.2.2.2.2.2.2.2.2.2.2.2) (X10_left_ok K l d M.1 M.2.1 M.2.2.1 M.2.2.2.1 M.2.2.2.2.1 M.2.2.2.2.2.1 M.2.2.2.2.2.2.1 M.2.2.2.2.2.2.2.1 M.2.2.2.2.2.2.2.2.1 M.2.2.2.2.2.2.2.2.2.1 M.2.2.2.2.2.2.2.2.2.2.1 M.2.2.2.2.2.2.2.2.2.2.2.1 M.2.2.2.2.2.2.2.2.2.2.2.2.1 M.2.2.2.2.2.2.2.2.2.2.2.2.2.1 M.2.2.2.2.2.2.2.2.2.2.2.2.2.2.1 M.2.2.2.2.2.2.2.2.2.2.2.2.2.2.2.1 M.2.2.2.2.2.2.2.2.2.2.2.2.2.2.2.2.1 M.2.2.2.2.2.2.2.2.2.2.2.2.2.2.2.2.2.1 M.2.2.2.2.2.2.2.2.2.2.2.2.2.2.2.2.2.2.1 M.2.2.2.2.2.2.2.2.2.2.2.2.2.2.2.2.2.2.2.1 M.2.2.2.2.2.2.2.2.2.2.2.2.2.2.2.2.2.2.2.2.1 M.2.2.2.2.2.2.2.2.2.2.2.2.2.2.2.2.2.2.2.2.2.1 M.2.2.2.2.2.2.2.2.2.2.2.2.2.2.2.2.2.2.2.2.2.2 ((xs (i + 1).toNat).toInt) w hw) gL_law_X10_left rfl 1 (by decide +kernel) ⟨rfl, rfl⟩ ⟨Nat.le_of_ble_eq_true rfl, Nat.le_of_ble_eq_true rfl⟩ ⟨Nat.le_of_ble_eq_true rfl, Nat.le_of_ble_eq_true rfl⟩ 137 rfl rfl rfl rfl (Nat.le_of_ble_eq_true rfl) dL_law_600 (SG.one (c9 K a C') [] rfl rfl rfl) rfl ?_
  refine g_same X 740 dL_law_603 (by decide) ?_
  exact hk
set_option maxHeartbeats 4000000 in
set_option maxRecDepth 100000 in
theorem law_sites (K : KE) (l : Launch) (a d : Nat → Nat) {p : Program} {e : Env} {s : State} {m : MethodId} {below : List Frame} {meth : Method} {c : Code} {b L : Nat} {xs : Nat → Int32} (X : CX p s m #[Value.ref b] c K.1 vwCl (kT K) (fun q : Nat => s.heap.size ≤ q) cL_law 4 wsL_law RL) (hX : va_X b L xs s s.heap) (hbl : b < s.heap.size) (hL : L ≤ 2048) (i : Int) (hi0 : 0 ≤ i) (hi3 : i + 3 < L) (C C' : CM) (M M' : MT) (r : Int) (hC : cm_sites C  = some (r, C')) (hM : rm_sites M  = some (r, M')) (hk : GO p l e room_1 s m #[Value.ref b] below meth c K.1 vwCl (fun q : Nat => s.heap.size ≤ q) (lw_Z below #[Value.ref b] s) 4 600000 7302250 740 [(0, .ref b), (1, .ref (a 0)), (2, .ref (d 0)), (3, ii i)] [] (c9 K a C' ++ cM K d M')) : GO p l e room_1 s m #[Value.ref b] below meth c K.1 vwCl (fun q : Nat => s.heap.size ≤ q) (lw_Z below #[Value.ref b] s) 4 600000 7302250 608 [(0, .ref b), (1, .ref (a 0)), (2, .ref (d 0)), (3, ii i)] [] (c9 K a C ++ cM K d M) := by
  have hbA : ¬ (fun q : Nat => s.heap.size ≤ q) b := Nat.not_le.mpr hbl
  unfold cm_sites at hC
  obtain ⟨u, hu, hue⟩ := Option.map_eq_some_iff.mp hC
  unfold rm_sites at hM
  obtain ⟨w, hw, hwe⟩ := Option.map_eq_some_iff.mp hM
  have e1 := (Prod.mk.inj hue).1
  have e2 := (Prod.mk.inj hwe).1
  have e3 := (Prod.mk.inj hue).2
  have e4 := (Prod.mk.inj hwe).2
  subst e3
  subst e4
  rw [e1] at hu
  rw [e2] at hw
  refine g_aload_n X dL_law_608 1 rfl rfl ?_
  refine g_callV X (As := []) (st := []) (st1 := [ii r]) (ws' := c9 K a C ++ cM K d M) (X9_sites_ok K l a C  _ hu) gL_law_X9_sites rfl 0 (by decide +kernel) ⟨rfl, rfl⟩ ⟨Nat.le_of_ble_eq_true rfl, Nat.le_of_ble_eq_true rfl⟩ ⟨Nat.le_of_ble_eq_true rfl, Nat.le_of_ble_eq_true rfl⟩ 0 rfl rfl rfl rfl (Nat.le_of_ble_eq_true rfl) dL_law_609 (SG.one [] (cM K d M) rfl rfl rfl) rfl ?_
  refine g_aload_n X dL_law_612 2 rfl rfl ?_
  refine g_callV X (As := []) (st := [ii r]) (st1 := [ii r, ii r]) (ws' := c9 K a C ++ c10 K d M.1 M.2.1 M.2.2.1 M.2.2.2.1 M.2.2.2.2.1 M.2.2.2.2.2.1 M.2.2.2.2.2.2.1 M.2.2.2.2.2.2.2.1 M.2.2.2.2.2.2.2.2.1 M.2.2.2.2.2.2.2.2.2.1 M.2.2.2.2.2.2.2.2.2.2.1 M.2.2.2.2.2.2.2.2.2.2.2.1 M.2.2.2.2.2.2.2.2.2.2.2.2.1 M.2.2.2.2.2.2.2.2.2.2.2.2.2.1 M.2.2.2.2.2.2.2.2.2.2.2.2.2.2.1 M.2.2.2.2.2.2.2.2.2.2.2.2.2.2.2.1 M.2.2.2.2.2.2.2.2.2.2.2.2.2.2.2.2.1 M.2.2.2.2.2.2.2.2.2.2.2.2.2.2.2.2.2.1 M.2.2.2.2.2.2.2.2.2.2.2.2.2.2.2.2.2.2.1 M.2.2.2.2.2.2.2.2.2.2.2.2.2.2.2.2.2.2.2.1 M.2.2.2.2.2.2.2.2.2.2.2.2.2.2.2.2.2.2.2.2.1 M.2.2.2.2.2.2.2.2.2.2.2.2.2.2.2.2.2.2.2.2.2.1 M.2.2.2.2.2.2.2.2.2.2.2.2.2.2.2.2.2.2.2.2.2.2) (X10_sites_ok K l d M.1 M.2.1 M.2.2.1 M.2.2.2.1 M.2.2.2.2.1 M.2.2.2.2.2.1 M.2.2.2.2.2.2.1 M.2.2.2.2.2.2.2.1 M.2.2.2.2.2.2.2.2.1 M.2.2.2.2.2.2.2.2.2.1 M.2.2.2.2.2.2.2.2.2.2.1 M.2.2.2.2.2.2.2.2.2.2.2.1 M.2.2.2.2.2.2.2.2.2.2.2.2.1 M.2.2.2.2.2.2.2.2.2.2.2.2.2.1 M.2.2.2.2.2.2.2.2.2.2.2.2.2.2.1 M.2.2.2.2.2.2.2.2.2.2.2.2.2.2.2.1 M.2.2.2.2.2.2.2.2.2.2.2.2.2.2.2.2.1 M.2.2.2.2.2.2.2.2.2.2.2.2.2.2.2.2.2.1 M.2.2.2.2.2.2.2.2.2.2.2.2.2.2.2.2.2.2.1 M.2.2.2.2.2.2.2.2.2.2.2.2.2.2.2.2.2.2.2.1 M.2.2.2.2.2.2.2.2.2.2.2.2.2.2.2.2.2.2.2.2.1 M.2.2.2.2.2.2.2.2.2.2.2.2.2.2.2.2.2.2.2.2.2.1 M.2.2.2.2.2.2.2.2.2.2.2.2.2.2.2.2.2.2.2.2.2.2  r hw) gL_law_X10_sites rfl 0 (by decide +kernel) ⟨rfl, rfl⟩ ⟨Nat.le_of_ble_eq_true rfl, Nat.le_of_ble_eq_true rfl⟩ ⟨Nat.le_of_ble_eq_true rfl, Nat.le_of_ble_eq_true rfl⟩ 137 rfl rfl rfl rfl (Nat.le_of_ble_eq_true rfl) dL_law_613 (SG.one (c9 K a C) [] rfl rfl rfl) rfl ?_
  refine g_same X 740 dL_law_616 (by decide) ?_
  exact hk
set_option maxHeartbeats 4000000 in
set_option maxRecDepth 100000 in
theorem law_nodes (K : KE) (l : Launch) (a d : Nat → Nat) {p : Program} {e : Env} {s : State} {m : MethodId} {below : List Frame} {meth : Method} {c : Code} {b L : Nat} {xs : Nat → Int32} (X : CX p s m #[Value.ref b] c K.1 vwCl (kT K) (fun q : Nat => s.heap.size ≤ q) cL_law 4 wsL_law RL) (hX : va_X b L xs s s.heap) (hbl : b < s.heap.size) (hL : L ≤ 2048) (i : Int) (hi0 : 0 ≤ i) (hi3 : i + 3 < L) (C C' : CM) (M M' : MT) (r : Int) (hC : cm_nodes C  = some (r, C')) (hM : rm_nodes M  = some (r, M')) (hk : GO p l e room_1 s m #[Value.ref b] below meth c K.1 vwCl (fun q : Nat => s.heap.size ≤ q) (lw_Z below #[Value.ref b] s) 4 600000 7302250 740 [(0, .ref b), (1, .ref (a 0)), (2, .ref (d 0)), (3, ii i)] [] (c9 K a C' ++ cM K d M')) : GO p l e room_1 s m #[Value.ref b] below meth c K.1 vwCl (fun q : Nat => s.heap.size ≤ q) (lw_Z below #[Value.ref b] s) 4 600000 7302250 621 [(0, .ref b), (1, .ref (a 0)), (2, .ref (d 0)), (3, ii i)] [] (c9 K a C ++ cM K d M) := by
  have hbA : ¬ (fun q : Nat => s.heap.size ≤ q) b := Nat.not_le.mpr hbl
  unfold cm_nodes at hC
  obtain ⟨u, hu, hue⟩ := Option.map_eq_some_iff.mp hC
  unfold rm_nodes at hM
  obtain ⟨w, hw, hwe⟩ := Option.map_eq_some_iff.mp hM
  have e1 := (Prod.mk.inj hue).1
  have e2 := (Prod.mk.inj hwe).1
  have e3 := (Prod.mk.inj hue).2
  have e4 := (Prod.mk.inj hwe).2
  subst e3
  subst e4
  rw [e1] at hu
  rw [e2] at hw
  refine g_aload_n X dL_law_621 1 rfl rfl ?_
  refine g_callV X (As := []) (st := []) (st1 := [ii r]) (ws' := c9 K a C ++ cM K d M) (X9_nodes_ok K l a C  _ hu) gL_law_X9_nodes rfl 0 (by decide +kernel) ⟨rfl, rfl⟩ ⟨Nat.le_of_ble_eq_true rfl, Nat.le_of_ble_eq_true rfl⟩ ⟨Nat.le_of_ble_eq_true rfl, Nat.le_of_ble_eq_true rfl⟩ 0 rfl rfl rfl rfl (Nat.le_of_ble_eq_true rfl) dL_law_622 (SG.one [] (cM K d M) rfl rfl rfl) rfl ?_
  refine g_aload_n X dL_law_625 2 rfl rfl ?_
  refine g_callV X (As := []) (st := [ii r]) (st1 := [ii r, ii r]) (ws' := c9 K a C ++ c10 K d M.1 M.2.1 M.2.2.1 M.2.2.2.1 M.2.2.2.2.1 M.2.2.2.2.2.1 M.2.2.2.2.2.2.1 M.2.2.2.2.2.2.2.1 M.2.2.2.2.2.2.2.2.1 M.2.2.2.2.2.2.2.2.2.1 M.2.2.2.2.2.2.2.2.2.2.1 M.2.2.2.2.2.2.2.2.2.2.2.1 M.2.2.2.2.2.2.2.2.2.2.2.2.1 M.2.2.2.2.2.2.2.2.2.2.2.2.2.1 M.2.2.2.2.2.2.2.2.2.2.2.2.2.2.1 M.2.2.2.2.2.2.2.2.2.2.2.2.2.2.2.1 M.2.2.2.2.2.2.2.2.2.2.2.2.2.2.2.2.1 M.2.2.2.2.2.2.2.2.2.2.2.2.2.2.2.2.2.1 M.2.2.2.2.2.2.2.2.2.2.2.2.2.2.2.2.2.2.1 M.2.2.2.2.2.2.2.2.2.2.2.2.2.2.2.2.2.2.2.1 M.2.2.2.2.2.2.2.2.2.2.2.2.2.2.2.2.2.2.2.2.1 M.2.2.2.2.2.2.2.2.2.2.2.2.2.2.2.2.2.2.2.2.2.1 M.2.2.2.2.2.2.2.2.2.2.2.2.2.2.2.2.2.2.2.2.2.2) (X10_nodes_ok K l d M.1 M.2.1 M.2.2.1 M.2.2.2.1 M.2.2.2.2.1 M.2.2.2.2.2.1 M.2.2.2.2.2.2.1 M.2.2.2.2.2.2.2.1 M.2.2.2.2.2.2.2.2.1 M.2.2.2.2.2.2.2.2.2.1 M.2.2.2.2.2.2.2.2.2.2.1 M.2.2.2.2.2.2.2.2.2.2.2.1 M.2.2.2.2.2.2.2.2.2.2.2.2.1 M.2.2.2.2.2.2.2.2.2.2.2.2.2.1 M.2.2.2.2.2.2.2.2.2.2.2.2.2.2.1 M.2.2.2.2.2.2.2.2.2.2.2.2.2.2.2.1 M.2.2.2.2.2.2.2.2.2.2.2.2.2.2.2.2.1 M.2.2.2.2.2.2.2.2.2.2.2.2.2.2.2.2.2.1 M.2.2.2.2.2.2.2.2.2.2.2.2.2.2.2.2.2.2.1 M.2.2.2.2.2.2.2.2.2.2.2.2.2.2.2.2.2.2.2.1 M.2.2.2.2.2.2.2.2.2.2.2.2.2.2.2.2.2.2.2.2.1 M.2.2.2.2.2.2.2.2.2.2.2.2.2.2.2.2.2.2.2.2.2.1 M.2.2.2.2.2.2.2.2.2.2.2.2.2.2.2.2.2.2.2.2.2.2  r hw) gL_law_X10_nodes rfl 0 (by decide +kernel) ⟨rfl, rfl⟩ ⟨Nat.le_of_ble_eq_true rfl, Nat.le_of_ble_eq_true rfl⟩ ⟨Nat.le_of_ble_eq_true rfl, Nat.le_of_ble_eq_true rfl⟩ 137 rfl rfl rfl rfl (Nat.le_of_ble_eq_true rfl) dL_law_626 (SG.one (c9 K a C) [] rfl rfl rfl) rfl ?_
  refine g_same X 740 dL_law_629 (by decide) ?_
  exact hk
set_option maxHeartbeats 4000000 in
set_option maxRecDepth 100000 in
theorem law_value (K : KE) (l : Launch) (a d : Nat → Nat) {p : Program} {e : Env} {s : State} {m : MethodId} {below : List Frame} {meth : Method} {c : Code} {b L : Nat} {xs : Nat → Int32} (X : CX p s m #[Value.ref b] c K.1 vwCl (kT K) (fun q : Nat => s.heap.size ≤ q) cL_law 4 wsL_law RL) (hX : va_X b L xs s s.heap) (hbl : b < s.heap.size) (hL : L ≤ 2048) (i : Int) (hi0 : 0 ≤ i) (hi3 : i + 3 < L) (C C' : CM) (M M' : MT) (r : Int) (hC : cm_value C ((xs (i + 1).toNat).toInt) ((xs (i + 2).toNat).toInt) = some (r, C')) (hM : rm_value M ((xs (i + 1).toNat).toInt) ((xs (i + 2).toNat).toInt) = some (r, M')) (hk : GO p l e room_1 s m #[Value.ref b] below meth c K.1 vwCl (fun q : Nat => s.heap.size ≤ q) (lw_Z below #[Value.ref b] s) 4 600000 7302250 740 [(0, .ref b), (1, .ref (a 0)), (2, .ref (d 0)), (3, ii i)] [] (c9 K a C' ++ cM K d M')) : GO p l e room_1 s m #[Value.ref b] below meth c K.1 vwCl (fun q : Nat => s.heap.size ≤ q) (lw_Z below #[Value.ref b] s) 4 600000 7302250 634 [(0, .ref b), (1, .ref (a 0)), (2, .ref (d 0)), (3, ii i)] [] (c9 K a C ++ cM K d M) := by
  have hbA : ¬ (fun q : Nat => s.heap.size ≤ q) b := Nat.not_le.mpr hbl
  unfold cm_value at hC
  unfold rm_value at hM
  obtain ⟨w, hw, hwe⟩ := Option.map_eq_some_iff.mp hM
  cases hwe
  refine g_aload_n X dL_law_634 1 rfl rfl ?_
  refine g_aload_n X dL_law_635 0 rfl rfl ?_
  refine g_iload_n X dL_law_636 3 rfl rfl ?_
  refine g_iconst X dL_law_637 ?_
  refine g_iadd X dL_law_638 ?_
  refine g_sld X hX hbl hbA hL ⟨by omega, by omega⟩ dL_law_639 ?_
  refine g_aload_n X dL_law_640 0 rfl rfl ?_
  refine g_iload_n X dL_law_641 3 rfl rfl ?_
  refine g_iconst X dL_law_642 ?_
  refine g_iadd X dL_law_643 ?_
  refine g_sld X hX hbl hbA hL ⟨by omega, by omega⟩ dL_law_644 ?_
  refine g_callV X (As := [ii (xs (i + 1).toNat).toInt, ii (xs (i + 2).toNat).toInt]) (st := []) (st1 := [ii w.1]) (ws' := c9 K a C' ++ cM K d M) (X9_value_ok K l a C ((xs (i + 1).toNat).toInt) ((xs (i + 2).toNat).toInt) _ hC) gL_law_X9_value rfl 2 (by decide +kernel) ⟨rfl, rfl⟩ ⟨Nat.le_of_ble_eq_true rfl, Nat.le_of_ble_eq_true rfl⟩ ⟨Nat.le_of_ble_eq_true rfl, Nat.le_of_ble_eq_true rfl⟩ 0 rfl rfl rfl rfl (Nat.le_of_ble_eq_true rfl) dL_law_645 (SG.one [] (cM K d M) rfl rfl rfl) rfl ?_
  refine g_aload_n X dL_law_648 2 rfl rfl ?_
  refine g_aload_n X dL_law_649 0 rfl rfl ?_
  refine g_iload_n X dL_law_650 3 rfl rfl ?_
  refine g_iconst X dL_law_651 ?_
  refine g_iadd X dL_law_652 ?_
  refine g_sld X hX hbl hbA hL ⟨by omega, by omega⟩ dL_law_653 ?_
  refine g_aload_n X dL_law_654 0 rfl rfl ?_
  refine g_iload_n X dL_law_655 3 rfl rfl ?_
  refine g_iconst X dL_law_656 ?_
  refine g_iadd X dL_law_657 ?_
  refine g_sld X hX hbl hbA hL ⟨by omega, by omega⟩ dL_law_658 ?_
  refine g_callV X (As := [ii (xs (i + 1).toNat).toInt, ii (xs (i + 2).toNat).toInt]) (st := [ii w.1]) (st1 := [ii w.1, ii w.1]) (ws' := c9 K a C' ++ c10 K d M.1 M.2.1 M.2.2.1 w.2.1 M.2.2.2.2.1 M.2.2.2.2.2.1 M.2.2.2.2.2.2.1 M.2.2.2.2.2.2.2.1 M.2.2.2.2.2.2.2.2.1 M.2.2.2.2.2.2.2.2.2.1 M.2.2.2.2.2.2.2.2.2.2.1 M.2.2.2.2.2.2.2.2.2.2.2.1 M.2.2.2.2.2.2.2.2.2.2.2.2.1 M.2.2.2.2.2.2.2.2.2.2.2.2.2.1 M.2.2.2.2.2.2.2.2.2.2.2.2.2.2.1 M.2.2.2.2.2.2.2.2.2.2.2.2.2.2.2.1 M.2.2.2.2.2.2.2.2.2.2.2.2.2.2.2.2.1 M.2.2.2.2.2.2.2.2.2.2.2.2.2.2.2.2.2.1 M.2.2.2.2.2.2.2.2.2.2.2.2.2.2.2.2.2.2.1 M.2.2.2.2.2.2.2.2.2.2.2.2.2.2.2.2.2.2.2.1 w.2.2 M.2.2.2.2.2.2.2.2.2.2.2.2.2.2.2.2.2.2.2.2.2.1 M.2.2.2.2.2.2.2.2.2.2.2.2.2.2.2.2.2.2.2.2.2.2) (X10_value_ok K l d M.1 M.2.1 M.2.2.1 M.2.2.2.1 M.2.2.2.2.1 M.2.2.2.2.2.1 M.2.2.2.2.2.2.1 M.2.2.2.2.2.2.2.1 M.2.2.2.2.2.2.2.2.1 M.2.2.2.2.2.2.2.2.2.1 M.2.2.2.2.2.2.2.2.2.2.1 M.2.2.2.2.2.2.2.2.2.2.2.1 M.2.2.2.2.2.2.2.2.2.2.2.2.1 M.2.2.2.2.2.2.2.2.2.2.2.2.2.1 M.2.2.2.2.2.2.2.2.2.2.2.2.2.2.1 M.2.2.2.2.2.2.2.2.2.2.2.2.2.2.2.1 M.2.2.2.2.2.2.2.2.2.2.2.2.2.2.2.2.1 M.2.2.2.2.2.2.2.2.2.2.2.2.2.2.2.2.2.1 M.2.2.2.2.2.2.2.2.2.2.2.2.2.2.2.2.2.2.1 M.2.2.2.2.2.2.2.2.2.2.2.2.2.2.2.2.2.2.2.1 M.2.2.2.2.2.2.2.2.2.2.2.2.2.2.2.2.2.2.2.2.1 M.2.2.2.2.2.2.2.2.2.2.2.2.2.2.2.2.2.2.2.2.2.1 M.2.2.2.2.2.2.2.2.2.2.2.2.2.2.2.2.2.2.2.2.2.2 ((xs (i + 1).toNat).toInt) ((xs (i + 2).toNat).toInt) w hw) gL_law_X10_value rfl 2 (by decide +kernel) ⟨rfl, rfl⟩ ⟨Nat.le_of_ble_eq_true rfl, Nat.le_of_ble_eq_true rfl⟩ ⟨Nat.le_of_ble_eq_true rfl, Nat.le_of_ble_eq_true rfl⟩ 137 rfl rfl rfl rfl (Nat.le_of_ble_eq_true rfl) dL_law_659 (SG.one (c9 K a C') [] rfl rfl rfl) rfl ?_
  refine g_same X 740 dL_law_662 (by decide) ?_
  exact hk
set_option maxHeartbeats 4000000 in
set_option maxRecDepth 100000 in
theorem law_textByte (K : KE) (l : Launch) (a d : Nat → Nat) {p : Program} {e : Env} {s : State} {m : MethodId} {below : List Frame} {meth : Method} {c : Code} {b L : Nat} {xs : Nat → Int32} (X : CX p s m #[Value.ref b] c K.1 vwCl (kT K) (fun q : Nat => s.heap.size ≤ q) cL_law 4 wsL_law RL) (hX : va_X b L xs s s.heap) (hbl : b < s.heap.size) (hL : L ≤ 2048) (i : Int) (hi0 : 0 ≤ i) (hi3 : i + 3 < L) (C C' : CM) (M M' : MT) (r : Int) (hC : cm_textByte C ((xs (i + 1).toNat).toInt) = some (r, C')) (hM : rm_textByte M ((xs (i + 1).toNat).toInt) = some (r, M')) (hk : GO p l e room_1 s m #[Value.ref b] below meth c K.1 vwCl (fun q : Nat => s.heap.size ≤ q) (lw_Z below #[Value.ref b] s) 4 600000 7302250 740 [(0, .ref b), (1, .ref (a 0)), (2, .ref (d 0)), (3, ii i)] [] (c9 K a C' ++ cM K d M')) : GO p l e room_1 s m #[Value.ref b] below meth c K.1 vwCl (fun q : Nat => s.heap.size ≤ q) (lw_Z below #[Value.ref b] s) 4 600000 7302250 667 [(0, .ref b), (1, .ref (a 0)), (2, .ref (d 0)), (3, ii i)] [] (c9 K a C ++ cM K d M) := by
  have hbA : ¬ (fun q : Nat => s.heap.size ≤ q) b := Nat.not_le.mpr hbl
  unfold cm_textByte at hC
  unfold rm_textByte at hM
  obtain ⟨w, hw, hwe⟩ := Option.map_eq_some_iff.mp hM
  cases hwe
  refine g_aload_n X dL_law_667 1 rfl rfl ?_
  refine g_aload_n X dL_law_668 0 rfl rfl ?_
  refine g_iload_n X dL_law_669 3 rfl rfl ?_
  refine g_iconst X dL_law_670 ?_
  refine g_iadd X dL_law_671 ?_
  refine g_sld X hX hbl hbA hL ⟨by omega, by omega⟩ dL_law_672 ?_
  refine g_callV X (As := [ii (xs (i + 1).toNat).toInt]) (st := []) (st1 := [ii w.1]) (ws' := c9 K a C' ++ cM K d M) (X9_textByte_ok K l a C ((xs (i + 1).toNat).toInt) _ hC) gL_law_X9_textByte rfl 1 (by decide +kernel) ⟨rfl, rfl⟩ ⟨Nat.le_of_ble_eq_true rfl, Nat.le_of_ble_eq_true rfl⟩ ⟨Nat.le_of_ble_eq_true rfl, Nat.le_of_ble_eq_true rfl⟩ 0 rfl rfl rfl rfl (Nat.le_of_ble_eq_true rfl) dL_law_673 (SG.one [] (cM K d M) rfl rfl rfl) rfl ?_
  refine g_aload_n X dL_law_676 2 rfl rfl ?_
  refine g_aload_n X dL_law_677 0 rfl rfl ?_
  refine g_iload_n X dL_law_678 3 rfl rfl ?_
  refine g_iconst X dL_law_679 ?_
  refine g_iadd X dL_law_680 ?_
  refine g_sld X hX hbl hbA hL ⟨by omega, by omega⟩ dL_law_681 ?_
  refine g_callV X (As := [ii (xs (i + 1).toNat).toInt]) (st := [ii w.1]) (st1 := [ii w.1, ii w.1]) (ws' := c9 K a C' ++ c10 K d M.1 M.2.1 M.2.2.1 w.2.1 M.2.2.2.2.1 M.2.2.2.2.2.1 M.2.2.2.2.2.2.1 M.2.2.2.2.2.2.2.1 w.2.2.1 w.2.2.2.1 M.2.2.2.2.2.2.2.2.2.2.1 M.2.2.2.2.2.2.2.2.2.2.2.1 M.2.2.2.2.2.2.2.2.2.2.2.2.1 M.2.2.2.2.2.2.2.2.2.2.2.2.2.1 M.2.2.2.2.2.2.2.2.2.2.2.2.2.2.1 M.2.2.2.2.2.2.2.2.2.2.2.2.2.2.2.1 M.2.2.2.2.2.2.2.2.2.2.2.2.2.2.2.2.1 M.2.2.2.2.2.2.2.2.2.2.2.2.2.2.2.2.2.1 M.2.2.2.2.2.2.2.2.2.2.2.2.2.2.2.2.2.2.1 M.2.2.2.2.2.2.2.2.2.2.2.2.2.2.2.2.2.2.2.1 M.2.2.2.2.2.2.2.2.2.2.2.2.2.2.2.2.2.2.2.2.1 w.2.2.2.2.1 w.2.2.2.2.2) (X10_textByte_ok K l d M.1 M.2.1 M.2.2.1 M.2.2.2.1 M.2.2.2.2.1 M.2.2.2.2.2.1 M.2.2.2.2.2.2.1 M.2.2.2.2.2.2.2.1 M.2.2.2.2.2.2.2.2.1 M.2.2.2.2.2.2.2.2.2.1 M.2.2.2.2.2.2.2.2.2.2.1 M.2.2.2.2.2.2.2.2.2.2.2.1 M.2.2.2.2.2.2.2.2.2.2.2.2.1 M.2.2.2.2.2.2.2.2.2.2.2.2.2.1 M.2.2.2.2.2.2.2.2.2.2.2.2.2.2.1 M.2.2.2.2.2.2.2.2.2.2.2.2.2.2.2.1 M.2.2.2.2.2.2.2.2.2.2.2.2.2.2.2.2.1 M.2.2.2.2.2.2.2.2.2.2.2.2.2.2.2.2.2.1 M.2.2.2.2.2.2.2.2.2.2.2.2.2.2.2.2.2.2.1 M.2.2.2.2.2.2.2.2.2.2.2.2.2.2.2.2.2.2.2.1 M.2.2.2.2.2.2.2.2.2.2.2.2.2.2.2.2.2.2.2.2.1 M.2.2.2.2.2.2.2.2.2.2.2.2.2.2.2.2.2.2.2.2.2.1 M.2.2.2.2.2.2.2.2.2.2.2.2.2.2.2.2.2.2.2.2.2.2 ((xs (i + 1).toNat).toInt) w hw) gL_law_X10_textByte rfl 1 (by decide +kernel) ⟨rfl, rfl⟩ ⟨Nat.le_of_ble_eq_true rfl, Nat.le_of_ble_eq_true rfl⟩ ⟨Nat.le_of_ble_eq_true rfl, Nat.le_of_ble_eq_true rfl⟩ 137 rfl rfl rfl rfl (Nat.le_of_ble_eq_true rfl) dL_law_682 (SG.one (c9 K a C') [] rfl rfl rfl) rfl ?_
  refine g_same X 740 dL_law_685 (by decide) ?_
  exact hk
set_option maxHeartbeats 4000000 in
set_option maxRecDepth 100000 in
theorem law_undo (K : KE) (l : Launch) (a d : Nat → Nat) {p : Program} {e : Env} {s : State} {m : MethodId} {below : List Frame} {meth : Method} {c : Code} {b L : Nat} {xs : Nat → Int32} (X : CX p s m #[Value.ref b] c K.1 vwCl (kT K) (fun q : Nat => s.heap.size ≤ q) cL_law 4 wsL_law RL) (hX : va_X b L xs s s.heap) (hbl : b < s.heap.size) (hL : L ≤ 2048) (i : Int) (hi0 : 0 ≤ i) (hi3 : i + 3 < L) (C C' : CM) (M M' : MT) (r : Int) (hC : cm_undo C  = some (r, C')) (hM : rm_undo M  = some (r, M')) (hk : GO p l e room_1 s m #[Value.ref b] below meth c K.1 vwCl (fun q : Nat => s.heap.size ≤ q) (lw_Z below #[Value.ref b] s) 4 600000 7302250 740 [(0, .ref b), (1, .ref (a 0)), (2, .ref (d 0)), (3, ii i)] [] (c9 K a C' ++ cM K d M')) : GO p l e room_1 s m #[Value.ref b] below meth c K.1 vwCl (fun q : Nat => s.heap.size ≤ q) (lw_Z below #[Value.ref b] s) 4 600000 7302250 690 [(0, .ref b), (1, .ref (a 0)), (2, .ref (d 0)), (3, ii i)] [] (c9 K a C ++ cM K d M) := by
  have hbA : ¬ (fun q : Nat => s.heap.size ≤ q) b := Nat.not_le.mpr hbl
  unfold cm_undo at hC
  unfold rm_undo at hM
  obtain ⟨w, hw, hwe⟩ := Option.map_eq_some_iff.mp hM
  cases hwe
  refine g_aload_n X dL_law_690 1 rfl rfl ?_
  refine g_callV X (As := []) (st := []) (st1 := [ii w.1]) (ws' := c9 K a C' ++ cM K d M) (X9_undo_ok K l a C  _ hC) gL_law_X9_undo rfl 0 (by decide +kernel) ⟨rfl, rfl⟩ ⟨Nat.le_of_ble_eq_true rfl, Nat.le_of_ble_eq_true rfl⟩ ⟨Nat.le_of_ble_eq_true rfl, Nat.le_of_ble_eq_true rfl⟩ 0 rfl rfl rfl rfl (Nat.le_of_ble_eq_true rfl) dL_law_691 (SG.one [] (cM K d M) rfl rfl rfl) rfl ?_
  refine g_aload_n X dL_law_694 2 rfl rfl ?_
  refine g_callV X (As := []) (st := [ii w.1]) (st1 := [ii w.1, ii w.1]) (ws' := c9 K a C' ++ c10 K d w.2.1 M.2.1 w.2.2.1 w.2.2.2 M.2.2.2.2.1 M.2.2.2.2.2.1 M.2.2.2.2.2.2.1 M.2.2.2.2.2.2.2.1 M.2.2.2.2.2.2.2.2.1 M.2.2.2.2.2.2.2.2.2.1 M.2.2.2.2.2.2.2.2.2.2.1 M.2.2.2.2.2.2.2.2.2.2.2.1 M.2.2.2.2.2.2.2.2.2.2.2.2.1 M.2.2.2.2.2.2.2.2.2.2.2.2.2.1 M.2.2.2.2.2.2.2.2.2.2.2.2.2.2.1 M.2.2.2.2.2.2.2.2.2.2.2.2.2.2.2.1 M.2.2.2.2.2.2.2.2.2.2.2.2.2.2.2.2.1 M.2.2.2.2.2.2.2.2.2.2.2.2.2.2.2.2.2.1 M.2.2.2.2.2.2.2.2.2.2.2.2.2.2.2.2.2.2.1 M.2.2.2.2.2.2.2.2.2.2.2.2.2.2.2.2.2.2.2.1 M.2.2.2.2.2.2.2.2.2.2.2.2.2.2.2.2.2.2.2.2.1 M.2.2.2.2.2.2.2.2.2.2.2.2.2.2.2.2.2.2.2.2.2.1 M.2.2.2.2.2.2.2.2.2.2.2.2.2.2.2.2.2.2.2.2.2.2) (X10_undo_ok K l d M.1 M.2.1 M.2.2.1 M.2.2.2.1 M.2.2.2.2.1 M.2.2.2.2.2.1 M.2.2.2.2.2.2.1 M.2.2.2.2.2.2.2.1 M.2.2.2.2.2.2.2.2.1 M.2.2.2.2.2.2.2.2.2.1 M.2.2.2.2.2.2.2.2.2.2.1 M.2.2.2.2.2.2.2.2.2.2.2.1 M.2.2.2.2.2.2.2.2.2.2.2.2.1 M.2.2.2.2.2.2.2.2.2.2.2.2.2.1 M.2.2.2.2.2.2.2.2.2.2.2.2.2.2.1 M.2.2.2.2.2.2.2.2.2.2.2.2.2.2.2.1 M.2.2.2.2.2.2.2.2.2.2.2.2.2.2.2.2.1 M.2.2.2.2.2.2.2.2.2.2.2.2.2.2.2.2.2.1 M.2.2.2.2.2.2.2.2.2.2.2.2.2.2.2.2.2.2.1 M.2.2.2.2.2.2.2.2.2.2.2.2.2.2.2.2.2.2.2.1 M.2.2.2.2.2.2.2.2.2.2.2.2.2.2.2.2.2.2.2.2.1 M.2.2.2.2.2.2.2.2.2.2.2.2.2.2.2.2.2.2.2.2.2.1 M.2.2.2.2.2.2.2.2.2.2.2.2.2.2.2.2.2.2.2.2.2.2  w hw) gL_law_X10_undo rfl 0 (by decide +kernel) ⟨rfl, rfl⟩ ⟨Nat.le_of_ble_eq_true rfl, Nat.le_of_ble_eq_true rfl⟩ ⟨Nat.le_of_ble_eq_true rfl, Nat.le_of_ble_eq_true rfl⟩ 137 rfl rfl rfl rfl (Nat.le_of_ble_eq_true rfl) dL_law_695 (SG.one (c9 K a C') [] rfl rfl rfl) rfl ?_
  refine g_same X 740 dL_law_698 (by decide) ?_
  exact hk
set_option maxHeartbeats 4000000 in
set_option maxRecDepth 100000 in
theorem law_errorCount (K : KE) (l : Launch) (a d : Nat → Nat) {p : Program} {e : Env} {s : State} {m : MethodId} {below : List Frame} {meth : Method} {c : Code} {b L : Nat} {xs : Nat → Int32} (X : CX p s m #[Value.ref b] c K.1 vwCl (kT K) (fun q : Nat => s.heap.size ≤ q) cL_law 4 wsL_law RL) (hX : va_X b L xs s s.heap) (hbl : b < s.heap.size) (hL : L ≤ 2048) (i : Int) (hi0 : 0 ≤ i) (hi3 : i + 3 < L) (C C' : CM) (M M' : MT) (r : Int) (hC : cm_errorCount C ((xs (i + 1).toNat).toInt) = some (r, C')) (hM : rm_errorCount M ((xs (i + 1).toNat).toInt) = some (r, M')) (hk : GO p l e room_1 s m #[Value.ref b] below meth c K.1 vwCl (fun q : Nat => s.heap.size ≤ q) (lw_Z below #[Value.ref b] s) 4 600000 7302250 740 [(0, .ref b), (1, .ref (a 0)), (2, .ref (d 0)), (3, ii i)] [] (c9 K a C' ++ cM K d M')) : GO p l e room_1 s m #[Value.ref b] below meth c K.1 vwCl (fun q : Nat => s.heap.size ≤ q) (lw_Z below #[Value.ref b] s) 4 600000 7302250 703 [(0, .ref b), (1, .ref (a 0)), (2, .ref (d 0)), (3, ii i)] [] (c9 K a C ++ cM K d M) := by
  have hbA : ¬ (fun q : Nat => s.heap.size ≤ q) b := Nat.not_le.mpr hbl
  unfold cm_errorCount at hC
  unfold rm_errorCount at hM
  obtain ⟨w, hw, hwe⟩ := Option.map_eq_some_iff.mp hM
  cases hwe
  refine g_aload_n X dL_law_703 1 rfl rfl ?_
  refine g_aload_n X dL_law_704 0 rfl rfl ?_
  refine g_iload_n X dL_law_705 3 rfl rfl ?_
  refine g_iconst X dL_law_706 ?_
  refine g_iadd X dL_law_707 ?_
  refine g_sld X hX hbl hbA hL ⟨by omega, by omega⟩ dL_law_708 ?_
  refine g_callV X (As := [ii (xs (i + 1).toNat).toInt]) (st := []) (st1 := [ii w.1]) (ws' := c9 K a C' ++ cM K d M) (X9_errorCount_ok K l a C ((xs (i + 1).toNat).toInt) _ hC) gL_law_X9_errorCount rfl 1 (by decide +kernel) ⟨rfl, rfl⟩ ⟨Nat.le_of_ble_eq_true rfl, Nat.le_of_ble_eq_true rfl⟩ ⟨Nat.le_of_ble_eq_true rfl, Nat.le_of_ble_eq_true rfl⟩ 0 rfl rfl rfl rfl (Nat.le_of_ble_eq_true rfl) dL_law_709 (SG.one [] (cM K d M) rfl rfl rfl) rfl ?_
  refine g_aload_n X dL_law_712 2 rfl rfl ?_
  refine g_aload_n X dL_law_713 0 rfl rfl ?_
  refine g_iload_n X dL_law_714 3 rfl rfl ?_
  refine g_iconst X dL_law_715 ?_
  refine g_iadd X dL_law_716 ?_
  refine g_sld X hX hbl hbA hL ⟨by omega, by omega⟩ dL_law_717 ?_
  refine g_callV X (As := [ii (xs (i + 1).toNat).toInt]) (st := [ii w.1]) (st1 := [ii w.1, ii w.1]) (ws' := c9 K a C' ++ c10 K d M.1 M.2.1 M.2.2.1 w.2 M.2.2.2.2.1 M.2.2.2.2.2.1 M.2.2.2.2.2.2.1 M.2.2.2.2.2.2.2.1 M.2.2.2.2.2.2.2.2.1 M.2.2.2.2.2.2.2.2.2.1 M.2.2.2.2.2.2.2.2.2.2.1 M.2.2.2.2.2.2.2.2.2.2.2.1 M.2.2.2.2.2.2.2.2.2.2.2.2.1 M.2.2.2.2.2.2.2.2.2.2.2.2.2.1 M.2.2.2.2.2.2.2.2.2.2.2.2.2.2.1 M.2.2.2.2.2.2.2.2.2.2.2.2.2.2.2.1 M.2.2.2.2.2.2.2.2.2.2.2.2.2.2.2.2.1 M.2.2.2.2.2.2.2.2.2.2.2.2.2.2.2.2.2.1 M.2.2.2.2.2.2.2.2.2.2.2.2.2.2.2.2.2.2.1 M.2.2.2.2.2.2.2.2.2.2.2.2.2.2.2.2.2.2.2.1 M.2.2.2.2.2.2.2.2.2.2.2.2.2.2.2.2.2.2.2.2.1 M.2.2.2.2.2.2.2.2.2.2.2.2.2.2.2.2.2.2.2.2.2.1 M.2.2.2.2.2.2.2.2.2.2.2.2.2.2.2.2.2.2.2.2.2.2) (X10_errorCount_ok K l d M.1 M.2.1 M.2.2.1 M.2.2.2.1 M.2.2.2.2.1 M.2.2.2.2.2.1 M.2.2.2.2.2.2.1 M.2.2.2.2.2.2.2.1 M.2.2.2.2.2.2.2.2.1 M.2.2.2.2.2.2.2.2.2.1 M.2.2.2.2.2.2.2.2.2.2.1 M.2.2.2.2.2.2.2.2.2.2.2.1 M.2.2.2.2.2.2.2.2.2.2.2.2.1 M.2.2.2.2.2.2.2.2.2.2.2.2.2.1 M.2.2.2.2.2.2.2.2.2.2.2.2.2.2.1 M.2.2.2.2.2.2.2.2.2.2.2.2.2.2.2.1 M.2.2.2.2.2.2.2.2.2.2.2.2.2.2.2.2.1 M.2.2.2.2.2.2.2.2.2.2.2.2.2.2.2.2.2.1 M.2.2.2.2.2.2.2.2.2.2.2.2.2.2.2.2.2.2.1 M.2.2.2.2.2.2.2.2.2.2.2.2.2.2.2.2.2.2.2.1 M.2.2.2.2.2.2.2.2.2.2.2.2.2.2.2.2.2.2.2.2.1 M.2.2.2.2.2.2.2.2.2.2.2.2.2.2.2.2.2.2.2.2.2.1 M.2.2.2.2.2.2.2.2.2.2.2.2.2.2.2.2.2.2.2.2.2.2 ((xs (i + 1).toNat).toInt) w hw) gL_law_X10_errorCount rfl 1 (by decide +kernel) ⟨rfl, rfl⟩ ⟨Nat.le_of_ble_eq_true rfl, Nat.le_of_ble_eq_true rfl⟩ ⟨Nat.le_of_ble_eq_true rfl, Nat.le_of_ble_eq_true rfl⟩ 137 rfl rfl rfl rfl (Nat.le_of_ble_eq_true rfl) dL_law_718 (SG.one (c9 K a C') [] rfl rfl rfl) rfl ?_
  refine g_same X 740 dL_law_721 (by decide) ?_
  exact hk
set_option maxHeartbeats 4000000 in
set_option maxRecDepth 100000 in
theorem law_digest (K : KE) (l : Launch) (a d : Nat → Nat) {p : Program} {e : Env} {s : State} {m : MethodId} {below : List Frame} {meth : Method} {c : Code} {b L : Nat} {xs : Nat → Int32} (X : CX p s m #[Value.ref b] c K.1 vwCl (kT K) (fun q : Nat => s.heap.size ≤ q) cL_law 4 wsL_law RL) (hX : va_X b L xs s s.heap) (hbl : b < s.heap.size) (hL : L ≤ 2048) (i : Int) (hi0 : 0 ≤ i) (hi3 : i + 3 < L) (C C' : CM) (M M' : MT) (r : Int) (hC : cm_digest C  = some (r, C')) (hM : rm_digest M  = some (r, M')) (hk : GO p l e room_1 s m #[Value.ref b] below meth c K.1 vwCl (fun q : Nat => s.heap.size ≤ q) (lw_Z below #[Value.ref b] s) 4 600000 7302250 740 [(0, .ref b), (1, .ref (a 0)), (2, .ref (d 0)), (3, ii i)] [] (c9 K a C' ++ cM K d M')) : GO p l e room_1 s m #[Value.ref b] below meth c K.1 vwCl (fun q : Nat => s.heap.size ≤ q) (lw_Z below #[Value.ref b] s) 4 600000 7302250 726 [(0, .ref b), (1, .ref (a 0)), (2, .ref (d 0)), (3, ii i)] [] (c9 K a C ++ cM K d M) := by
  have hbA : ¬ (fun q : Nat => s.heap.size ≤ q) b := Nat.not_le.mpr hbl
  unfold cm_digest at hC
  unfold rm_digest at hM
  obtain ⟨w, hw, hwe⟩ := Option.map_eq_some_iff.mp hM
  cases hwe
  refine g_aload_n X dL_law_726 1 rfl rfl ?_
  refine g_callV X (As := []) (st := []) (st1 := [ll w.1]) (ws' := c9 K a C' ++ cM K d M) (X9_digest_ok K l a C  _ hC) gL_law_X9_digest rfl 0 (by decide +kernel) ⟨rfl, rfl⟩ ⟨Nat.le_of_ble_eq_true rfl, Nat.le_of_ble_eq_true rfl⟩ ⟨Nat.le_of_ble_eq_true rfl, Nat.le_of_ble_eq_true rfl⟩ 0 rfl rfl rfl rfl (Nat.le_of_ble_eq_true rfl) dL_law_727 (SG.one [] (cM K d M) rfl rfl rfl) rfl ?_
  refine g_aload_n X dL_law_730 2 rfl rfl ?_
  refine g_callV X (As := []) (st := [ll w.1]) (st1 := [ll w.1, ll w.1]) (ws' := c9 K a C' ++ c10 K d M.1 M.2.1 M.2.2.1 M.2.2.2.1 M.2.2.2.2.1 M.2.2.2.2.2.1 M.2.2.2.2.2.2.1 M.2.2.2.2.2.2.2.1 w.2.1 w.2.2.1 M.2.2.2.2.2.2.2.2.2.2.1 M.2.2.2.2.2.2.2.2.2.2.2.1 M.2.2.2.2.2.2.2.2.2.2.2.2.1 M.2.2.2.2.2.2.2.2.2.2.2.2.2.1 M.2.2.2.2.2.2.2.2.2.2.2.2.2.2.1 M.2.2.2.2.2.2.2.2.2.2.2.2.2.2.2.1 M.2.2.2.2.2.2.2.2.2.2.2.2.2.2.2.2.1 M.2.2.2.2.2.2.2.2.2.2.2.2.2.2.2.2.2.1 M.2.2.2.2.2.2.2.2.2.2.2.2.2.2.2.2.2.2.1 M.2.2.2.2.2.2.2.2.2.2.2.2.2.2.2.2.2.2.2.1 M.2.2.2.2.2.2.2.2.2.2.2.2.2.2.2.2.2.2.2.2.1 w.2.2.2.1 w.2.2.2.2) (X10_digest_ok K l d M.1 M.2.1 M.2.2.1 M.2.2.2.1 M.2.2.2.2.1 M.2.2.2.2.2.1 M.2.2.2.2.2.2.1 M.2.2.2.2.2.2.2.1 M.2.2.2.2.2.2.2.2.1 M.2.2.2.2.2.2.2.2.2.1 M.2.2.2.2.2.2.2.2.2.2.1 M.2.2.2.2.2.2.2.2.2.2.2.1 M.2.2.2.2.2.2.2.2.2.2.2.2.1 M.2.2.2.2.2.2.2.2.2.2.2.2.2.1 M.2.2.2.2.2.2.2.2.2.2.2.2.2.2.1 M.2.2.2.2.2.2.2.2.2.2.2.2.2.2.2.1 M.2.2.2.2.2.2.2.2.2.2.2.2.2.2.2.2.1 M.2.2.2.2.2.2.2.2.2.2.2.2.2.2.2.2.2.1 M.2.2.2.2.2.2.2.2.2.2.2.2.2.2.2.2.2.2.1 M.2.2.2.2.2.2.2.2.2.2.2.2.2.2.2.2.2.2.2.1 M.2.2.2.2.2.2.2.2.2.2.2.2.2.2.2.2.2.2.2.2.1 M.2.2.2.2.2.2.2.2.2.2.2.2.2.2.2.2.2.2.2.2.2.1 M.2.2.2.2.2.2.2.2.2.2.2.2.2.2.2.2.2.2.2.2.2.2  w hw) gL_law_X10_digest rfl 0 (by decide +kernel) ⟨rfl, rfl⟩ ⟨Nat.le_of_ble_eq_true rfl, Nat.le_of_ble_eq_true rfl⟩ ⟨Nat.le_of_ble_eq_true rfl, Nat.le_of_ble_eq_true rfl⟩ 137 rfl rfl rfl rfl (Nat.le_of_ble_eq_true rfl) dL_law_731 (SG.one (c9 K a C') [] rfl rfl rfl) rfl ?_
  refine g_sameL X 740 dL_law_734 dL_law_735 (by decide) ?_
  exact hk
