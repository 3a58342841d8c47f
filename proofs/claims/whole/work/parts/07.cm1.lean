theorem iw_X9_migrate_X9 : ∀ w ∈ u_ws RX9 TX9 8, w ∈ wsX9_migrate := by decide +kernel
theorem fl_X9_migrate_19 : Cond.fieldLink RX9 19 (TX9 1).1 (TX9 1).2.1 (TX9 1).2.2.1 ∈ wsX9_migrate := by decide +kernel
theorem fl_X9_migrate_10 : Cond.fieldLink RX9 10 (TX9 0).1 (TX9 0).2.1 (TX9 0).2.2.1 ∈ wsX9_migrate := by decide +kernel
theorem iw_X9_migrate_X8 : ∀ w ∈ u_ws RX8 TX8 9, w ∈ wsX9_migrate := by decide +kernel
theorem fl_X9_migrate_158 : Cond.fieldLink RX9 158 (TX8 8).1 (TX8 8).2.1 (TX8 8).2.2.1 ∈ wsX9_migrate := by decide +kernel
theorem fl_X9_migrate_54 : Cond.fieldLink RX9 54 (TX9 6).1 (TX9 6).2.1 (TX9 6).2.2.1 ∈ wsX9_migrate := by decide +kernel
theorem ne_X9_migrate_167 : (RX9, 167, yX5_treatFrom) ∈ nestL := by decide +kernel
theorem wd_X9_migrate_ini5 : Cond.initialized yX5_treatFrom.cls ∈ wsX9_migrate := by decide +kernel
theorem wd_X9_migrate_ins_X5_treatFrom : Cond.instanceMethod yX5_treatFrom ∈ wsX9_migrate := by decide +kernel
theorem wd_X9_migrate_sel_X5_treatFrom : Cond.selects RX5 yX5_treatFrom yX5_treatFrom ∈ wsX9_migrate := by decide +kernel
def rmX9_migrate : Room := { frames := 85, cells := 0, slots := 0, locals := 2524 }
def X9_migrate (V0 : CM) : Option (Int × CM) := (X2_save V0.1 V0.2.1).bind (fun v1 => (J7_fill_53178 8 V0.1.2.2.2.2.2.2.2.2 0).bind (fun v3 => (X5_treatFrom 40 (V0.1.1, V0.1.2.1, V0.1.2.2.1, V0.1.2.2.2.1, V0.1.2.2.2.2.1, V0.1.2.2.2.2.2.1, V0.1.2.2.2.2.2.2.1, V0.1.2.2.2.2.2.2.2.1, v3) V0.2.2.2.2.2.2.1 0 0).bind (fun w5 => rdK 8 w5.2.1.2.2.2.2.2.2.2.2 0 (fun v7 => some (v7, (w5.2.1, v1, V0.2.2.1, V0.2.2.2.1, V0.2.2.2.2.1, V0.2.2.2.2.2.1, w5.2.2, V0.2.2.2.2.2.2.2))))))
set_option maxHeartbeats 4000000 in
set_option maxRecDepth 100000 in
theorem X9_migrate_go (K : KE) (l : Launch) (a : Nat → Nat) (WC : va_W) {p : Program} {e : Env} {s : State} {m : MethodId} {args : Array Value} {below : List Frame} {meth : Method} {c : Code} (X : CX p s m args c K.1 vwCl (kT K) (va_A WC s.heap.size) cX9_migrate 1 wsX9_migrate RX9) (hr : meth.sig.returnType = (some .int)) (hlk : meth.locks = false) (V0 : CM) (res : Int × CM) (hf : X9_migrate V0 = some res) : GO p l e rmX9_migrate s m args below meth c K.1 vwCl (va_A WC s.heap.size) (MQ below (QC K.1 vwCl (some (ii res.1)) WC (c9 K a res.2) s.heap.size) args s 0 0 (va_A WC s.heap.size)) 1 0 0 0 [(0, .ref (a 0))] [] (c9 K a V0) := by
  rw [X9_migrate] at hf
  refine g_aload_n X dX9_migrate_0 0 rfl rfl ?_
  refine g_get X (v := .ref (ash a 43 0)) 0 1 dX9_migrate_1 rfl rfl iw_X9_migrate_X9 (by decide) fl_X9_migrate_19 rfl ?_
  refine g_aload_n X dX9_migrate_4 0 rfl rfl ?_
  refine g_get X (v := .ref (ash a 2 0)) 0 0 dX9_migrate_5 rfl rfl iw_X9_migrate_X9 (by decide) fl_X9_migrate_10 rfl ?_
  obtain ⟨v1, hc2, hf⟩ := Option.bind_eq_some_iff.mp hf
  refine g_callV X (As := [.ref (ash a 2 0)]) (st := []) (st1 := []) (ws' := c9 K a (V0.1, v1, V0.2.2.1, V0.2.2.2.1, V0.2.2.2.2.1, V0.2.2.2.2.2.1, V0.2.2.2.2.2.2.1, V0.2.2.2.2.2.2.2)) (X2_save_ok K l (ash a 2) (ash a 43) V0.1 V0.2.1 v1 hc2) gX9_migrate_X2_save rfl 1 (by decide +kernel) ⟨rfl, rfl⟩ ⟨Nat.le_of_ble_eq_true rfl, Nat.le_of_ble_eq_true rfl⟩ ⟨Nat.zero_le _, Nat.zero_le _⟩ 43 rfl rfl rfl rfl (Nat.le_of_ble_eq_true rfl) dX9_migrate_8 (SG.two ([(a 0, .inr (9, [.ref (ash a 2 0), .ref (ash a 43 0), .ref (ash a 25 0), .ref (ash a 27 0), .ref (ash a 31 0), .ref (ash a 34 0), .ref (ash a 36 0), .ref (a 1)]))] ++ ([(a 1, .inl (K.2.1, 4, .inl (arI V0.2.2.2.2.2.2.2)))])) (c3 K (ash a 25) V0.2.2.1 ++ (c6 K (ash a 27) V0.2.2.2.1 ++ (c7 K (ash a 31) V0.2.2.2.2.1 ++ (c0 K (ash a 34) V0.2.2.2.2.2.1 ++ (c5 K (ash a 36) V0.2.2.2.2.2.2.1))))) [] rfl rfl rfl) rfl ?_
  refine g_aload_n X dX9_migrate_11 0 rfl rfl ?_
  refine g_get X (v := .ref (ash a 2 0)) 0 0 dX9_migrate_12 rfl rfl iw_X9_migrate_X9 (by decide) fl_X9_migrate_10 rfl ?_
  refine g_get X (v := .ref (ash a 2 22)) 2 8 dX9_migrate_15 rfl rfl iw_X9_migrate_X8 (by decide) fl_X9_migrate_158 rfl ?_
  refine g_iconst X dX9_migrate_18 ?_
  obtain ⟨v3, hc4, hf⟩ := Option.bind_eq_some_iff.mp hf
  refine g_callS X (As := [.ref (ash a 2 22), ii 0]) (st := []) (st1 := []) (ws' := c9 K a ((V0.1.1, V0.1.2.1, V0.1.2.2.1, V0.1.2.2.2.1, V0.1.2.2.2.2.1, V0.1.2.2.2.2.2.1, V0.1.2.2.2.2.2.2.1, V0.1.2.2.2.2.2.2.2.1, v3), v1, V0.2.2.1, V0.2.2.2.1, V0.2.2.2.2.1, V0.2.2.2.2.2.1, V0.2.2.2.2.2.2.1, V0.2.2.2.2.2.2.2)) (J7_fill_53178_ok K l 8 (by decide) (ash a 2 22) V0.1.2.2.2.2.2.2.2.2 0 v3 hc4) gX9_migrate_J7_fill_53178 rfl 2 (by decide +kernel) ⟨rfl, rfl⟩ ⟨Nat.le_of_ble_eq_true rfl, Nat.le_of_ble_eq_true rfl⟩ ⟨Nat.zero_le _, Nat.zero_le _⟩ rfl rfl (Nat.le_of_ble_eq_true rfl) dX9_migrate_19 (SG.one ([(a 0, .inr (9, [.ref (ash a 2 0), .ref (ash a 43 0), .ref (ash a 25 0), .ref (ash a 27 0), .ref (ash a 31 0), .ref (ash a 34 0), .ref (ash a 36 0), .ref (a 1)]))] ++ ([(a 1, .inl (K.2.1, 4, .inl (arI V0.2.2.2.2.2.2.2)))] ++ ([(ash a 2 0, .inr (8, [.ref (ash (ash a 2) 1 0), .ref (ash (ash a 2) 5 0), .ref (ash (ash a 2) 9 0), ii V0.1.2.2.2.1, .ref (ash a 2 13), ii V0.1.2.2.2.2.2.1, .ref (ash (ash a 2) 14 0), .ref (ash (ash a 2) 18 0), .ref (ash a 2 22)]))] ++ (c1 K 6 (ash (ash a 2) 1) V0.1.1 ++ (c1 K 6 (ash (ash a 2) 5) V0.1.2.1 ++ (c1 K 4 (ash (ash a 2) 9) V0.1.2.2.1 ++ ([(ash a 2 13, .inl (K.2.1, 6, .inl (arI V0.1.2.2.2.2.1)))] ++ (c4 K (ash (ash a 2) 14) V0.1.2.2.2.2.2.2.1 ++ (c6 K (ash (ash a 2) 18) V0.1.2.2.2.2.2.2.2.1))))))))) (c3 K (ash a 25) V0.2.2.1 ++ (c6 K (ash a 27) V0.2.2.2.1 ++ (c7 K (ash a 31) V0.2.2.2.2.1 ++ (c0 K (ash a 34) V0.2.2.2.2.2.1 ++ (c5 K (ash a 36) V0.2.2.2.2.2.2.1 ++ (c2 K (ash a 43) v1)))))) rfl rfl rfl) rfl ?_
  refine g_aload_n X dX9_migrate_22 0 rfl rfl ?_
  refine g_get X (v := .ref (ash a 36 0)) 0 6 dX9_migrate_23 rfl rfl iw_X9_migrate_X9 (by decide) fl_X9_migrate_54 rfl ?_
  refine g_aload_n X dX9_migrate_26 0 rfl rfl ?_
  refine g_get X (v := .ref (ash a 2 0)) 0 0 dX9_migrate_27 rfl rfl iw_X9_migrate_X9 (by decide) fl_X9_migrate_10 rfl ?_
  refine g_iconst X dX9_migrate_30 ?_
  refine g_iconst X dX9_migrate_31 ?_
  obtain ⟨w5, hc6, hf⟩ := Option.bind_eq_some_iff.mp hf
  refine g_callVN X (As := [.ref (ash a 2 0), ii 0, ii 0]) (st := []) (st1 := [ii w5.1]) (ws' := c9 K a (w5.2.1, v1, V0.2.2.1, V0.2.2.2.1, V0.2.2.2.2.1, V0.2.2.2.2.2.1, w5.2.2, V0.2.2.2.2.2.2.2)) (X5_treatFrom_ok K l (ash a 2) (ash a 36) 40 (V0.1.1, V0.1.2.1, V0.1.2.2.1, V0.1.2.2.2.1, V0.1.2.2.2.2.1, V0.1.2.2.2.2.2.1, V0.1.2.2.2.2.2.2.1, V0.1.2.2.2.2.2.2.2.1, v3) V0.2.2.2.2.2.2.1 0 0 w5 hc6) ggX9_migrate_X5_treatFrom ne_X9_migrate_167 wd_X9_migrate_ini5 wd_X9_migrate_ins_X5_treatFrom wd_X9_migrate_sel_X5_treatFrom rfl 3 (by decide +kernel) ⟨rfl, rfl⟩ ⟨Nat.le_of_ble_eq_true rfl, Nat.le_of_ble_eq_true rfl⟩ ⟨Nat.zero_le _, Nat.zero_le _⟩ 36 rfl rfl rfl rfl (Nat.le_of_ble_eq_true rfl) dX9_migrate_32 (SG.two ([(a 0, .inr (9, [.ref (ash a 2 0), .ref (ash a 43 0), .ref (ash a 25 0), .ref (ash a 27 0), .ref (ash a 31 0), .ref (ash a 34 0), .ref (ash a 36 0), .ref (a 1)]))] ++ ([(a 1, .inl (K.2.1, 4, .inl (arI V0.2.2.2.2.2.2.2)))])) (c3 K (ash a 25) V0.2.2.1 ++ (c6 K (ash a 27) V0.2.2.2.1 ++ (c7 K (ash a 31) V0.2.2.2.2.1 ++ (c0 K (ash a 34) V0.2.2.2.2.2.1)))) (c2 K (ash a 43) v1) rfl rfl rfl) rfl ?_
  refine g_pop X dX9_migrate_35 rfl ?_
  refine g_aload_n X dX9_migrate_36 0 rfl rfl ?_
  refine g_get X (v := .ref (ash a 2 0)) 0 0 dX9_migrate_37 rfl rfl iw_X9_migrate_X9 (by decide) fl_X9_migrate_10 rfl ?_
  refine g_get X (v := .ref (ash a 2 22)) 2 8 dX9_migrate_40 rfl rfl iw_X9_migrate_X8 (by decide) fl_X9_migrate_158 rfl ?_
  refine g_iconst X dX9_migrate_43 ?_
  refine g_iald X hf (by decide) 24 0 dX9_migrate_44 rfl rfl (fun v7 hf => ?_)
  cases hf
  exact g_iret X hr hlk dX9_migrate_45
set_option maxHeartbeats 4000000 in
set_option maxRecDepth 100000 in
theorem X9_migrate_ok (K : KE) (l : Launch) (a : Nat → Nat) (V0 : CM) (res : Int × CM) (hf : X9_migrate V0 = some res) : CT l K.1 vwCl (kT K) yX9_migrate wsX9_migrate rmX9_migrate [.ref (a 0)] (some (ii res.1)) (c9 K a V0) (c9 K a res.2) :=
  CT.mk (cc := cX9_migrate) (maxL := 1) (ret := (some .int)) (by decide) rfl (Nat.le_of_ble_eq_true rfl) (fun p e s m below meth c X hr hlk => X9_migrate_go K l a _ X hr hlk V0 res hf)
theorem iw_X9_left_X9 : ∀ w ∈ u_ws RX9 TX9 8, w ∈ wsX9_left := by decide +kernel
theorem fl_X9_left_10 : Cond.fieldLink RX9 10 (TX9 0).1 (TX9 0).2.1 (TX9 0).2.2.1 ∈ wsX9_left := by decide +kernel
theorem iw_X9_left_X8 : ∀ w ∈ u_ws RX8 TX8 9, w ∈ wsX9_left := by decide +kernel
theorem fl_X9_left_158 : Cond.fieldLink RX9 158 (TX8 8).1 (TX8 8).2.1 (TX8 8).2.2.1 ∈ wsX9_left := by decide +kernel
def rmX9_left : Room := { frames := 2, cells := 0, slots := 0, locals := 44 }
def X9_left (V0 : CM) (p1 : Int) : Option (Int × CM) := (X9_within p1 1 7).bind (fun v1 => brEQ v1 0 ((X9_refuse V0 (-2)).bind (fun w3 => some (w3.1, w3.2))) (rdK 8 V0.1.2.2.2.2.2.2.2.2 p1 (fun v5 => some (v5, V0))))
set_option maxHeartbeats 4000000 in
set_option maxRecDepth 100000 in
theorem X9_left_go (K : KE) (l : Launch) (a : Nat → Nat) (WC : va_W) {p : Program} {e : Env} {s : State} {m : MethodId} {args : Array Value} {below : List Frame} {meth : Method} {c : Code} (X : CX p s m args c K.1 vwCl (kT K) (va_A WC s.heap.size) cX9_left 2 wsX9_left RX9) (hr : meth.sig.returnType = (some .int)) (hlk : meth.locks = false) (V0 : CM) (p1 : Int) (res : Int × CM) (hf : X9_left V0 p1 = some res) : GO p l e rmX9_left s m args below meth c K.1 vwCl (va_A WC s.heap.size) (MQ below (QC K.1 vwCl (some (ii res.1)) WC (c9 K a res.2) s.heap.size) args s 0 0 (va_A WC s.heap.size)) 2 0 0 0 [(0, .ref (a 0)), (1, ii p1)] [] (c9 K a V0) := by
  rw [X9_left] at hf
  refine g_iload_n X dX9_left_0 1 rfl rfl ?_
  refine g_iconst X dX9_left_1 ?_
  refine g_bipush X dX9_left_2 (by decide +kernel) ?_
  obtain ⟨v1, hc2, hf⟩ := Option.bind_eq_some_iff.mp hf
  refine g_callS X (As := [ii p1, ii 1, ii 7]) (st := []) (st1 := [ii v1]) (ws' := c9 K a V0) (X9_within_ok K l p1 1 7 v1 hc2) gX9_left_X9_within rfl 3 (by decide +kernel) ⟨rfl, rfl⟩ ⟨Nat.le_of_ble_eq_true rfl, Nat.le_of_ble_eq_true rfl⟩ ⟨Nat.zero_le _, Nat.zero_le _⟩ rfl rfl (Nat.le_of_ble_eq_true rfl) dX9_left_4 SG.none rfl ?_
  refine g_if_ne X hf 17 dX9_left_7 (by decide) (fun hf => ?_) (fun hf => ?_)
  · refine g_aload_n X dX9_left_10 0 rfl rfl ?_
    refine g_bipush X dX9_left_11 (by decide +kernel) ?_
    obtain ⟨w3, hc4, hf⟩ := Option.bind_eq_some_iff.mp hf
    refine g_callV X (As := [ii (-2)]) (st := []) (st1 := [ii w3.1]) (ws' := c9 K a w3.2) (X9_refuse_ok K l a V0 (-2) w3 hc4) gX9_left_X9_refuse rfl 1 (by decide +kernel) ⟨rfl, rfl⟩ ⟨Nat.le_of_ble_eq_true rfl, Nat.le_of_ble_eq_true rfl⟩ ⟨Nat.zero_le _, Nat.zero_le _⟩ 0 rfl rfl rfl rfl (Nat.le_of_ble_eq_true rfl) dX9_left_13 (SG.all rfl) rfl ?_
    cases hf
    exact g_iret X hr hlk dX9_left_16
  · refine g_aload_n X dX9_left_17 0 rfl rfl ?_
    refine g_get X (v := .ref (ash a 2 0)) 0 0 dX9_left_18 rfl rfl iw_X9_left_X9 (by decide) fl_X9_left_10 rfl ?_
    refine g_get X (v := .ref (ash a 2 22)) 2 8 dX9_left_21 rfl rfl iw_X9_left_X8 (by decide) fl_X9_left_158 rfl ?_
    refine g_iload_n X dX9_left_24 1 rfl rfl ?_
    refine g_iald X hf (by decide) 24 0 dX9_left_25 rfl rfl (fun v5 hf => ?_)
    cases hf
    exact g_iret X hr hlk dX9_left_26
set_option maxHeartbeats 4000000 in
set_option maxRecDepth 100000 in
theorem X9_left_ok (K : KE) (l : Launch) (a : Nat → Nat) (V0 : CM) (p1 : Int) (res : Int × CM) (hf : X9_left V0 p1 = some res) : CT l K.1 vwCl (kT K) yX9_left wsX9_left rmX9_left [.ref (a 0), ii p1] (some (ii res.1)) (c9 K a V0) (c9 K a res.2) :=
  CT.mk (cc := cX9_left) (maxL := 2) (ret := (some .int)) (by decide) rfl (Nat.le_of_ble_eq_true rfl) (fun p e s m below meth c X hr hlk => X9_left_go K l a _ X hr hlk V0 p1 res hf)
theorem iw_X9_sites_X9 : ∀ w ∈ u_ws RX9 TX9 8, w ∈ wsX9_sites := by decide +kernel
theorem fl_X9_sites_10 : Cond.fieldLink RX9 10 (TX9 0).1 (TX9 0).2.1 (TX9 0).2.2.1 ∈ wsX9_sites := by decide +kernel
theorem iw_X9_sites_X8 : ∀ w ∈ u_ws RX8 TX8 9, w ∈ wsX9_sites := by decide +kernel
theorem fl_X9_sites_148 : Cond.fieldLink RX9 148 (TX8 7).1 (TX8 7).2.1 (TX8 7).2.2.1 ∈ wsX9_sites := by decide +kernel
def rmX9_sites : Room := { frames := 1, cells := 0, slots := 0, locals := 22 }
def X9_sites (V0 : CM) : Option (Int) := (X6_countSites V0.1.2.2.2.2.2.2.2.1).bind (fun v1 => some v1)
set_option maxHeartbeats 4000000 in
set_option maxRecDepth 100000 in
theorem X9_sites_go (K : KE) (l : Launch) (a : Nat → Nat) (WC : va_W) {p : Program} {e : Env} {s : State} {m : MethodId} {args : Array Value} {below : List Frame} {meth : Method} {c : Code} (X : CX p s m args c K.1 vwCl (kT K) (va_A WC s.heap.size) cX9_sites 1 wsX9_sites RX9) (hr : meth.sig.returnType = (some .int)) (hlk : meth.locks = false) (V0 : CM) (res : Int) (hf : X9_sites V0 = some res) : GO p l e rmX9_sites s m args below meth c K.1 vwCl (va_A WC s.heap.size) (MQ below (QC K.1 vwCl (some (ii res)) WC (c9 K a V0) s.heap.size) args s 0 0 (va_A WC s.heap.size)) 1 0 0 0 [(0, .ref (a 0))] [] (c9 K a V0) := by
  rw [X9_sites] at hf
  refine g_aload_n X dX9_sites_0 0 rfl rfl ?_
  refine g_get X (v := .ref (ash a 2 0)) 0 0 dX9_sites_1 rfl rfl iw_X9_sites_X9 (by decide) fl_X9_sites_10 rfl ?_
  refine g_get X (v := .ref (ash (ash a 2) 18 0)) 2 7 dX9_sites_4 rfl rfl iw_X9_sites_X8 (by decide) fl_X9_sites_148 rfl ?_
  obtain ⟨v1, hc2, hf⟩ := Option.bind_eq_some_iff.mp hf
  refine g_callV X (As := []) (st := []) (st1 := [ii v1]) (ws' := c9 K a V0) (X6_countSites_ok K l (ash (ash a 2) 18) V0.1.2.2.2.2.2.2.2.1 v1 hc2) gX9_sites_X6_countSites rfl 0 (by decide +kernel) ⟨rfl, rfl⟩ ⟨Nat.le_of_ble_eq_true rfl, Nat.le_of_ble_eq_true rfl⟩ ⟨Nat.zero_le _, Nat.zero_le _⟩ 20 rfl rfl rfl rfl (Nat.le_of_ble_eq_true rfl) dX9_sites_7 (SG.one ([(a 0, .inr (9, [.ref (ash a 2 0), .ref (ash a 43 0), .ref (ash a 25 0), .ref (ash a 27 0), .ref (ash a 31 0), .ref (ash a 34 0), .ref (ash a 36 0), .ref (a 1)]))] ++ ([(a 1, .inl (K.2.1, 4, .inl (arI V0.2.2.2.2.2.2.2)))] ++ ([(ash a 2 0, .inr (8, [.ref (ash (ash a 2) 1 0), .ref (ash (ash a 2) 5 0), .ref (ash (ash a 2) 9 0), ii V0.1.2.2.2.1, .ref (ash a 2 13), ii V0.1.2.2.2.2.2.1, .ref (ash (ash a 2) 14 0), .ref (ash (ash a 2) 18 0), .ref (ash a 2 22)]))] ++ (c1 K 6 (ash (ash a 2) 1) V0.1.1 ++ (c1 K 6 (ash (ash a 2) 5) V0.1.2.1 ++ (c1 K 4 (ash (ash a 2) 9) V0.1.2.2.1 ++ ([(ash a 2 13, .inl (K.2.1, 6, .inl (arI V0.1.2.2.2.2.1)))] ++ (c4 K (ash (ash a 2) 14) V0.1.2.2.2.2.2.2.1)))))))) ([(ash a 2 22, .inl (K.2.1, 8, .inl (arI V0.1.2.2.2.2.2.2.2.2)))] ++ (c3 K (ash a 25) V0.2.2.1 ++ (c6 K (ash a 27) V0.2.2.2.1 ++ (c7 K (ash a 31) V0.2.2.2.2.1 ++ (c0 K (ash a 34) V0.2.2.2.2.2.1 ++ (c5 K (ash a 36) V0.2.2.2.2.2.2.1 ++ (c2 K (ash a 43) V0.2.1))))))) rfl rfl rfl) rfl ?_
  cases hf
  exact g_iret X hr hlk dX9_sites_10
set_option maxHeartbeats 4000000 in
set_option maxRecDepth 100000 in
theorem X9_sites_ok (K : KE) (l : Launch) (a : Nat → Nat) (V0 : CM) (res : Int) (hf : X9_sites V0 = some res) : CT l K.1 vwCl (kT K) yX9_sites wsX9_sites rmX9_sites [.ref (a 0)] (some (ii res)) (c9 K a V0) (c9 K a V0) :=
  CT.mk (cc := cX9_sites) (maxL := 1) (ret := (some .int)) (by decide) rfl (Nat.le_of_ble_eq_true rfl) (fun p e s m below meth c X hr hlk => X9_sites_go K l a _ X hr hlk V0 res hf)
theorem iw_X9_nodes_X9 : ∀ w ∈ u_ws RX9 TX9 8, w ∈ wsX9_nodes := by decide +kernel
theorem fl_X9_nodes_10 : Cond.fieldLink RX9 10 (TX9 0).1 (TX9 0).2.1 (TX9 0).2.2.1 ∈ wsX9_nodes := by decide +kernel
theorem iw_X9_nodes_X8 : ∀ w ∈ u_ws RX8 TX8 9, w ∈ wsX9_nodes := by decide +kernel
theorem fl_X9_nodes_148 : Cond.fieldLink RX9 148 (TX8 7).1 (TX8 7).2.1 (TX8 7).2.2.1 ∈ wsX9_nodes := by decide +kernel
theorem iw_X9_nodes_X6 : ∀ w ∈ u_ws RX6 TX6 4, w ∈ wsX9_nodes := by decide +kernel
theorem fl_X9_nodes_155 : Cond.fieldLink RX9 155 (TX6 0).1 (TX6 0).2.1 (TX6 0).2.2.1 ∈ wsX9_nodes := by decide +kernel
def rmX9_nodes : Room := { frames := 0, cells := 0, slots := 0, locals := 0 }
def X9_nodes (V0 : CM) : Option (Int) := some V0.1.2.2.2.2.2.2.2.1.1
set_option maxHeartbeats 4000000 in
set_option maxRecDepth 100000 in
theorem X9_nodes_go (K : KE) (l : Launch) (a : Nat → Nat) (WC : va_W) {p : Program} {e : Env} {s : State} {m : MethodId} {args : Array Value} {below : List Frame} {meth : Method} {c : Code} (X : CX p s m args c K.1 vwCl (kT K) (va_A WC s.heap.size) cX9_nodes 1 wsX9_nodes RX9) (hr : meth.sig.returnType = (some .int)) (hlk : meth.locks = false) (V0 : CM) (res : Int) (hf : X9_nodes V0 = some res) : GO p l e rmX9_nodes s m args below meth c K.1 vwCl (va_A WC s.heap.size) (MQ below (QC K.1 vwCl (some (ii res)) WC (c9 K a V0) s.heap.size) args s 0 0 (va_A WC s.heap.size)) 1 0 0 0 [(0, .ref (a 0))] [] (c9 K a V0) := by
  rw [X9_nodes] at hf
  refine g_aload_n X dX9_nodes_0 0 rfl rfl ?_
  refine g_get X (v := .ref (ash a 2 0)) 0 0 dX9_nodes_1 rfl rfl iw_X9_nodes_X9 (by decide) fl_X9_nodes_10 rfl ?_
  refine g_get X (v := .ref (ash (ash a 2) 18 0)) 2 7 dX9_nodes_4 rfl rfl iw_X9_nodes_X8 (by decide) fl_X9_nodes_148 rfl ?_
  refine g_get X (v := ii V0.1.2.2.2.2.2.2.2.1.1) 20 0 dX9_nodes_7 rfl rfl iw_X9_nodes_X6 (by decide) fl_X9_nodes_155 rfl ?_
  cases hf
  exact g_iret X hr hlk dX9_nodes_10
set_option maxHeartbeats 4000000 in
set_option maxRecDepth 100000 in
theorem X9_nodes_ok (K : KE) (l : Launch) (a : Nat → Nat) (V0 : CM) (res : Int) (hf : X9_nodes V0 = some res) : CT l K.1 vwCl (kT K) yX9_nodes wsX9_nodes rmX9_nodes [.ref (a 0)] (some (ii res)) (c9 K a V0) (c9 K a V0) :=
  CT.mk (cc := cX9_nodes) (maxL := 1) (ret := (some .int)) (by decide) rfl (Nat.le_of_ble_eq_true rfl) (fun p e s m below meth c X hr hlk => X9_nodes_go K l a _ X hr hlk V0 res hf)
theorem iw_X9_value_X9 : ∀ w ∈ u_ws RX9 TX9 8, w ∈ wsX9_value := by decide +kernel
theorem fl_X9_value_47 : Cond.fieldLink RX9 47 (TX9 5).1 (TX9 5).2.1 (TX9 5).2.2.1 ∈ wsX9_value := by decide +kernel
theorem fl_X9_value_10 : Cond.fieldLink RX9 10 (TX9 0).1 (TX9 0).2.1 (TX9 0).2.2.1 ∈ wsX9_value := by decide +kernel
def rmX9_value : Room := { frames := 4, cells := 0, slots := 0, locals := 96 }
def X9_value (V0 : CM) (p1 : Int) (p2 : Int) : Option (Int × CM) := (X9_within p1 0 999).bind (fun v1 => brEQ v1 0 ((X9_refuse V0 (-2)).bind (fun w3 => some (w3.1, w3.2))) ((X9_within p2 0 999).bind (fun v5 => brEQ v5 0 ((X9_refuse V0 (-2)).bind (fun w7 => some (w7.1, w7.2))) ((X0_evaluate V0.1 V0.2.2.2.2.2.1 p1 p2).bind (fun w9 => some (w9.1, (V0.1, V0.2.1, V0.2.2.1, V0.2.2.2.1, V0.2.2.2.2.1, w9.2, V0.2.2.2.2.2.2.1, V0.2.2.2.2.2.2.2)))))))
set_option maxHeartbeats 4000000 in
set_option maxRecDepth 100000 in
theorem X9_value_go (K : KE) (l : Launch) (a : Nat → Nat) (WC : va_W) {p : Program} {e : Env} {s : State} {m : MethodId} {args : Array Value} {below : List Frame} {meth : Method} {c : Code} (X : CX p s m args c K.1 vwCl (kT K) (va_A WC s.heap.size) cX9_value 3 wsX9_value RX9) (hr : meth.sig.returnType = (some .int)) (hlk : meth.locks = false) (V0 : CM) (p1 : Int) (p2 : Int) (res : Int × CM) (hf : X9_value V0 p1 p2 = some res) : GO p l e rmX9_value s m args below meth c K.1 vwCl (va_A WC s.heap.size) (MQ below (QC K.1 vwCl (some (ii res.1)) WC (c9 K a res.2) s.heap.size) args s 0 0 (va_A WC s.heap.size)) 3 0 0 0 [(0, .ref (a 0)), (1, ii p1), (2, ii p2)] [] (c9 K a V0) := by
  rw [X9_value] at hf
  refine g_iload_n X dX9_value_0 1 rfl rfl ?_
  refine g_iconst X dX9_value_1 ?_
  refine g_sipush X dX9_value_2 (by decide +kernel) ?_
  obtain ⟨v1, hc2, hf⟩ := Option.bind_eq_some_iff.mp hf
  refine g_callS X (As := [ii p1, ii 0, ii 999]) (st := []) (st1 := [ii v1]) (ws' := c9 K a V0) (X9_within_ok K l p1 0 999 v1 hc2) gX9_value_X9_within rfl 3 (by decide +kernel) ⟨rfl, rfl⟩ ⟨Nat.le_of_ble_eq_true rfl, Nat.le_of_ble_eq_true rfl⟩ ⟨Nat.zero_le _, Nat.zero_le _⟩ rfl rfl (Nat.le_of_ble_eq_true rfl) dX9_value_5 SG.none rfl ?_
  refine g_if_eq X hf 22 dX9_value_8 (by decide) (fun hf => ?_) (fun hf => ?_)
  · refine g_aload_n X dX9_value_22 0 rfl rfl ?_
    refine g_bipush X dX9_value_23 (by decide +kernel) ?_
    obtain ⟨w3, hc4, hf⟩ := Option.bind_eq_some_iff.mp hf
    refine g_callV X (As := [ii (-2)]) (st := []) (st1 := [ii w3.1]) (ws' := c9 K a w3.2) (X9_refuse_ok K l a V0 (-2) w3 hc4) gX9_value_X9_refuse rfl 1 (by decide +kernel) ⟨rfl, rfl⟩ ⟨Nat.le_of_ble_eq_true rfl, Nat.le_of_ble_eq_true rfl⟩ ⟨Nat.zero_le _, Nat.zero_le _⟩ 0 rfl rfl rfl rfl (Nat.le_of_ble_eq_true rfl) dX9_value_25 (SG.all rfl) rfl ?_
    cases hf
    exact g_iret X hr hlk dX9_value_28
  · refine g_iload_n X dX9_value_11 2 rfl rfl ?_
    refine g_iconst X dX9_value_12 ?_
    refine g_sipush X dX9_value_13 (by decide +kernel) ?_
    obtain ⟨v5, hc6, hf⟩ := Option.bind_eq_some_iff.mp hf
    refine g_callS X (As := [ii p2, ii 0, ii 999]) (st := []) (st1 := [ii v5]) (ws' := c9 K a V0) (X9_within_ok K l p2 0 999 v5 hc6) gX9_value_X9_within rfl 3 (by decide +kernel) ⟨rfl, rfl⟩ ⟨Nat.le_of_ble_eq_true rfl, Nat.le_of_ble_eq_true rfl⟩ ⟨Nat.zero_le _, Nat.zero_le _⟩ rfl rfl (Nat.le_of_ble_eq_true rfl) dX9_value_16 SG.none rfl ?_
    refine g_if_ne X hf 29 dX9_value_19 (by decide) (fun hf => ?_) (fun hf => ?_)
    · refine g_aload_n X dX9_value_22 0 rfl rfl ?_
      refine g_bipush X dX9_value_23 (by decide +kernel) ?_
      obtain ⟨w7, hc8, hf⟩ := Option.bind_eq_some_iff.mp hf
      refine g_callV X (As := [ii (-2)]) (st := []) (st1 := [ii w7.1]) (ws' := c9 K a w7.2) (X9_refuse_ok K l a V0 (-2) w7 hc8) gX9_value_X9_refuse rfl 1 (by decide +kernel) ⟨rfl, rfl⟩ ⟨Nat.le_of_ble_eq_true rfl, Nat.le_of_ble_eq_true rfl⟩ ⟨Nat.zero_le _, Nat.zero_le _⟩ 0 rfl rfl rfl rfl (Nat.le_of_ble_eq_true rfl) dX9_value_25 (SG.all rfl) rfl ?_
      cases hf
      exact g_iret X hr hlk dX9_value_28
    · refine g_aload_n X dX9_value_29 0 rfl rfl ?_
      refine g_get X (v := .ref (ash a 34 0)) 0 5 dX9_value_30 rfl rfl iw_X9_value_X9 (by decide) fl_X9_value_47 rfl ?_
      refine g_aload_n X dX9_value_33 0 rfl rfl ?_
      refine g_get X (v := .ref (ash a 2 0)) 0 0 dX9_value_34 rfl rfl iw_X9_value_X9 (by decide) fl_X9_value_10 rfl ?_
      refine g_iload_n X dX9_value_37 1 rfl rfl ?_
      refine g_iload_n X dX9_value_38 2 rfl rfl ?_
      obtain ⟨w9, hc10, hf⟩ := Option.bind_eq_some_iff.mp hf
      refine g_callV X (As := [.ref (ash a 2 0), ii p1, ii p2]) (st := []) (st1 := [ii w9.1]) (ws' := c9 K a (V0.1, V0.2.1, V0.2.2.1, V0.2.2.2.1, V0.2.2.2.2.1, w9.2, V0.2.2.2.2.2.2.1, V0.2.2.2.2.2.2.2)) (X0_evaluate_ok K l (ash a 2) (ash a 34) V0.1 V0.2.2.2.2.2.1 p1 p2 w9 hc10) gX9_value_X0_evaluate rfl 3 (by decide +kernel) ⟨rfl, rfl⟩ ⟨Nat.le_of_ble_eq_true rfl, Nat.le_of_ble_eq_true rfl⟩ ⟨Nat.zero_le _, Nat.zero_le _⟩ 34 rfl rfl rfl rfl (Nat.le_of_ble_eq_true rfl) dX9_value_39 (SG.two ([(a 0, .inr (9, [.ref (ash a 2 0), .ref (ash a 43 0), .ref (ash a 25 0), .ref (ash a 27 0), .ref (ash a 31 0), .ref (ash a 34 0), .ref (ash a 36 0), .ref (a 1)]))] ++ ([(a 1, .inl (K.2.1, 4, .inl (arI V0.2.2.2.2.2.2.2)))])) (c3 K (ash a 25) V0.2.2.1 ++ (c6 K (ash a 27) V0.2.2.2.1 ++ (c7 K (ash a 31) V0.2.2.2.2.1))) (c5 K (ash a 36) V0.2.2.2.2.2.2.1 ++ (c2 K (ash a 43) V0.2.1)) rfl rfl rfl) rfl ?_
      cases hf
      exact g_iret X hr hlk dX9_value_42
set_option maxHeartbeats 4000000 in
set_option maxRecDepth 100000 in
theorem X9_value_ok (K : KE) (l : Launch) (a : Nat → Nat) (V0 : CM) (p1 : Int) (p2 : Int) (res : Int × CM) (hf : X9_value V0 p1 p2 = some res) : CT l K.1 vwCl (kT K) yX9_value wsX9_value rmX9_value [.ref (a 0), ii p1, ii p2] (some (ii res.1)) (c9 K a V0) (c9 K a res.2) :=
  CT.mk (cc := cX9_value) (maxL := 3) (ret := (some .int)) (by decide) rfl (Nat.le_of_ble_eq_true rfl) (fun p e s m below meth c X hr hlk => X9_value_go K l a _ X hr hlk V0 p1 p2 res hf)
theorem iw_X9_textByte_X9 : ∀ w ∈ u_ws RX9 TX9 8, w ∈ wsX9_textByte := by decide +kernel
theorem fl_X9_textByte_40 : Cond.fieldLink RX9 40 (TX9 4).1 (TX9 4).2.1 (TX9 4).2.2.1 ∈ wsX9_textByte := by decide +kernel
theorem fl_X9_textByte_10 : Cond.fieldLink RX9 10 (TX9 0).1 (TX9 0).2.1 (TX9 0).2.2.1 ∈ wsX9_textByte := by decide +kernel
theorem iw_X9_textByte_X8 : ∀ w ∈ u_ws RX8 TX8 9, w ∈ wsX9_textByte := by decide +kernel
theorem fl_X9_textByte_148 : Cond.fieldLink RX9 148 (TX8 7).1 (TX8 7).2.1 (TX8 7).2.2.1 ∈ wsX9_textByte := by decide +kernel
theorem iw_X9_textByte_X7 : ∀ w ∈ u_ws RX7 TX7 4, w ∈ wsX9_textByte := by decide +kernel
theorem fl_X9_textByte_181 : Cond.fieldLink RX9 181 (TX7 1).1 (TX7 1).2.1 (TX7 1).2.2.1 ∈ wsX9_textByte := by decide +kernel
theorem fl_X9_textByte_182 : Cond.fieldLink RX9 182 (TX7 0).1 (TX7 0).2.1 (TX7 0).2.2.1 ∈ wsX9_textByte := by decide +kernel
def rmX9_textByte : Room := { frames := 4, cells := 0, slots := 0, locals := 86 }
def X9_textByte (V0 : CM) (p1 : Int) : Option (Int × CM) := brLT p1 (-1) ((X9_refuse V0 (-2)).bind (fun w1 => some (w1.1, w1.2))) ((X7_write V0.1.2.2.2.2.2.2.2.1 V0.2.2.2.2.1).bind (fun v3 => brEQ p1 (-1) (some (v3.2.1, (V0.1, V0.2.1, V0.2.2.1, V0.2.2.2.1, v3, V0.2.2.2.2.2.1, V0.2.2.2.2.2.2.1, V0.2.2.2.2.2.2.2))) (brLT p1 v3.2.1 (rdK 120 v3.1 p1 (fun v5 => some (v5, (V0.1, V0.2.1, V0.2.2.1, V0.2.2.2.1, v3, V0.2.2.2.2.2.1, V0.2.2.2.2.2.2.1, V0.2.2.2.2.2.2.2)))) (some ((-1), (V0.1, V0.2.1, V0.2.2.1, V0.2.2.2.1, v3, V0.2.2.2.2.2.1, V0.2.2.2.2.2.2.1, V0.2.2.2.2.2.2.2))))))
set_option maxHeartbeats 4000000 in
set_option maxRecDepth 100000 in
theorem X9_textByte_go (K : KE) (l : Launch) (a : Nat → Nat) (WC : va_W) {p : Program} {e : Env} {s : State} {m : MethodId} {args : Array Value} {below : List Frame} {meth : Method} {c : Code} (X : CX p s m args c K.1 vwCl (kT K) (va_A WC s.heap.size) cX9_textByte 2 wsX9_textByte RX9) (hr : meth.sig.returnType = (some .int)) (hlk : meth.locks = false) (V0 : CM) (p1 : Int) (res : Int × CM) (hf : X9_textByte V0 p1 = some res) : GO p l e rmX9_textByte s m args below meth c K.1 vwCl (va_A WC s.heap.size) (MQ below (QC K.1 vwCl (some (ii res.1)) WC (c9 K a res.2) s.heap.size) args s 0 0 (va_A WC s.heap.size)) 2 0 0 0 [(0, .ref (a 0)), (1, ii p1)] [] (c9 K a V0) := by
  rw [X9_textByte] at hf
  refine g_iload_n X dX9_textByte_0 1 rfl rfl ?_
  refine g_iconst X dX9_textByte_1 ?_
  refine g_icmp_ge X hf 12 dX9_textByte_2 (by decide) (fun hf => ?_) (fun hf => ?_)
  · refine g_aload_n X dX9_textByte_5 0 rfl rfl ?_
    refine g_bipush X dX9_textByte_6 (by decide +kernel) ?_
    obtain ⟨w1, hc2, hf⟩ := Option.bind_eq_some_iff.mp hf
    refine g_callV X (As := [ii (-2)]) (st := []) (st1 := [ii w1.1]) (ws' := c9 K a w1.2) (X9_refuse_ok K l a V0 (-2) w1 hc2) gX9_textByte_X9_refuse rfl 1 (by decide +kernel) ⟨rfl, rfl⟩ ⟨Nat.le_of_ble_eq_true rfl, Nat.le_of_ble_eq_true rfl⟩ ⟨Nat.zero_le _, Nat.zero_le _⟩ 0 rfl rfl rfl rfl (Nat.le_of_ble_eq_true rfl) dX9_textByte_8 (SG.all rfl) rfl ?_
    cases hf
    exact g_iret X hr hlk dX9_textByte_11
  · refine g_aload_n X dX9_textByte_12 0 rfl rfl ?_
    refine g_get X (v := .ref (ash a 31 0)) 0 4 dX9_textByte_13 rfl rfl iw_X9_textByte_X9 (by decide) fl_X9_textByte_40 rfl ?_
    refine g_aload_n X dX9_textByte_16 0 rfl rfl ?_
    refine g_get X (v := .ref (ash a 2 0)) 0 0 dX9_textByte_17 rfl rfl iw_X9_textByte_X9 (by decide) fl_X9_textByte_10 rfl ?_
    refine g_get X (v := .ref (ash (ash a 2) 18 0)) 2 7 dX9_textByte_20 rfl rfl iw_X9_textByte_X8 (by decide) fl_X9_textByte_148 rfl ?_
    obtain ⟨v3, hc4, hf⟩ := Option.bind_eq_some_iff.mp hf
    refine g_callV X (As := [.ref (ash (ash a 2) 18 0)]) (st := []) (st1 := []) (ws' := c9 K a (V0.1, V0.2.1, V0.2.2.1, V0.2.2.2.1, v3, V0.2.2.2.2.2.1, V0.2.2.2.2.2.2.1, V0.2.2.2.2.2.2.2)) (X7_write_ok K l (ash (ash a 2) 18) (ash a 31) V0.1.2.2.2.2.2.2.2.1 V0.2.2.2.2.1 v3 hc4) gX9_textByte_X7_write rfl 1 (by decide +kernel) ⟨rfl, rfl⟩ ⟨Nat.le_of_ble_eq_true rfl, Nat.le_of_ble_eq_true rfl⟩ ⟨Nat.zero_le _, Nat.zero_le _⟩ 31 rfl rfl rfl rfl (Nat.le_of_ble_eq_true rfl) dX9_textByte_23 (SG.two ([(a 0, .inr (9, [.ref (ash a 2 0), .ref (ash a 43 0), .ref (ash a 25 0), .ref (ash a 27 0), .ref (ash a 31 0), .ref (ash a 34 0), .ref (ash a 36 0), .ref (a 1)]))] ++ ([(a 1, .inl (K.2.1, 4, .inl (arI V0.2.2.2.2.2.2.2)))] ++ ([(ash a 2 0, .inr (8, [.ref (ash (ash a 2) 1 0), .ref (ash (ash a 2) 5 0), .ref (ash (ash a 2) 9 0), ii V0.1.2.2.2.1, .ref (ash a 2 13), ii V0.1.2.2.2.2.2.1, .ref (ash (ash a 2) 14 0), .ref (ash (ash a 2) 18 0), .ref (ash a 2 22)]))] ++ (c1 K 6 (ash (ash a 2) 1) V0.1.1 ++ (c1 K 6 (ash (ash a 2) 5) V0.1.2.1 ++ (c1 K 4 (ash (ash a 2) 9) V0.1.2.2.1 ++ ([(ash a 2 13, .inl (K.2.1, 6, .inl (arI V0.1.2.2.2.2.1)))] ++ (c4 K (ash (ash a 2) 14) V0.1.2.2.2.2.2.2.1)))))))) ([(ash a 2 22, .inl (K.2.1, 8, .inl (arI V0.1.2.2.2.2.2.2.2.2)))] ++ (c3 K (ash a 25) V0.2.2.1 ++ (c6 K (ash a 27) V0.2.2.2.1))) (c0 K (ash a 34) V0.2.2.2.2.2.1 ++ (c5 K (ash a 36) V0.2.2.2.2.2.2.1 ++ (c2 K (ash a 43) V0.2.1))) rfl rfl rfl) rfl ?_
    refine g_iload_n X dX9_textByte_26 1 rfl rfl ?_
    refine g_iconst X dX9_textByte_27 ?_
    refine g_icmp_ne X hf 39 dX9_textByte_28 (by decide) (fun hf => ?_) (fun hf => ?_)
    · refine g_aload_n X dX9_textByte_31 0 rfl rfl ?_
      refine g_get X (v := .ref (ash a 31 0)) 0 4 dX9_textByte_32 rfl rfl iw_X9_textByte_X9 (by decide) fl_X9_textByte_40 rfl ?_
      refine g_get X (v := ii v3.2.1) 31 1 dX9_textByte_35 rfl rfl iw_X9_textByte_X7 (by decide) fl_X9_textByte_181 rfl ?_
      cases hf
      exact g_iret X hr hlk dX9_textByte_38
    · refine g_iload_n X dX9_textByte_39 1 rfl rfl ?_
      refine g_aload_n X dX9_textByte_40 0 rfl rfl ?_
      refine g_get X (v := .ref (ash a 31 0)) 0 4 dX9_textByte_41 rfl rfl iw_X9_textByte_X9 (by decide) fl_X9_textByte_40 rfl ?_
      refine g_get X (v := ii v3.2.1) 31 1 dX9_textByte_44 rfl rfl iw_X9_textByte_X7 (by decide) fl_X9_textByte_181 rfl ?_
      refine g_icmp_ge X hf 62 dX9_textByte_47 (by decide) (fun hf => ?_) (fun hf => ?_)
      · refine g_aload_n X dX9_textByte_50 0 rfl rfl ?_
        refine g_get X (v := .ref (ash a 31 0)) 0 4 dX9_textByte_51 rfl rfl iw_X9_textByte_X9 (by decide) fl_X9_textByte_40 rfl ?_
        refine g_get X (v := .ref (ash a 31 1)) 31 0 dX9_textByte_54 rfl rfl iw_X9_textByte_X7 (by decide) fl_X9_textByte_182 rfl ?_
        refine g_iload_n X dX9_textByte_57 1 rfl rfl ?_
        refine g_iald X hf (by decide) 32 0 dX9_textByte_58 rfl rfl (fun v5 hf => ?_)
        refine g_goto X 63 dX9_textByte_59 (by decide) ?_
        cases hf
        exact g_iret X hr hlk dX9_textByte_63
      · refine g_iconst X dX9_textByte_62 ?_
        cases hf
        exact g_iret X hr hlk dX9_textByte_63
set_option maxHeartbeats 4000000 in
set_option maxRecDepth 100000 in
theorem X9_textByte_ok (K : KE) (l : Launch) (a : Nat → Nat) (V0 : CM) (p1 : Int) (res : Int × CM) (hf : X9_textByte V0 p1 = some res) : CT l K.1 vwCl (kT K) yX9_textByte wsX9_textByte rmX9_textByte [.ref (a 0), ii p1] (some (ii res.1)) (c9 K a V0) (c9 K a res.2) :=
  CT.mk (cc := cX9_textByte) (maxL := 2) (ret := (some .int)) (by decide) rfl (Nat.le_of_ble_eq_true rfl) (fun p e s m below meth c X hr hlk => X9_textByte_go K l a _ X hr hlk V0 p1 res hf)
theorem iw_X9_undo_X9 : ∀ w ∈ u_ws RX9 TX9 8, w ∈ wsX9_undo := by decide +kernel
theorem fl_X9_undo_19 : Cond.fieldLink RX9 19 (TX9 1).1 (TX9 1).2.1 (TX9 1).2.2.1 ∈ wsX9_undo := by decide +kernel
theorem fl_X9_undo_10 : Cond.fieldLink RX9 10 (TX9 0).1 (TX9 0).2.1 (TX9 0).2.2.1 ∈ wsX9_undo := by decide +kernel
theorem iw_X9_undo_X2 : ∀ w ∈ u_ws RX2 TX2 2, w ∈ wsX9_undo := by decide +kernel
theorem fl_X9_undo_189 : Cond.fieldLink RX9 189 (TX2 1).1 (TX2 1).2.1 (TX2 1).2.2.1 ∈ wsX9_undo := by decide +kernel
def rmX9_undo : Room := { frames := 6, cells := 0, slots := 0, locals := 141 }
def X9_undo (V0 : CM) : Option (Int × CM) := (X2_restore V0.1 V0.2.1).bind (fun w1 => brEQ w1.1 0 ((X9_refuse (w1.2.1, w1.2.2, V0.2.2.1, V0.2.2.2.1, V0.2.2.2.2.1, V0.2.2.2.2.2.1, V0.2.2.2.2.2.2.1, V0.2.2.2.2.2.2.2) (-5)).bind (fun w3 => some (w3.1, w3.2))) (some (w1.2.2.2.1, (w1.2.1, w1.2.2, V0.2.2.1, V0.2.2.2.1, V0.2.2.2.2.1, V0.2.2.2.2.2.1, V0.2.2.2.2.2.2.1, V0.2.2.2.2.2.2.2))))
set_option maxHeartbeats 4000000 in
set_option maxRecDepth 100000 in
theorem X9_undo_go (K : KE) (l : Launch) (a : Nat → Nat) (WC : va_W) {p : Program} {e : Env} {s : State} {m : MethodId} {args : Array Value} {below : List Frame} {meth : Method} {c : Code} (X : CX p s m args c K.1 vwCl (kT K) (va_A WC s.heap.size) cX9_undo 1 wsX9_undo RX9) (hr : meth.sig.returnType = (some .int)) (hlk : meth.locks = false) (V0 : CM) (res : Int × CM) (hf : X9_undo V0 = some res) : GO p l e rmX9_undo s m args below meth c K.1 vwCl (va_A WC s.heap.size) (MQ below (QC K.1 vwCl (some (ii res.1)) WC (c9 K a res.2) s.heap.size) args s 0 0 (va_A WC s.heap.size)) 1 0 0 0 [(0, .ref (a 0))] [] (c9 K a V0) := by
  rw [X9_undo] at hf
  refine g_aload_n X dX9_undo_0 0 rfl rfl ?_
  refine g_get X (v := .ref (ash a 43 0)) 0 1 dX9_undo_1 rfl rfl iw_X9_undo_X9 (by decide) fl_X9_undo_19 rfl ?_
  refine g_aload_n X dX9_undo_4 0 rfl rfl ?_
  refine g_get X (v := .ref (ash a 2 0)) 0 0 dX9_undo_5 rfl rfl iw_X9_undo_X9 (by decide) fl_X9_undo_10 rfl ?_
  obtain ⟨w1, hc2, hf⟩ := Option.bind_eq_some_iff.mp hf
  refine g_callV X (As := [.ref (ash a 2 0)]) (st := []) (st1 := [ii w1.1]) (ws' := c9 K a (w1.2.1, w1.2.2, V0.2.2.1, V0.2.2.2.1, V0.2.2.2.2.1, V0.2.2.2.2.2.1, V0.2.2.2.2.2.2.1, V0.2.2.2.2.2.2.2)) (X2_restore_ok K l (ash a 2) (ash a 43) V0.1 V0.2.1 w1 hc2) gX9_undo_X2_restore rfl 1 (by decide +kernel) ⟨rfl, rfl⟩ ⟨Nat.le_of_ble_eq_true rfl, Nat.le_of_ble_eq_true rfl⟩ ⟨Nat.zero_le _, Nat.zero_le _⟩ 43 rfl rfl rfl rfl (Nat.le_of_ble_eq_true rfl) dX9_undo_8 (SG.two ([(a 0, .inr (9, [.ref (ash a 2 0), .ref (ash a 43 0), .ref (ash a 25 0), .ref (ash a 27 0), .ref (ash a 31 0), .ref (ash a 34 0), .ref (ash a 36 0), .ref (a 1)]))] ++ ([(a 1, .inl (K.2.1, 4, .inl (arI V0.2.2.2.2.2.2.2)))])) (c3 K (ash a 25) V0.2.2.1 ++ (c6 K (ash a 27) V0.2.2.2.1 ++ (c7 K (ash a 31) V0.2.2.2.2.1 ++ (c0 K (ash a 34) V0.2.2.2.2.2.1 ++ (c5 K (ash a 36) V0.2.2.2.2.2.2.1))))) [] rfl rfl rfl) rfl ?_
  refine g_if_eq X hf 24 dX9_undo_11 (by decide) (fun hf => ?_) (fun hf => ?_)
  · refine g_aload_n X dX9_undo_24 0 rfl rfl ?_
    refine g_bipush X dX9_undo_25 (by decide +kernel) ?_
    obtain ⟨w3, hc4, hf⟩ := Option.bind_eq_some_iff.mp hf
    refine g_callV X (As := [ii (-5)]) (st := []) (st1 := [ii w3.1]) (ws' := c9 K a w3.2) (X9_refuse_ok K l a (w1.2.1, w1.2.2, V0.2.2.1, V0.2.2.2.1, V0.2.2.2.2.1, V0.2.2.2.2.2.1, V0.2.2.2.2.2.2.1, V0.2.2.2.2.2.2.2) (-5) w3 hc4) gX9_undo_X9_refuse rfl 1 (by decide +kernel) ⟨rfl, rfl⟩ ⟨Nat.le_of_ble_eq_true rfl, Nat.le_of_ble_eq_true rfl⟩ ⟨Nat.zero_le _, Nat.zero_le _⟩ 0 rfl rfl rfl rfl (Nat.le_of_ble_eq_true rfl) dX9_undo_27 (SG.all rfl) rfl ?_
    cases hf
    exact g_iret X hr hlk dX9_undo_30
  · refine g_aload_n X dX9_undo_14 0 rfl rfl ?_
    refine g_get X (v := .ref (ash a 43 0)) 0 1 dX9_undo_15 rfl rfl iw_X9_undo_X9 (by decide) fl_X9_undo_19 rfl ?_
    refine g_get X (v := ii w1.2.2.2.1) 43 1 dX9_undo_18 rfl rfl iw_X9_undo_X2 (by decide) fl_X9_undo_189 rfl ?_
    refine g_goto X 30 dX9_undo_21 (by decide) ?_
    cases hf
    exact g_iret X hr hlk dX9_undo_30
set_option maxHeartbeats 4000000 in
set_option maxRecDepth 100000 in
theorem X9_undo_ok (K : KE) (l : Launch) (a : Nat → Nat) (V0 : CM) (res : Int × CM) (hf : X9_undo V0 = some res) : CT l K.1 vwCl (kT K) yX9_undo wsX9_undo rmX9_undo [.ref (a 0)] (some (ii res.1)) (c9 K a V0) (c9 K a res.2) :=
  CT.mk (cc := cX9_undo) (maxL := 1) (ret := (some .int)) (by decide) rfl (Nat.le_of_ble_eq_true rfl) (fun p e s m below meth c X hr hlk => X9_undo_go K l a _ X hr hlk V0 res hf)
theorem iw_X9_errorCount_X9 : ∀ w ∈ u_ws RX9 TX9 8, w ∈ wsX9_errorCount := by decide +kernel
theorem fl_X9_errorCount_58 : Cond.fieldLink RX9 58 (TX9 7).1 (TX9 7).2.1 (TX9 7).2.2.1 ∈ wsX9_errorCount := by decide +kernel
def rmX9_errorCount : Room := { frames := 2, cells := 0, slots := 0, locals := 44 }
def X9_errorCount (V0 : CM) (p1 : Int) : Option (Int × CM) := (X9_within p1 (-5) (-2)).bind (fun v1 => brEQ v1 0 ((X9_refuse V0 (-2)).bind (fun w3 => some (w3.1, w3.2))) (rdK 4 V0.2.2.2.2.2.2.2 ((-2) - p1) (fun v5 => some (v5, V0))))
set_option maxHeartbeats 4000000 in
set_option maxRecDepth 100000 in
theorem X9_errorCount_go (K : KE) (l : Launch) (a : Nat → Nat) (WC : va_W) {p : Program} {e : Env} {s : State} {m : MethodId} {args : Array Value} {below : List Frame} {meth : Method} {c : Code} (X : CX p s m args c K.1 vwCl (kT K) (va_A WC s.heap.size) cX9_errorCount 2 wsX9_errorCount RX9) (hr : meth.sig.returnType = (some .int)) (hlk : meth.locks = false) (V0 : CM) (p1 : Int) (res : Int × CM) (hf : X9_errorCount V0 p1 = some res) : GO p l e rmX9_errorCount s m args below meth c K.1 vwCl (va_A WC s.heap.size) (MQ below (QC K.1 vwCl (some (ii res.1)) WC (c9 K a res.2) s.heap.size) args s 0 0 (va_A WC s.heap.size)) 2 0 0 0 [(0, .ref (a 0)), (1, ii p1)] [] (c9 K a V0) := by
  rw [X9_errorCount] at hf
  refine g_iload_n X dX9_errorCount_0 1 rfl rfl ?_
  refine g_bipush X dX9_errorCount_1 (by decide +kernel) ?_
  refine g_bipush X dX9_errorCount_3 (by decide +kernel) ?_
  obtain ⟨v1, hc2, hf⟩ := Option.bind_eq_some_iff.mp hf
  refine g_callS X (As := [ii p1, ii (-5), ii (-2)]) (st := []) (st1 := [ii v1]) (ws' := c9 K a V0) (X9_within_ok K l p1 (-5) (-2) v1 hc2) gX9_errorCount_X9_within rfl 3 (by decide +kernel) ⟨rfl, rfl⟩ ⟨Nat.le_of_ble_eq_true rfl, Nat.le_of_ble_eq_true rfl⟩ ⟨Nat.zero_le _, Nat.zero_le _⟩ rfl rfl (Nat.le_of_ble_eq_true rfl) dX9_errorCount_5 SG.none rfl ?_
  refine g_if_ne X hf 18 dX9_errorCount_8 (by decide) (fun hf => ?_) (fun hf => ?_)
  · refine g_aload_n X dX9_errorCount_11 0 rfl rfl ?_
    refine g_bipush X dX9_errorCount_12 (by decide +kernel) ?_
    obtain ⟨w3, hc4, hf⟩ := Option.bind_eq_some_iff.mp hf
    refine g_callV X (As := [ii (-2)]) (st := []) (st1 := [ii w3.1]) (ws' := c9 K a w3.2) (X9_refuse_ok K l a V0 (-2) w3 hc4) gX9_errorCount_X9_refuse rfl 1 (by decide +kernel) ⟨rfl, rfl⟩ ⟨Nat.le_of_ble_eq_true rfl, Nat.le_of_ble_eq_true rfl⟩ ⟨Nat.zero_le _, Nat.zero_le _⟩ 0 rfl rfl rfl rfl (Nat.le_of_ble_eq_true rfl) dX9_errorCount_14 (SG.all rfl) rfl ?_
    cases hf
    exact g_iret X hr hlk dX9_errorCount_17
  · refine g_aload_n X dX9_errorCount_18 0 rfl rfl ?_
    refine g_get X (v := .ref (a 1)) 0 7 dX9_errorCount_19 rfl rfl iw_X9_errorCount_X9 (by decide) fl_X9_errorCount_58 rfl ?_
    refine g_bipush X dX9_errorCount_22 (by decide +kernel) ?_
    refine g_iload_n X dX9_errorCount_24 1 rfl rfl ?_
    refine g_isub X dX9_errorCount_25 ?_
    refine g_iald X hf (by decide) 1 0 dX9_errorCount_26 rfl rfl (fun v5 hf => ?_)
    cases hf
    exact g_iret X hr hlk dX9_errorCount_27
set_option maxHeartbeats 4000000 in
set_option maxRecDepth 100000 in
theorem X9_errorCount_ok (K : KE) (l : Launch) (a : Nat → Nat) (V0 : CM) (p1 : Int) (res : Int × CM) (hf : X9_errorCount V0 p1 = some res) : CT l K.1 vwCl (kT K) yX9_errorCount wsX9_errorCount rmX9_errorCount [.ref (a 0), ii p1] (some (ii res.1)) (c9 K a V0) (c9 K a res.2) :=
  CT.mk (cc := cX9_errorCount) (maxL := 2) (ret := (some .int)) (by decide) rfl (Nat.le_of_ble_eq_true rfl) (fun p e s m below meth c X hr hlk => X9_errorCount_go K l a _ X hr hlk V0 p1 res hf)
theorem iw_X9_mixFunctions_X1 : ∀ w ∈ u_ws RX1 TX1 4, w ∈ wsX9_mixFunctions := by decide +kernel
theorem fl_X9_mixFunctions_211 : Cond.fieldLink RX9 211 (TX1 0).1 (TX1 0).2.1 (TX1 0).2.2.1 ∈ wsX9_mixFunctions := by decide +kernel
def rmX9_mixFunctions : Room := { frames := 2, cells := 0, slots := 0, locals := 45 }
def X9_mixFunctions_L39 (kx : Int → Option (Int)) (cn0 : Nat) (V0 : FT) (x5 : Int) : Nat → Int → Int → Option (Int)
  | 0, _, _ => none
  | n + 1, y3, y6 => brLT y6 4 ((X1_term cn0 V0 x5 y6).bind (fun v9 => (X9_mix y3 v9).bind (fun v11 => X9_mixFunctions_L39 kx cn0 V0 x5 n v11 (y6 + 1)))) (kx y3)
def X9_mixFunctions_L5 (kx : Int → Option (Int)) (cn0 : Nat) (V0 : FT) : Nat → Int → Int → Option (Int)
  | 0, _, _ => none
  | n + 1, y3, y5 => brLT y5 (cn0 : Int) ((X1_arityOf cn0 V0 y5).bind (fun v1 => (X9_mix y3 v1).bind (fun v3 => (X1_effectOf cn0 V0 y5).bind (fun v5 => (X9_mix v3 v5).bind (fun v7 => X9_mixFunctions_L39 (fun w13 => X9_mixFunctions_L5 kx cn0 V0 n w13 (y5 + 1)) cn0 V0 y5 FU v7 (-1)))))) (kx y3)
def X9_mixFunctions (cn0 : Nat) (V0 : FT) (p0 : Int) : Option (Int) := X9_mixFunctions_L5 (fun w14 => some w14) cn0 V0 FU p0 0
set_option maxHeartbeats 4000000 in
set_option maxRecDepth 100000 in
theorem X9_mixFunctions_L39_ok (K : KE) (l : Launch) (cn0 : Nat) (hcn0 : cn0 ≤ 1000) (a : Nat → Nat) (WC : va_W) {p : Program} {e : Env} {s : State} {m : MethodId} {args : Array Value} {below : List Frame} {meth : Method} {c : Code} (X : CX p s m args c K.1 vwCl (kT K) (va_A WC s.heap.size) cX9_mixFunctions 7 wsX9_mixFunctions RX9) (hr : meth.sig.returnType = (some .long)) (hlk : meth.locks = false) (V0 : FT) (x5 : Int) (res : Int) {kx : Int → Option (Int)} : ∀ (n : Nat) (y3 : Int) (y6 : Int), X9_mixFunctions_L39 kx cn0 V0 x5 n y3 y6 = some res → (∀ (z3 : Int), kx z3 = some res → GO p l e rmX9_mixFunctions s m args below meth c K.1 vwCl (va_A WC s.heap.size) (MQ below (QC K.1 vwCl (some (ll res)) WC (c1 K cn0 a V0) s.heap.size) args s 0 0 (va_A WC s.heap.size)) 7 0 0 64 [(2, .ref (a 0)), (3, ll z3), (5, ii x5)] [] (c1 K cn0 a V0)) → GO p l e rmX9_mixFunctions s m args below meth c K.1 vwCl (va_A WC s.heap.size) (MQ below (QC K.1 vwCl (some (ll res)) WC (c1 K cn0 a V0) s.heap.size) args s 0 0 (va_A WC s.heap.size)) 7 0 0 39 [(2, .ref (a 0)), (3, ll y3), (5, ii x5), (6, ii y6)] [] (c1 K cn0 a V0) := by
  intro n
  induction n with
  | zero =>
    intro y3 y6 hf _
    rw [X9_mixFunctions_L39] at hf
    cases hf
  | succ n ih =>
    intro y3 y6 hf hk
    rw [X9_mixFunctions_L39] at hf
    refine g_iload X dX9_mixFunctions_39 3 rfl ?_
    refine g_iconst X dX9_mixFunctions_41 ?_
    refine g_icmp_ge X hf 64 dX9_mixFunctions_42 (by decide) (fun hf => ?_) (fun hf => ?_)
    · refine g_lload_n X dX9_mixFunctions_45 1 rfl rfl ?_
      refine g_aload_n X dX9_mixFunctions_46 0 rfl rfl ?_
      refine g_iload X dX9_mixFunctions_47 2 rfl ?_
      refine g_iload X dX9_mixFunctions_49 3 rfl ?_
      obtain ⟨v9, hc10, hf⟩ := Option.bind_eq_some_iff.mp hf
      refine g_callV X (As := [ii x5, ii y6]) (st := [ll y3]) (st1 := [ii v9, ll y3]) (ws' := c1 K cn0 a V0) (X1_term_ok K l cn0 hcn0 a V0 x5 y6 v9 hc10) gX9_mixFunctions_X1_term rfl 2 (by decide +kernel) ⟨rfl, rfl⟩ ⟨Nat.le_of_ble_eq_true rfl, Nat.le_of_ble_eq_true rfl⟩ ⟨Nat.zero_le _, Nat.zero_le _⟩ 0 rfl rfl rfl rfl (Nat.le_of_ble_eq_true rfl) dX9_mixFunctions_51 (SG.all rfl) rfl ?_
      obtain ⟨v11, hc12, hf⟩ := Option.bind_eq_some_iff.mp hf
      refine g_callS X (As := [ll y3, ii v9]) (st := []) (st1 := [ll v11]) (ws' := c1 K cn0 a V0) (X9_mix_ok K l y3 v9 v11 hc12) gX9_mixFunctions_X9_mix rfl 2 (by decide +kernel) ⟨rfl, rfl⟩ ⟨Nat.le_of_ble_eq_true rfl, Nat.le_of_ble_eq_true rfl⟩ ⟨Nat.zero_le _, Nat.zero_le _⟩ rfl rfl (Nat.le_of_ble_eq_true rfl) dX9_mixFunctions_54 SG.none rfl ?_
      refine g_lstore_n X (lv' := [(3, ll v11), (2, .ref (a 0)), (5, ii x5), (6, ii y6)]) dX9_mixFunctions_57 rfl (by decide) rfl ?_
      refine g_iinc X (lv' := [(6, ii (y6 + 1)), (3, ll v11), (2, .ref (a 0)), (5, ii x5)]) dX9_mixFunctions_58 3 rfl (by decide) rfl ?_
      refine g_goto X 39 dX9_mixFunctions_61 (by decide) ?_
      refine g_sub (lv' := [(2, .ref (a 0)), (3, ll v11), (5, ii x5), (6, ii (y6 + 1))]) [2, 1, 3, 0] rfl ?_
      exact ih v11 (y6 + 1) hf hk
    · refine g_sub (lv' := [(2, .ref (a 0)), (3, ll y3), (5, ii x5)]) [0, 1, 2] rfl ?_
      exact hk y3 hf
set_option maxHeartbeats 4000000 in
set_option maxRecDepth 100000 in
theorem X9_mixFunctions_L5_ok (K : KE) (l : Launch) (cn0 : Nat) (hcn0 : cn0 ≤ 1000) (a : Nat → Nat) (WC : va_W) {p : Program} {e : Env} {s : State} {m : MethodId} {args : Array Value} {below : List Frame} {meth : Method} {c : Code} (X : CX p s m args c K.1 vwCl (kT K) (va_A WC s.heap.size) cX9_mixFunctions 7 wsX9_mixFunctions RX9) (hr : meth.sig.returnType = (some .long)) (hlk : meth.locks = false) (V0 : FT)  (res : Int) {kx : Int → Option (Int)} : ∀ (n : Nat) (y3 : Int) (y5 : Int), X9_mixFunctions_L5 kx cn0 V0 n y3 y5 = some res → (∀ (z3 : Int), kx z3 = some res → GO p l e rmX9_mixFunctions s m args below meth c K.1 vwCl (va_A WC s.heap.size) (MQ below (QC K.1 vwCl (some (ll res)) WC (c1 K cn0 a V0) s.heap.size) args s 0 0 (va_A WC s.heap.size)) 7 0 0 70 [(3, ll z3)] [] (c1 K cn0 a V0)) → GO p l e rmX9_mixFunctions s m args below meth c K.1 vwCl (va_A WC s.heap.size) (MQ below (QC K.1 vwCl (some (ll res)) WC (c1 K cn0 a V0) s.heap.size) args s 0 0 (va_A WC s.heap.size)) 7 0 0 5 [(2, .ref (a 0)), (3, ll y3), (5, ii y5)] [] (c1 K cn0 a V0) := by
  intro n
  induction n with
  | zero =>
    intro y3 y5 hf _
    rw [X9_mixFunctions_L5] at hf
    cases hf
  | succ n ih =>
    intro y3 y5 hf hk
    rw [X9_mixFunctions_L5] at hf
    refine g_iload X dX9_mixFunctions_5 2 rfl ?_
    refine g_aload_n X dX9_mixFunctions_7 0 rfl rfl ?_
    refine g_get X (v := ii (cn0 : Int)) 0 0 dX9_mixFunctions_8 rfl rfl iw_X9_mixFunctions_X1 (by decide) fl_X9_mixFunctions_211 rfl ?_
    refine g_icmp_ge X hf 70 dX9_mixFunctions_11 (by decide) (fun hf => ?_) (fun hf => ?_)
    · refine g_lload_n X dX9_mixFunctions_14 1 rfl rfl ?_
      refine g_aload_n X dX9_mixFunctions_15 0 rfl rfl ?_
      refine g_iload X dX9_mixFunctions_16 2 rfl ?_
      obtain ⟨v1, hc2, hf⟩ := Option.bind_eq_some_iff.mp hf
      refine g_callV X (As := [ii y5]) (st := [ll y3]) (st1 := [ii v1, ll y3]) (ws' := c1 K cn0 a V0) (X1_arityOf_ok K l cn0 hcn0 a V0 y5 v1 hc2) gX9_mixFunctions_X1_arityOf rfl 1 (by decide +kernel) ⟨rfl, rfl⟩ ⟨Nat.le_of_ble_eq_true rfl, Nat.le_of_ble_eq_true rfl⟩ ⟨Nat.zero_le _, Nat.zero_le _⟩ 0 rfl rfl rfl rfl (Nat.le_of_ble_eq_true rfl) dX9_mixFunctions_18 (SG.all rfl) rfl ?_
      obtain ⟨v3, hc4, hf⟩ := Option.bind_eq_some_iff.mp hf
      refine g_callS X (As := [ll y3, ii v1]) (st := []) (st1 := [ll v3]) (ws' := c1 K cn0 a V0) (X9_mix_ok K l y3 v1 v3 hc4) gX9_mixFunctions_X9_mix rfl 2 (by decide +kernel) ⟨rfl, rfl⟩ ⟨Nat.le_of_ble_eq_true rfl, Nat.le_of_ble_eq_true rfl⟩ ⟨Nat.zero_le _, Nat.zero_le _⟩ rfl rfl (Nat.le_of_ble_eq_true rfl) dX9_mixFunctions_21 SG.none rfl ?_
      refine g_lstore_n X (lv' := [(3, ll v3), (2, .ref (a 0)), (5, ii y5)]) dX9_mixFunctions_24 rfl (by decide) rfl ?_
      refine g_lload_n X dX9_mixFunctions_25 0 rfl rfl ?_
      refine g_aload_n X dX9_mixFunctions_26 1 rfl rfl ?_
      refine g_iload X dX9_mixFunctions_27 2 rfl ?_
      obtain ⟨v5, hc6, hf⟩ := Option.bind_eq_some_iff.mp hf
      refine g_callV X (As := [ii y5]) (st := [ll v3]) (st1 := [ii v5, ll v3]) (ws' := c1 K cn0 a V0) (X1_effectOf_ok K l cn0 hcn0 a V0 y5 v5 hc6) gX9_mixFunctions_X1_effectOf rfl 1 (by decide +kernel) ⟨rfl, rfl⟩ ⟨Nat.le_of_ble_eq_true rfl, Nat.le_of_ble_eq_true rfl⟩ ⟨Nat.zero_le _, Nat.zero_le _⟩ 0 rfl rfl rfl rfl (Nat.le_of_ble_eq_true rfl) dX9_mixFunctions_29 (SG.all rfl) rfl ?_
      obtain ⟨v7, hc8, hf⟩ := Option.bind_eq_some_iff.mp hf
      refine g_callS X (As := [ll v3, ii v5]) (st := []) (st1 := [ll v7]) (ws' := c1 K cn0 a V0) (X9_mix_ok K l v3 v5 v7 hc8) gX9_mixFunctions_X9_mix rfl 2 (by decide +kernel) ⟨rfl, rfl⟩ ⟨Nat.le_of_ble_eq_true rfl, Nat.le_of_ble_eq_true rfl⟩ ⟨Nat.zero_le _, Nat.zero_le _⟩ rfl rfl (Nat.le_of_ble_eq_true rfl) dX9_mixFunctions_32 SG.none rfl ?_
      refine g_lstore_n X (lv' := [(3, ll v7), (2, .ref (a 0)), (5, ii y5)]) dX9_mixFunctions_35 rfl (by decide) rfl ?_
      refine g_iconst X dX9_mixFunctions_36 ?_
      refine g_istore X (lv' := [(6, ii (-1)), (3, ll v7), (2, .ref (a 0)), (5, ii y5)]) dX9_mixFunctions_37 (by decide) rfl ?_
      refine g_sub (lv' := [(2, .ref (a 0)), (3, ll v7), (5, ii y5), (6, ii (-1))]) [2, 1, 3, 0] rfl ?_
      refine X9_mixFunctions_L39_ok K l cn0 hcn0 a WC X hr hlk V0 y5 res FU v7 (-1) hf (fun w13 hf => ?_)
      refine g_iinc X (lv' := [(5, ii (y5 + 1)), (2, .ref (a 0)), (3, ll w13)]) dX9_mixFunctions_64 2 rfl (by decide) rfl ?_
      refine g_goto X 5 dX9_mixFunctions_67 (by decide) ?_
      refine g_sub (lv' := [(2, .ref (a 0)), (3, ll w13), (5, ii (y5 + 1))]) [1, 2, 0] rfl ?_
      exact ih w13 (y5 + 1) hf hk
    · refine g_sub (lv' := [(3, ll y3)]) [1] rfl ?_
      exact hk y3 hf
set_option maxHeartbeats 4000000 in
set_option maxRecDepth 100000 in
theorem X9_mixFunctions_go (K : KE) (l : Launch) (cn0 : Nat) (hcn0 : cn0 ≤ 1000) (a : Nat → Nat) (WC : va_W) {p : Program} {e : Env} {s : State} {m : MethodId} {args : Array Value} {below : List Frame} {meth : Method} {c : Code} (X : CX p s m args c K.1 vwCl (kT K) (va_A WC s.heap.size) cX9_mixFunctions 7 wsX9_mixFunctions RX9) (hr : meth.sig.returnType = (some .long)) (hlk : meth.locks = false) (V0 : FT) (p0 : Int) (res : Int) (hf : X9_mixFunctions cn0 V0 p0 = some res) : GO p l e rmX9_mixFunctions s m args below meth c K.1 vwCl (va_A WC s.heap.size) (MQ below (QC K.1 vwCl (some (ll res)) WC (c1 K cn0 a V0) s.heap.size) args s 0 0 (va_A WC s.heap.size)) 7 0 0 0 [(0, ll p0), (2, .ref (a 0))] [] (c1 K cn0 a V0) := by
  rw [X9_mixFunctions] at hf
  refine g_lload_n X dX9_mixFunctions_0 0 rfl rfl ?_
  refine g_lstore_n X (lv' := [(3, ll p0), (0, ll p0), (2, .ref (a 0))]) dX9_mixFunctions_1 rfl (by decide) rfl ?_
  refine g_iconst X dX9_mixFunctions_2 ?_
  refine g_istore X (lv' := [(5, ii 0), (3, ll p0), (0, ll p0), (2, .ref (a 0))]) dX9_mixFunctions_3 (by decide) rfl ?_
  refine g_sub (lv' := [(2, .ref (a 0)), (3, ll p0), (5, ii 0)]) [3, 1, 0] rfl ?_
  refine X9_mixFunctions_L5_ok K l cn0 hcn0 a WC X hr hlk V0 res FU p0 0 hf (fun w14 hf => ?_)
  refine g_lload_n X dX9_mixFunctions_70 0 rfl rfl ?_
  cases hf
  exact g_lret X hr hlk dX9_mixFunctions_71
set_option maxHeartbeats 4000000 in
set_option maxRecDepth 100000 in
theorem X9_mixFunctions_ok (K : KE) (l : Launch) (cn0 : Nat) (hcn0 : cn0 ≤ 1000) (a : Nat → Nat) (V0 : FT) (p0 : Int) (res : Int) (hf : X9_mixFunctions cn0 V0 p0 = some res) : CT l K.1 vwCl (kT K) yX9_mixFunctions wsX9_mixFunctions rmX9_mixFunctions [ll p0, .ref (a 0)] (some (ll res)) (c1 K cn0 a V0) (c1 K cn0 a V0) :=
  CT.mk (cc := cX9_mixFunctions) (maxL := 7) (ret := (some .long)) (by decide) rfl (Nat.le_of_ble_eq_true rfl) (fun p e s m below meth c X hr hlk => X9_mixFunctions_go K l cn0 hcn0 a _ X hr hlk V0 p0 res hf)
theorem iw_X9_mixMappings_X9 : ∀ w ∈ u_ws RX9 TX9 8, w ∈ wsX9_mixMappings := by decide +kernel
theorem fl_X9_mixMappings_10 : Cond.fieldLink RX9 10 (TX9 0).1 (TX9 0).2.1 (TX9 0).2.2.1 ∈ wsX9_mixMappings := by decide +kernel
theorem iw_X9_mixMappings_X8 : ∀ w ∈ u_ws RX8 TX8 9, w ∈ wsX9_mixMappings := by decide +kernel
theorem fl_X9_mixMappings_98 : Cond.fieldLink RX9 98 (TX8 6).1 (TX8 6).2.1 (TX8 6).2.2.1 ∈ wsX9_mixMappings := by decide +kernel
def rmX9_mixMappings : Room := { frames := 5, cells := 0, slots := 0, locals := 114 }
def X9_mixMappings_L5 (kx : Int → Option (Int)) (V0 : CM) : Nat → Int → Int → Option (Int)
  | 0, _, _ => none
  | n + 1, y3, y5 => brLT y5 6 ((X4_targetOf V0.1.2.2.2.2.2.2.1 y5).bind (fun v1 => ltK (fun q3 : Int => ltK (fun q5 : Int => (X9_mix y3 q5).bind (fun v7 => (X8_adapterNumber V0.1 y5).bind (fun v9 => (X9_mix v7 v9).bind (fun v11 => X9_mixMappings_L5 kx V0 n v11 (y5 + 1))))) (fun j6 => brEQ q3 0 (j6 0) ((X9_faithfulness V0 y5).bind (fun v13 => j6 (1 + v13))))) (fun j4 => brEQ v1 (-1) (j4 0) (j4 1)))) (kx y3)
def X9_mixMappings (V0 : CM) (p1 : Int) : Option (Int) := X9_mixMappings_L5 (fun w15 => some w15) V0 FU p1 0
set_option maxHeartbeats 4000000 in
set_option maxRecDepth 100000 in
theorem X9_mixMappings_L5_ok (K : KE) (l : Launch) (a : Nat → Nat) (WC : va_W) {p : Program} {e : Env} {s : State} {m : MethodId} {args : Array Value} {below : List Frame} {meth : Method} {c : Code} (X : CX p s m args c K.1 vwCl (kT K) (va_A WC s.heap.size) cX9_mixMappings 7 wsX9_mixMappings RX9) (hr : meth.sig.returnType = (some .long)) (hlk : meth.locks = false) (V0 : CM)  (res : Int) {kx : Int → Option (Int)} : ∀ (n : Nat) (y3 : Int) (y5 : Int), X9_mixMappings_L5 kx V0 n y3 y5 = some res → (∀ (z3 : Int), kx z3 = some res → GO p l e rmX9_mixMappings s m args below meth c K.1 vwCl (va_A WC s.heap.size) (MQ below (QC K.1 vwCl (some (ll res)) WC (c9 K a V0) s.heap.size) args s 0 0 (va_A WC s.heap.size)) 7 0 0 77 [(3, ll z3)] [] (c9 K a V0)) → GO p l e rmX9_mixMappings s m args below meth c K.1 vwCl (va_A WC s.heap.size) (MQ below (QC K.1 vwCl (some (ll res)) WC (c9 K a V0) s.heap.size) args s 0 0 (va_A WC s.heap.size)) 7 0 0 5 [(0, .ref (a 0)), (3, ll y3), (5, ii y5)] [] (c9 K a V0) := by
  intro n
  induction n with
  | zero =>
    intro y3 y5 hf _
    rw [X9_mixMappings_L5] at hf
    cases hf
  | succ n ih =>
    intro y3 y5 hf hk
    rw [X9_mixMappings_L5] at hf
    refine g_iload X dX9_mixMappings_5 2 rfl ?_
    refine g_bipush X dX9_mixMappings_7 (by decide +kernel) ?_
    refine g_icmp_ge X hf 77 dX9_mixMappings_9 (by decide) (fun hf => ?_) (fun hf => ?_)
    · refine g_aload_n X dX9_mixMappings_12 0 rfl rfl ?_
      refine g_get X (v := .ref (ash a 2 0)) 0 0 dX9_mixMappings_13 rfl rfl iw_X9_mixMappings_X9 (by decide) fl_X9_mixMappings_10 rfl ?_
      refine g_get X (v := .ref (ash (ash a 2) 14 0)) 2 6 dX9_mixMappings_16 rfl rfl iw_X9_mixMappings_X8 (by decide) fl_X9_mixMappings_98 rfl ?_
      refine g_iload X dX9_mixMappings_19 2 rfl ?_
      obtain ⟨v1, hc2, hf⟩ := Option.bind_eq_some_iff.mp hf
      refine g_callV X (As := [ii y5]) (st := []) (st1 := [ii v1]) (ws' := c9 K a V0) (X4_targetOf_ok K l (ash (ash a 2) 14) V0.1.2.2.2.2.2.2.1 y5 v1 hc2) gX9_mixMappings_X4_targetOf rfl 1 (by decide +kernel) ⟨rfl, rfl⟩ ⟨Nat.le_of_ble_eq_true rfl, Nat.le_of_ble_eq_true rfl⟩ ⟨Nat.zero_le _, Nat.zero_le _⟩ 16 rfl rfl rfl rfl (Nat.le_of_ble_eq_true rfl) dX9_mixMappings_21 (SG.one ([(a 0, .inr (9, [.ref (ash a 2 0), .ref (ash a 43 0), .ref (ash a 25 0), .ref (ash a 27 0), .ref (ash a 31 0), .ref (ash a 34 0), .ref (ash a 36 0), .ref (a 1)]))] ++ ([(a 1, .inl (K.2.1, 4, .inl (arI V0.2.2.2.2.2.2.2)))] ++ ([(ash a 2 0, .inr (8, [.ref (ash (ash a 2) 1 0), .ref (ash (ash a 2) 5 0), .ref (ash (ash a 2) 9 0), ii V0.1.2.2.2.1, .ref (ash a 2 13), ii V0.1.2.2.2.2.2.1, .ref (ash (ash a 2) 14 0), .ref (ash (ash a 2) 18 0), .ref (ash a 2 22)]))] ++ (c1 K 6 (ash (ash a 2) 1) V0.1.1 ++ (c1 K 6 (ash (ash a 2) 5) V0.1.2.1 ++ (c1 K 4 (ash (ash a 2) 9) V0.1.2.2.1 ++ ([(ash a 2 13, .inl (K.2.1, 6, .inl (arI V0.1.2.2.2.2.1)))]))))))) (c6 K (ash (ash a 2) 18) V0.1.2.2.2.2.2.2.2.1 ++ ([(ash a 2 22, .inl (K.2.1, 8, .inl (arI V0.1.2.2.2.2.2.2.2.2)))] ++ (c3 K (ash a 25) V0.2.2.1 ++ (c6 K (ash a 27) V0.2.2.2.1 ++ (c7 K (ash a 31) V0.2.2.2.2.1 ++ (c0 K (ash a 34) V0.2.2.2.2.2.1 ++ (c5 K (ash a 36) V0.2.2.2.2.2.2.1 ++ (c2 K (ash a 43) V0.2.1)))))))) rfl rfl rfl) rfl ?_
      refine g_iconst X dX9_mixMappings_24 ?_
      refine g_let (G := fun q3 : Int => GO p l e rmX9_mixMappings s m args below meth c K.1 vwCl (va_A WC s.heap.size) (MQ below (QC K.1 vwCl (some (ll res)) WC (c9 K a V0) s.heap.size) args s 0 0 (va_A WC s.heap.size)) 7 0 0 33 [(0, .ref (a 0)), (3, ll y3), (5, ii y5)] [ii q3] (c9 K a V0)) hf (fun q3 hf => ?_) (fun j4 hj4 hf => ?_)
      · refine g_istore X (lv' := [(6, ii q3), (0, .ref (a 0)), (3, ll y3), (5, ii y5)]) dX9_mixMappings_33 (by decide) rfl ?_
        refine g_lload_n X dX9_mixMappings_35 2 rfl rfl ?_
        refine g_iload X dX9_mixMappings_36 0 rfl ?_
        refine g_let (G := fun q5 : Int => GO p l e rmX9_mixMappings s m args below meth c K.1 vwCl (va_A WC s.heap.size) (MQ below (QC K.1 vwCl (some (ll res)) WC (c9 K a V0) s.heap.size) args s 0 0 (va_A WC s.heap.size)) 7 0 0 53 [(0, .ref (a 0)), (5, ii y5)] [ii q5, ll y3] (c9 K a V0)) hf (fun q5 hf => ?_) (fun j6 hj6 hf => ?_)
        · obtain ⟨v7, hc8, hf⟩ := Option.bind_eq_some_iff.mp hf
          refine g_callS X (As := [ll y3, ii q5]) (st := []) (st1 := [ll v7]) (ws' := c9 K a V0) (X9_mix_ok K l y3 q5 v7 hc8) gX9_mixMappings_X9_mix rfl 2 (by decide +kernel) ⟨rfl, rfl⟩ ⟨Nat.le_of_ble_eq_true rfl, Nat.le_of_ble_eq_true rfl⟩ ⟨Nat.zero_le _, Nat.zero_le _⟩ rfl rfl (Nat.le_of_ble_eq_true rfl) dX9_mixMappings_53 SG.none rfl ?_
          refine g_lstore_n X (lv' := [(3, ll v7), (0, .ref (a 0)), (5, ii y5)]) dX9_mixMappings_56 rfl (by decide) rfl ?_
          refine g_lload_n X dX9_mixMappings_57 0 rfl rfl ?_
          refine g_aload_n X dX9_mixMappings_58 1 rfl rfl ?_
          refine g_get X (v := .ref (ash a 2 0)) 0 0 dX9_mixMappings_59 rfl rfl iw_X9_mixMappings_X9 (by decide) fl_X9_mixMappings_10 rfl ?_
          refine g_iload X dX9_mixMappings_62 2 rfl ?_
          obtain ⟨v9, hc10, hf⟩ := Option.bind_eq_some_iff.mp hf
          refine g_callV X (As := [ii y5]) (st := [ll v7]) (st1 := [ii v9, ll v7]) (ws' := c9 K a V0) (X8_adapterNumber_ok K l (ash a 2) V0.1 y5 v9 hc10) gX9_mixMappings_X8_adapterNumber rfl 1 (by decide +kernel) ⟨rfl, rfl⟩ ⟨Nat.le_of_ble_eq_true rfl, Nat.le_of_ble_eq_true rfl⟩ ⟨Nat.zero_le _, Nat.zero_le _⟩ 2 rfl rfl rfl rfl (Nat.le_of_ble_eq_true rfl) dX9_mixMappings_64 (SG.one ([(a 0, .inr (9, [.ref (ash a 2 0), .ref (ash a 43 0), .ref (ash a 25 0), .ref (ash a 27 0), .ref (ash a 31 0), .ref (ash a 34 0), .ref (ash a 36 0), .ref (a 1)]))] ++ ([(a 1, .inl (K.2.1, 4, .inl (arI V0.2.2.2.2.2.2.2)))])) (c3 K (ash a 25) V0.2.2.1 ++ (c6 K (ash a 27) V0.2.2.2.1 ++ (c7 K (ash a 31) V0.2.2.2.2.1 ++ (c0 K (ash a 34) V0.2.2.2.2.2.1 ++ (c5 K (ash a 36) V0.2.2.2.2.2.2.1 ++ (c2 K (ash a 43) V0.2.1)))))) rfl rfl rfl) rfl ?_
          obtain ⟨v11, hc12, hf⟩ := Option.bind_eq_some_iff.mp hf
          refine g_callS X (As := [ll v7, ii v9]) (st := []) (st1 := [ll v11]) (ws' := c9 K a V0) (X9_mix_ok K l v7 v9 v11 hc12) gX9_mixMappings_X9_mix rfl 2 (by decide +kernel) ⟨rfl, rfl⟩ ⟨Nat.le_of_ble_eq_true rfl, Nat.le_of_ble_eq_true rfl⟩ ⟨Nat.zero_le _, Nat.zero_le _⟩ rfl rfl (Nat.le_of_ble_eq_true rfl) dX9_mixMappings_67 SG.none rfl ?_
          refine g_lstore_n X (lv' := [(3, ll v11), (0, .ref (a 0)), (5, ii y5)]) dX9_mixMappings_70 rfl (by decide) rfl ?_
          refine g_iinc X (lv' := [(5, ii (y5 + 1)), (3, ll v11), (0, .ref (a 0))]) dX9_mixMappings_71 2 rfl (by decide) rfl ?_
          refine g_goto X 5 dX9_mixMappings_74 (by decide) ?_
          refine g_sub (lv' := [(0, .ref (a 0)), (3, ll v11), (5, ii (y5 + 1))]) [2, 1, 0] rfl ?_
          exact ih v11 (y5 + 1) hf hk
        · refine g_if_eq X hf 52 dX9_mixMappings_38 (by decide) (fun hf => ?_) (fun hf => ?_)
          · refine g_iconst X dX9_mixMappings_52 ?_
            refine g_sub (lv' := [(0, .ref (a 0)), (5, ii y5)]) [1, 3] rfl ?_
            exact hj6 0 hf
          · refine g_iconst X dX9_mixMappings_41 ?_
            refine g_aload_n X dX9_mixMappings_42 1 rfl rfl ?_
            refine g_iload X dX9_mixMappings_43 3 rfl ?_
            obtain ⟨v13, hc14, hf⟩ := Option.bind_eq_some_iff.mp hf
            refine g_callV X (As := [ii y5]) (st := [ii 1, ll y3]) (st1 := [ii v13, ii 1, ll y3]) (ws' := c9 K a V0) (X9_faithfulness_ok K l a V0 y5 v13 hc14) gX9_mixMappings_X9_faithfulness rfl 1 (by decide +kernel) ⟨rfl, rfl⟩ ⟨Nat.le_of_ble_eq_true rfl, Nat.le_of_ble_eq_true rfl⟩ ⟨Nat.zero_le _, Nat.zero_le _⟩ 0 rfl rfl rfl rfl (Nat.le_of_ble_eq_true rfl) dX9_mixMappings_45 (SG.all rfl) rfl ?_
            refine g_iadd X dX9_mixMappings_48 ?_
            refine g_goto X 53 dX9_mixMappings_49 (by decide) ?_
            refine g_sub (lv' := [(0, .ref (a 0)), (5, ii y5)]) [1, 3] rfl ?_
            exact hj6 (1 + v13) hf
      · refine g_icmp_eq X hf 32 dX9_mixMappings_25 (by decide) (fun hf => ?_) (fun hf => ?_)
        · refine g_iconst X dX9_mixMappings_32 ?_
          exact hj4 0 hf
        · refine g_iconst X dX9_mixMappings_28 ?_
          refine g_goto X 33 dX9_mixMappings_29 (by decide) ?_
          exact hj4 1 hf
    · refine g_sub (lv' := [(3, ll y3)]) [1] rfl ?_
      exact hk y3 hf
set_option maxHeartbeats 4000000 in
set_option maxRecDepth 100000 in
theorem X9_mixMappings_go (K : KE) (l : Launch) (a : Nat → Nat) (WC : va_W) {p : Program} {e : Env} {s : State} {m : MethodId} {args : Array Value} {below : List Frame} {meth : Method} {c : Code} (X : CX p s m args c K.1 vwCl (kT K) (va_A WC s.heap.size) cX9_mixMappings 7 wsX9_mixMappings RX9) (hr : meth.sig.returnType = (some .long)) (hlk : meth.locks = false) (V0 : CM) (p1 : Int) (res : Int) (hf : X9_mixMappings V0 p1 = some res) : GO p l e rmX9_mixMappings s m args below meth c K.1 vwCl (va_A WC s.heap.size) (MQ below (QC K.1 vwCl (some (ll res)) WC (c9 K a V0) s.heap.size) args s 0 0 (va_A WC s.heap.size)) 7 0 0 0 [(0, .ref (a 0)), (1, ll p1)] [] (c9 K a V0) := by
  rw [X9_mixMappings] at hf
  refine g_lload_n X dX9_mixMappings_0 1 rfl rfl ?_
  refine g_lstore_n X (lv' := [(3, ll p1), (0, .ref (a 0)), (1, ll p1)]) dX9_mixMappings_1 rfl (by decide) rfl ?_
  refine g_iconst X dX9_mixMappings_2 ?_
  refine g_istore X (lv' := [(5, ii 0), (3, ll p1), (0, .ref (a 0)), (1, ll p1)]) dX9_mixMappings_3 (by decide) rfl ?_
  refine g_sub (lv' := [(0, .ref (a 0)), (3, ll p1), (5, ii 0)]) [2, 1, 0] rfl ?_
  refine X9_mixMappings_L5_ok K l a WC X hr hlk V0 res FU p1 0 hf (fun w15 hf => ?_)
  refine g_lload_n X dX9_mixMappings_77 0 rfl rfl ?_
  cases hf
  exact g_lret X hr hlk dX9_mixMappings_78
set_option maxHeartbeats 4000000 in
set_option maxRecDepth 100000 in
theorem X9_mixMappings_ok (K : KE) (l : Launch) (a : Nat → Nat) (V0 : CM) (p1 : Int) (res : Int) (hf : X9_mixMappings V0 p1 = some res) : CT l K.1 vwCl (kT K) yX9_mixMappings wsX9_mixMappings rmX9_mixMappings [.ref (a 0), ll p1] (some (ll res)) (c9 K a V0) (c9 K a V0) :=
  CT.mk (cc := cX9_mixMappings) (maxL := 7) (ret := (some .long)) (by decide) rfl (Nat.le_of_ble_eq_true rfl) (fun p e s m below meth c X hr hlk => X9_mixMappings_go K l a _ X hr hlk V0 p1 res hf)
theorem iw_X9_mixProgram_X9 : ∀ w ∈ u_ws RX9 TX9 8, w ∈ wsX9_mixProgram := by decide +kernel
theorem fl_X9_mixProgram_40 : Cond.fieldLink RX9 40 (TX9 4).1 (TX9 4).2.1 (TX9 4).2.2.1 ∈ wsX9_mixProgram := by decide +kernel
theorem fl_X9_mixProgram_10 : Cond.fieldLink RX9 10 (TX9 0).1 (TX9 0).2.1 (TX9 0).2.2.1 ∈ wsX9_mixProgram := by decide +kernel
theorem iw_X9_mixProgram_X8 : ∀ w ∈ u_ws RX8 TX8 9, w ∈ wsX9_mixProgram := by decide +kernel
theorem fl_X9_mixProgram_148 : Cond.fieldLink RX9 148 (TX8 7).1 (TX8 7).2.1 (TX8 7).2.2.1 ∈ wsX9_mixProgram := by decide +kernel
theorem iw_X9_mixProgram_X7 : ∀ w ∈ u_ws RX7 TX7 4, w ∈ wsX9_mixProgram := by decide +kernel
theorem fl_X9_mixProgram_181 : Cond.fieldLink RX9 181 (TX7 1).1 (TX7 1).2.1 (TX7 1).2.2.1 ∈ wsX9_mixProgram := by decide +kernel
theorem fl_X9_mixProgram_182 : Cond.fieldLink RX9 182 (TX7 0).1 (TX7 0).2.1 (TX7 0).2.2.1 ∈ wsX9_mixProgram := by decide +kernel
def rmX9_mixProgram : Room := { frames := 4, cells := 0, slots := 0, locals := 86 }
def X9_mixProgram_L19 (kx : Int → Option (Int × CM)) (V0 : CM) : Nat → Int → Int → Option (Int × CM)
  | 0, _, _ => none
  | n + 1, y3, y5 => brLT y5 V0.2.2.2.2.1.2.1 (rdK 120 V0.2.2.2.2.1.1 y5 (fun v3 => (X9_mix y3 v3).bind (fun v4 => X9_mixProgram_L19 kx V0 n v4 (y5 + 1)))) (kx y3)
def X9_mixProgram (V0 : CM) (p1 : Int) : Option (Int × CM) := (X7_write V0.1.2.2.2.2.2.2.2.1 V0.2.2.2.2.1).bind (fun v1 => X9_mixProgram_L19 (fun w6 => (X6_countSites V0.1.2.2.2.2.2.2.2.1).bind (fun v7 => (X9_mix w6 v7).bind (fun v9 => some (v9, (V0.1, V0.2.1, V0.2.2.1, V0.2.2.2.1, v1, V0.2.2.2.2.2.1, V0.2.2.2.2.2.2.1, V0.2.2.2.2.2.2.2))))) (V0.1, V0.2.1, V0.2.2.1, V0.2.2.2.1, v1, V0.2.2.2.2.2.1, V0.2.2.2.2.2.2.1, V0.2.2.2.2.2.2.2) FU p1 0)
set_option maxHeartbeats 4000000 in
set_option maxRecDepth 100000 in
theorem X9_mixProgram_L19_ok (K : KE) (l : Launch) (a : Nat → Nat) (WC : va_W) {p : Program} {e : Env} {s : State} {m : MethodId} {args : Array Value} {below : List Frame} {meth : Method} {c : Code} (X : CX p s m args c K.1 vwCl (kT K) (va_A WC s.heap.size) cX9_mixProgram 6 wsX9_mixProgram RX9) (hr : meth.sig.returnType = (some .long)) (hlk : meth.locks = false) (V0 : CM)  (res : Int × CM) {kx : Int → Option (Int × CM)} : ∀ (n : Nat) (y3 : Int) (y5 : Int), X9_mixProgram_L19 kx V0 n y3 y5 = some res → (∀ (z3 : Int), kx z3 = some res → GO p l e rmX9_mixProgram s m args below meth c K.1 vwCl (va_A WC s.heap.size) (MQ below (QC K.1 vwCl (some (ll res.1)) WC (c9 K a res.2) s.heap.size) args s 0 0 (va_A WC s.heap.size)) 6 0 0 52 [(0, .ref (a 0)), (3, ll z3)] [] (c9 K a V0)) → GO p l e rmX9_mixProgram s m args below meth c K.1 vwCl (va_A WC s.heap.size) (MQ below (QC K.1 vwCl (some (ll res.1)) WC (c9 K a res.2) s.heap.size) args s 0 0 (va_A WC s.heap.size)) 6 0 0 19 [(0, .ref (a 0)), (3, ll y3), (5, ii y5)] [] (c9 K a V0) := by
  intro n
  induction n with
  | zero =>
    intro y3 y5 hf _
    rw [X9_mixProgram_L19] at hf
    cases hf
  | succ n ih =>
    intro y3 y5 hf hk
    rw [X9_mixProgram_L19] at hf
    refine g_iload X dX9_mixProgram_19 2 rfl ?_
    refine g_aload_n X dX9_mixProgram_21 0 rfl rfl ?_
    refine g_get X (v := .ref (ash a 31 0)) 0 4 dX9_mixProgram_22 rfl rfl iw_X9_mixProgram_X9 (by decide) fl_X9_mixProgram_40 rfl ?_
    refine g_get X (v := ii V0.2.2.2.2.1.2.1) 31 1 dX9_mixProgram_25 rfl rfl iw_X9_mixProgram_X7 (by decide) fl_X9_mixProgram_181 rfl ?_
    refine g_icmp_ge X hf 52 dX9_mixProgram_28 (by decide) (fun hf => ?_) (fun hf => ?_)
    · refine g_lload_n X dX9_mixProgram_31 1 rfl rfl ?_
      refine g_aload_n X dX9_mixProgram_32 0 rfl rfl ?_
      refine g_get X (v := .ref (ash a 31 0)) 0 4 dX9_mixProgram_33 rfl rfl iw_X9_mixProgram_X9 (by decide) fl_X9_mixProgram_40 rfl ?_
      refine g_get X (v := .ref (ash a 31 1)) 31 0 dX9_mixProgram_36 rfl rfl iw_X9_mixProgram_X7 (by decide) fl_X9_mixProgram_182 rfl ?_
      refine g_iload X dX9_mixProgram_39 2 rfl ?_
      refine g_iald X hf (by decide) 32 0 dX9_mixProgram_41 rfl rfl (fun v3 hf => ?_)
      obtain ⟨v4, hc5, hf⟩ := Option.bind_eq_some_iff.mp hf
      refine g_callS X (As := [ll y3, ii v3]) (st := []) (st1 := [ll v4]) (ws' := c9 K a V0) (X9_mix_ok K l y3 v3 v4 hc5) gX9_mixProgram_X9_mix rfl 2 (by decide +kernel) ⟨rfl, rfl⟩ ⟨Nat.le_of_ble_eq_true rfl, Nat.le_of_ble_eq_true rfl⟩ ⟨Nat.zero_le _, Nat.zero_le _⟩ rfl rfl (Nat.le_of_ble_eq_true rfl) dX9_mixProgram_42 SG.none rfl ?_
      refine g_lstore_n X (lv' := [(3, ll v4), (0, .ref (a 0)), (5, ii y5)]) dX9_mixProgram_45 rfl (by decide) rfl ?_
      refine g_iinc X (lv' := [(5, ii (y5 + 1)), (3, ll v4), (0, .ref (a 0))]) dX9_mixProgram_46 2 rfl (by decide) rfl ?_
      refine g_goto X 19 dX9_mixProgram_49 (by decide) ?_
      refine g_sub (lv' := [(0, .ref (a 0)), (3, ll v4), (5, ii (y5 + 1))]) [2, 1, 0] rfl ?_
      exact ih v4 (y5 + 1) hf hk
    · refine g_sub (lv' := [(0, .ref (a 0)), (3, ll y3)]) [0, 1] rfl ?_
      exact hk y3 hf
set_option maxHeartbeats 4000000 in
set_option maxRecDepth 100000 in
theorem X9_mixProgram_go (K : KE) (l : Launch) (a : Nat → Nat) (WC : va_W) {p : Program} {e : Env} {s : State} {m : MethodId} {args : Array Value} {below : List Frame} {meth : Method} {c : Code} (X : CX p s m args c K.1 vwCl (kT K) (va_A WC s.heap.size) cX9_mixProgram 6 wsX9_mixProgram RX9) (hr : meth.sig.returnType = (some .long)) (hlk : meth.locks = false) (V0 : CM) (p1 : Int) (res : Int × CM) (hf : X9_mixProgram V0 p1 = some res) : GO p l e rmX9_mixProgram s m args below meth c K.1 vwCl (va_A WC s.heap.size) (MQ below (QC K.1 vwCl (some (ll res.1)) WC (c9 K a res.2) s.heap.size) args s 0 0 (va_A WC s.heap.size)) 6 0 0 0 [(0, .ref (a 0)), (1, ll p1)] [] (c9 K a V0) := by
  rw [X9_mixProgram] at hf
  refine g_lload_n X dX9_mixProgram_0 1 rfl rfl ?_
  refine g_lstore_n X (lv' := [(3, ll p1), (0, .ref (a 0)), (1, ll p1)]) dX9_mixProgram_1 rfl (by decide) rfl ?_
  refine g_aload_n X dX9_mixProgram_2 1 rfl rfl ?_
  refine g_get X (v := .ref (ash a 31 0)) 0 4 dX9_mixProgram_3 rfl rfl iw_X9_mixProgram_X9 (by decide) fl_X9_mixProgram_40 rfl ?_
  refine g_aload_n X dX9_mixProgram_6 1 rfl rfl ?_
  refine g_get X (v := .ref (ash a 2 0)) 0 0 dX9_mixProgram_7 rfl rfl iw_X9_mixProgram_X9 (by decide) fl_X9_mixProgram_10 rfl ?_
  refine g_get X (v := .ref (ash (ash a 2) 18 0)) 2 7 dX9_mixProgram_10 rfl rfl iw_X9_mixProgram_X8 (by decide) fl_X9_mixProgram_148 rfl ?_
  obtain ⟨v1, hc2, hf⟩ := Option.bind_eq_some_iff.mp hf
  refine g_callV X (As := [.ref (ash (ash a 2) 18 0)]) (st := []) (st1 := []) (ws' := c9 K a (V0.1, V0.2.1, V0.2.2.1, V0.2.2.2.1, v1, V0.2.2.2.2.2.1, V0.2.2.2.2.2.2.1, V0.2.2.2.2.2.2.2)) (X7_write_ok K l (ash (ash a 2) 18) (ash a 31) V0.1.2.2.2.2.2.2.2.1 V0.2.2.2.2.1 v1 hc2) gX9_mixProgram_X7_write rfl 1 (by decide +kernel) ⟨rfl, rfl⟩ ⟨Nat.le_of_ble_eq_true rfl, Nat.le_of_ble_eq_true rfl⟩ ⟨Nat.zero_le _, Nat.zero_le _⟩ 31 rfl rfl rfl rfl (Nat.le_of_ble_eq_true rfl) dX9_mixProgram_13 (SG.two ([(a 0, .inr (9, [.ref (ash a 2 0), .ref (ash a 43 0), .ref (ash a 25 0), .ref (ash a 27 0), .ref (ash a 31 0), .ref (ash a 34 0), .ref (ash a 36 0), .ref (a 1)]))] ++ ([(a 1, .inl (K.2.1, 4, .inl (arI V0.2.2.2.2.2.2.2)))] ++ ([(ash a 2 0, .inr (8, [.ref (ash (ash a 2) 1 0), .ref (ash (ash a 2) 5 0), .ref (ash (ash a 2) 9 0), ii V0.1.2.2.2.1, .ref (ash a 2 13), ii V0.1.2.2.2.2.2.1, .ref (ash (ash a 2) 14 0), .ref (ash (ash a 2) 18 0), .ref (ash a 2 22)]))] ++ (c1 K 6 (ash (ash a 2) 1) V0.1.1 ++ (c1 K 6 (ash (ash a 2) 5) V0.1.2.1 ++ (c1 K 4 (ash (ash a 2) 9) V0.1.2.2.1 ++ ([(ash a 2 13, .inl (K.2.1, 6, .inl (arI V0.1.2.2.2.2.1)))] ++ (c4 K (ash (ash a 2) 14) V0.1.2.2.2.2.2.2.1)))))))) ([(ash a 2 22, .inl (K.2.1, 8, .inl (arI V0.1.2.2.2.2.2.2.2.2)))] ++ (c3 K (ash a 25) V0.2.2.1 ++ (c6 K (ash a 27) V0.2.2.2.1))) (c0 K (ash a 34) V0.2.2.2.2.2.1 ++ (c5 K (ash a 36) V0.2.2.2.2.2.2.1 ++ (c2 K (ash a 43) V0.2.1))) rfl rfl rfl) rfl ?_
  refine g_iconst X dX9_mixProgram_16 ?_
  refine g_istore X (lv' := [(5, ii 0), (3, ll p1), (0, .ref (a 0)), (1, ll p1)]) dX9_mixProgram_17 (by decide) rfl ?_
  refine g_sub (lv' := [(0, .ref (a 0)), (3, ll p1), (5, ii 0)]) [2, 1, 0] rfl ?_
  refine X9_mixProgram_L19_ok K l a WC X hr hlk (V0.1, V0.2.1, V0.2.2.1, V0.2.2.2.1, v1, V0.2.2.2.2.2.1, V0.2.2.2.2.2.2.1, V0.2.2.2.2.2.2.2) res FU p1 0 hf (fun w6 hf => ?_)
  refine g_lload_n X dX9_mixProgram_52 1 rfl rfl ?_
  refine g_aload_n X dX9_mixProgram_53 0 rfl rfl ?_
  refine g_get X (v := .ref (ash a 2 0)) 0 0 dX9_mixProgram_54 rfl rfl iw_X9_mixProgram_X9 (by decide) fl_X9_mixProgram_10 rfl ?_
  refine g_get X (v := .ref (ash (ash a 2) 18 0)) 2 7 dX9_mixProgram_57 rfl rfl iw_X9_mixProgram_X8 (by decide) fl_X9_mixProgram_148 rfl ?_
  obtain ⟨v7, hc8, hf⟩ := Option.bind_eq_some_iff.mp hf
  refine g_callV X (As := []) (st := [ll w6]) (st1 := [ii v7, ll w6]) (ws' := c9 K a (V0.1, V0.2.1, V0.2.2.1, V0.2.2.2.1, v1, V0.2.2.2.2.2.1, V0.2.2.2.2.2.2.1, V0.2.2.2.2.2.2.2)) (X6_countSites_ok K l (ash (ash a 2) 18) V0.1.2.2.2.2.2.2.2.1 v7 hc8) gX9_mixProgram_X6_countSites rfl 0 (by decide +kernel) ⟨rfl, rfl⟩ ⟨Nat.le_of_ble_eq_true rfl, Nat.le_of_ble_eq_true rfl⟩ ⟨Nat.zero_le _, Nat.zero_le _⟩ 20 rfl rfl rfl rfl (Nat.le_of_ble_eq_true rfl) dX9_mixProgram_60 (SG.one ([(a 0, .inr (9, [.ref (ash a 2 0), .ref (ash a 43 0), .ref (ash a 25 0), .ref (ash a 27 0), .ref (ash a 31 0), .ref (ash a 34 0), .ref (ash a 36 0), .ref (a 1)]))] ++ ([(a 1, .inl (K.2.1, 4, .inl (arI V0.2.2.2.2.2.2.2)))] ++ ([(ash a 2 0, .inr (8, [.ref (ash (ash a 2) 1 0), .ref (ash (ash a 2) 5 0), .ref (ash (ash a 2) 9 0), ii V0.1.2.2.2.1, .ref (ash a 2 13), ii V0.1.2.2.2.2.2.1, .ref (ash (ash a 2) 14 0), .ref (ash (ash a 2) 18 0), .ref (ash a 2 22)]))] ++ (c1 K 6 (ash (ash a 2) 1) V0.1.1 ++ (c1 K 6 (ash (ash a 2) 5) V0.1.2.1 ++ (c1 K 4 (ash (ash a 2) 9) V0.1.2.2.1 ++ ([(ash a 2 13, .inl (K.2.1, 6, .inl (arI V0.1.2.2.2.2.1)))] ++ (c4 K (ash (ash a 2) 14) V0.1.2.2.2.2.2.2.1)))))))) ([(ash a 2 22, .inl (K.2.1, 8, .inl (arI V0.1.2.2.2.2.2.2.2.2)))] ++ (c3 K (ash a 25) V0.2.2.1 ++ (c6 K (ash a 27) V0.2.2.2.1 ++ (c7 K (ash a 31) v1 ++ (c0 K (ash a 34) V0.2.2.2.2.2.1 ++ (c5 K (ash a 36) V0.2.2.2.2.2.2.1 ++ (c2 K (ash a 43) V0.2.1))))))) rfl rfl rfl) rfl ?_
  obtain ⟨v9, hc10, hf⟩ := Option.bind_eq_some_iff.mp hf
  refine g_callS X (As := [ll w6, ii v7]) (st := []) (st1 := [ll v9]) (ws' := c9 K a (V0.1, V0.2.1, V0.2.2.1, V0.2.2.2.1, v1, V0.2.2.2.2.2.1, V0.2.2.2.2.2.2.1, V0.2.2.2.2.2.2.2)) (X9_mix_ok K l w6 v7 v9 hc10) gX9_mixProgram_X9_mix rfl 2 (by decide +kernel) ⟨rfl, rfl⟩ ⟨Nat.le_of_ble_eq_true rfl, Nat.le_of_ble_eq_true rfl⟩ ⟨Nat.zero_le _, Nat.zero_le _⟩ rfl rfl (Nat.le_of_ble_eq_true rfl) dX9_mixProgram_63 SG.none rfl ?_
  cases hf
  exact g_lret X hr hlk dX9_mixProgram_66
set_option maxHeartbeats 4000000 in
set_option maxRecDepth 100000 in
theorem X9_mixProgram_ok (K : KE) (l : Launch) (a : Nat → Nat) (V0 : CM) (p1 : Int) (res : Int × CM) (hf : X9_mixProgram V0 p1 = some res) : CT l K.1 vwCl (kT K) yX9_mixProgram wsX9_mixProgram rmX9_mixProgram [.ref (a 0), ll p1] (some (ll res.1)) (c9 K a V0) (c9 K a res.2) :=
  CT.mk (cc := cX9_mixProgram) (maxL := 6) (ret := (some .long)) (by decide) rfl (Nat.le_of_ble_eq_true rfl) (fun p e s m below meth c X hr hlk => X9_mixProgram_go K l a _ X hr hlk V0 p1 res hf)
theorem wd_X9_digest_cl192 : Jvm.Cond.constantLong RX9 192 (2683) ∈ wsX9_digest := by decide +kernel
theorem iw_X9_digest_X9 : ∀ w ∈ u_ws RX9 TX9 8, w ∈ wsX9_digest := by decide +kernel
theorem fl_X9_digest_58 : Cond.fieldLink RX9 58 (TX9 7).1 (TX9 7).2.1 (TX9 7).2.2.1 ∈ wsX9_digest := by decide +kernel
theorem fl_X9_digest_26 : Cond.fieldLink RX9 26 (TX9 2).1 (TX9 2).2.1 (TX9 2).2.2.1 ∈ wsX9_digest := by decide +kernel
theorem iw_X9_digest_X3 : ∀ w ∈ u_ws RX3 TX3 3, w ∈ wsX9_digest := by decide +kernel
theorem fl_X9_digest_138 : Cond.fieldLink RX9 138 (TX3 1).1 (TX3 1).2.1 (TX3 1).2.2.1 ∈ wsX9_digest := by decide +kernel
theorem fl_X9_digest_10 : Cond.fieldLink RX9 10 (TX9 0).1 (TX9 0).2.1 (TX9 0).2.2.1 ∈ wsX9_digest := by decide +kernel
theorem iw_X9_digest_X8 : ∀ w ∈ u_ws RX8 TX8 9, w ∈ wsX9_digest := by decide +kernel
theorem fl_X9_digest_74 : Cond.fieldLink RX9 74 (TX8 0).1 (TX8 0).2.1 (TX8 0).2.2.1 ∈ wsX9_digest := by decide +kernel
theorem fl_X9_digest_85 : Cond.fieldLink RX9 85 (TX8 1).1 (TX8 1).2.1 (TX8 1).2.2.1 ∈ wsX9_digest := by decide +kernel
theorem fl_X9_digest_128 : Cond.fieldLink RX9 128 (TX8 5).1 (TX8 5).2.1 (TX8 5).2.2.1 ∈ wsX9_digest := by decide +kernel
theorem fl_X9_digest_158 : Cond.fieldLink RX9 158 (TX8 8).1 (TX8 8).2.1 (TX8 8).2.2.1 ∈ wsX9_digest := by decide +kernel
theorem fl_X9_digest_19 : Cond.fieldLink RX9 19 (TX9 1).1 (TX9 1).2.1 (TX9 1).2.2.1 ∈ wsX9_digest := by decide +kernel
theorem iw_X9_digest_X2 : ∀ w ∈ u_ws RX2 TX2 2, w ∈ wsX9_digest := by decide +kernel
theorem fl_X9_digest_189 : Cond.fieldLink RX9 189 (TX2 1).1 (TX2 1).2.1 (TX2 1).2.2.1 ∈ wsX9_digest := by decide +kernel
def rmX9_digest : Room := { frames := 6, cells := 0, slots := 0, locals := 140 }
def X9_digest_L6 (kx : Int → Option (Int × CM)) (V0 : CM) : Nat → Int → Int → Option (Int × CM)
  | 0, _, _ => none
  | n + 1, y1, y3 => brLT y3 ((4 : Nat) : Int) (rdK 4 V0.2.2.2.2.2.2.2 y3 (fun v1 => (X9_mix y1 v1).bind (fun v2 => X9_digest_L6 kx V0 n v2 (y3 + 1)))) (kx y1)
def X9_digest_L94 (kx : Int → Option (Int × CM)) (V0 : CM) : Nat → Int → Int → Option (Int × CM)
  | 0, _, _ => none
  | n + 1, y1, y3 => brLE y3 7 (rdK 8 V0.1.2.2.2.2.2.2.2.2 y3 (fun v17 => (X9_mix y1 v17).bind (fun v18 => X9_digest_L94 kx V0 n v18 (y3 + 1)))) (kx y1)
def X9_digest (V0 : CM) : Option (Int × CM) := X9_digest_L6 (fun w4 => (X9_mix w4 V0.2.2.1.2.1).bind (fun v5 => (X9_mixFunctions 6 V0.1.1 v5).bind (fun v7 => (X9_mixFunctions 6 V0.1.2.1 v7).bind (fun v9 => (X9_mixMappings V0 v9).bind (fun v11 => (X9_mix v11 V0.1.2.2.2.2.2.1).bind (fun v13 => (X9_mixProgram V0 v13).bind (fun w15 => X9_digest_L94 (fun w20 => (X9_mix w20 w15.2.2.1.2.1).bind (fun v21 => some (v21, w15.2))) w15.2 FU w15.1 1))))))) V0 FU 2683 0
set_option maxHeartbeats 4000000 in
set_option maxRecDepth 100000 in
theorem X9_digest_L6_ok (K : KE) (l : Launch) (a : Nat → Nat) (WC : va_W) {p : Program} {e : Env} {s : State} {m : MethodId} {args : Array Value} {below : List Frame} {meth : Method} {c : Code} (X : CX p s m args c K.1 vwCl (kT K) (va_A WC s.heap.size) cX9_digest 4 wsX9_digest RX9) (hr : meth.sig.returnType = (some .long)) (hlk : meth.locks = false) (V0 : CM)  (res : Int × CM) {kx : Int → Option (Int × CM)} : ∀ (n : Nat) (y1 : Int) (y3 : Int), X9_digest_L6 kx V0 n y1 y3 = some res → (∀ (z1 : Int), kx z1 = some res → GO p l e rmX9_digest s m args below meth c K.1 vwCl (va_A WC s.heap.size) (MQ below (QC K.1 vwCl (some (ll res.1)) WC (c9 K a res.2) s.heap.size) args s 0 0 (va_A WC s.heap.size)) 4 0 0 32 [(0, .ref (a 0)), (1, ll z1)] [] (c9 K a V0)) → GO p l e rmX9_digest s m args below meth c K.1 vwCl (va_A WC s.heap.size) (MQ below (QC K.1 vwCl (some (ll res.1)) WC (c9 K a res.2) s.heap.size) args s 0 0 (va_A WC s.heap.size)) 4 0 0 6 [(0, .ref (a 0)), (1, ll y1), (3, ii y3)] [] (c9 K a V0) := by
  intro n
  induction n with
  | zero =>
    intro y1 y3 hf _
    rw [X9_digest_L6] at hf
    cases hf
  | succ n ih =>
    intro y1 y3 hf hk
    rw [X9_digest_L6] at hf
    refine g_iload_n X dX9_digest_6 2 rfl rfl ?_
    refine g_aload_n X dX9_digest_7 0 rfl rfl ?_
    refine g_get X (v := .ref (a 1)) 0 7 dX9_digest_8 rfl rfl iw_X9_digest_X9 (by decide) fl_X9_digest_58 rfl ?_
    refine g_alen X (n := 4) 1 0 dX9_digest_11 rfl rfl ?_
    refine g_icmp_ge X hf 32 dX9_digest_12 (by decide) (fun hf => ?_) (fun hf => ?_)
    · refine g_lload_n X dX9_digest_15 1 rfl rfl ?_
      refine g_aload_n X dX9_digest_16 0 rfl rfl ?_
      refine g_get X (v := .ref (a 1)) 0 7 dX9_digest_17 rfl rfl iw_X9_digest_X9 (by decide) fl_X9_digest_58 rfl ?_
      refine g_iload_n X dX9_digest_20 2 rfl rfl ?_
      refine g_iald X hf (by decide) 1 0 dX9_digest_21 rfl rfl (fun v1 hf => ?_)
      obtain ⟨v2, hc3, hf⟩ := Option.bind_eq_some_iff.mp hf
      refine g_callS X (As := [ll y1, ii v1]) (st := []) (st1 := [ll v2]) (ws' := c9 K a V0) (X9_mix_ok K l y1 v1 v2 hc3) gX9_digest_X9_mix rfl 2 (by decide +kernel) ⟨rfl, rfl⟩ ⟨Nat.le_of_ble_eq_true rfl, Nat.le_of_ble_eq_true rfl⟩ ⟨Nat.zero_le _, Nat.zero_le _⟩ rfl rfl (Nat.le_of_ble_eq_true rfl) dX9_digest_22 SG.none rfl ?_
      refine g_lstore_n X (lv' := [(1, ll v2), (0, .ref (a 0)), (3, ii y3)]) dX9_digest_25 rfl (by decide) rfl ?_
      refine g_iinc X (lv' := [(3, ii (y3 + 1)), (1, ll v2), (0, .ref (a 0))]) dX9_digest_26 2 rfl (by decide) rfl ?_
      refine g_goto X 6 dX9_digest_29 (by decide) ?_
      refine g_sub (lv' := [(0, .ref (a 0)), (1, ll v2), (3, ii (y3 + 1))]) [2, 1, 0] rfl ?_
      exact ih v2 (y3 + 1) hf hk
    · refine g_sub (lv' := [(0, .ref (a 0)), (1, ll y1)]) [0, 1] rfl ?_
      exact hk y1 hf
set_option maxHeartbeats 4000000 in
set_option maxRecDepth 100000 in
theorem X9_digest_L94_ok (K : KE) (l : Launch) (a : Nat → Nat) (WC : va_W) {p : Program} {e : Env} {s : State} {m : MethodId} {args : Array Value} {below : List Frame} {meth : Method} {c : Code} (X : CX p s m args c K.1 vwCl (kT K) (va_A WC s.heap.size) cX9_digest 4 wsX9_digest RX9) (hr : meth.sig.returnType = (some .long)) (hlk : meth.locks = false) (V0 : CM)  (res : Int × CM) {kx : Int → Option (Int × CM)} : ∀ (n : Nat) (y1 : Int) (y3 : Int), X9_digest_L94 kx V0 n y1 y3 = some res → (∀ (z1 : Int), kx z1 = some res → GO p l e rmX9_digest s m args below meth c K.1 vwCl (va_A WC s.heap.size) (MQ below (QC K.1 vwCl (some (ll res.1)) WC (c9 K a res.2) s.heap.size) args s 0 0 (va_A WC s.heap.size)) 4 0 0 120 [(0, .ref (a 0)), (1, ll z1)] [] (c9 K a V0)) → GO p l e rmX9_digest s m args below meth c K.1 vwCl (va_A WC s.heap.size) (MQ below (QC K.1 vwCl (some (ll res.1)) WC (c9 K a res.2) s.heap.size) args s 0 0 (va_A WC s.heap.size)) 4 0 0 94 [(0, .ref (a 0)), (1, ll y1), (3, ii y3)] [] (c9 K a V0) := by
  intro n
  induction n with
  | zero =>
    intro y1 y3 hf _
    rw [X9_digest_L94] at hf
    cases hf
  | succ n ih =>
    intro y1 y3 hf hk
    rw [X9_digest_L94] at hf
    refine g_iload_n X dX9_digest_94 2 rfl rfl ?_
    refine g_bipush X dX9_digest_95 (by decide +kernel) ?_
    refine g_icmp_gt X hf 120 dX9_digest_97 (by decide) (fun hf => ?_) (fun hf => ?_)
    · refine g_lload_n X dX9_digest_100 1 rfl rfl ?_
      refine g_aload_n X dX9_digest_101 0 rfl rfl ?_
      refine g_get X (v := .ref (ash a 2 0)) 0 0 dX9_digest_102 rfl rfl iw_X9_digest_X9 (by decide) fl_X9_digest_10 rfl ?_
      refine g_get X (v := .ref (ash a 2 22)) 2 8 dX9_digest_105 rfl rfl iw_X9_digest_X8 (by decide) fl_X9_digest_158 rfl ?_
      refine g_iload_n X dX9_digest_108 2 rfl rfl ?_
      refine g_iald X hf (by decide) 24 0 dX9_digest_109 rfl rfl (fun v17 hf => ?_)
      obtain ⟨v18, hc19, hf⟩ := Option.bind_eq_some_iff.mp hf
      refine g_callS X (As := [ll y1, ii v17]) (st := []) (st1 := [ll v18]) (ws' := c9 K a V0) (X9_mix_ok K l y1 v17 v18 hc19) gX9_digest_X9_mix rfl 2 (by decide +kernel) ⟨rfl, rfl⟩ ⟨Nat.le_of_ble_eq_true rfl, Nat.le_of_ble_eq_true rfl⟩ ⟨Nat.zero_le _, Nat.zero_le _⟩ rfl rfl (Nat.le_of_ble_eq_true rfl) dX9_digest_110 SG.none rfl ?_
      refine g_lstore_n X (lv' := [(1, ll v18), (0, .ref (a 0)), (3, ii y3)]) dX9_digest_113 rfl (by decide) rfl ?_
      refine g_iinc X (lv' := [(3, ii (y3 + 1)), (1, ll v18), (0, .ref (a 0))]) dX9_digest_114 2 rfl (by decide) rfl ?_
      refine g_goto X 94 dX9_digest_117 (by decide) ?_
      refine g_sub (lv' := [(0, .ref (a 0)), (1, ll v18), (3, ii (y3 + 1))]) [2, 1, 0] rfl ?_
      exact ih v18 (y3 + 1) hf hk
    · refine g_sub (lv' := [(0, .ref (a 0)), (1, ll y1)]) [0, 1] rfl ?_
      exact hk y1 hf
set_option maxHeartbeats 4000000 in
set_option maxRecDepth 100000 in
theorem X9_digest_go (K : KE) (l : Launch) (a : Nat → Nat) (WC : va_W) {p : Program} {e : Env} {s : State} {m : MethodId} {args : Array Value} {below : List Frame} {meth : Method} {c : Code} (X : CX p s m args c K.1 vwCl (kT K) (va_A WC s.heap.size) cX9_digest 4 wsX9_digest RX9) (hr : meth.sig.returnType = (some .long)) (hlk : meth.locks = false) (V0 : CM) (res : Int × CM) (hf : X9_digest V0 = some res) : GO p l e rmX9_digest s m args below meth c K.1 vwCl (va_A WC s.heap.size) (MQ below (QC K.1 vwCl (some (ll res.1)) WC (c9 K a res.2) s.heap.size) args s 0 0 (va_A WC s.heap.size)) 4 0 0 0 [(0, .ref (a 0))] [] (c9 K a V0) := by
  rw [X9_digest] at hf
  refine g_ldc2 X 2683 dX9_digest_0 wd_X9_digest_cl192 (by decide +kernel) ?_
  refine g_lstore_n X (lv' := [(1, ll 2683), (0, .ref (a 0))]) dX9_digest_3 rfl (by decide) rfl ?_
  refine g_iconst X dX9_digest_4 ?_
  refine g_istore_n X (lv' := [(3, ii 0), (1, ll 2683), (0, .ref (a 0))]) dX9_digest_5 rfl (by decide) rfl ?_
  refine g_sub (lv' := [(0, .ref (a 0)), (1, ll 2683), (3, ii 0)]) [2, 1, 0] rfl ?_
  refine X9_digest_L6_ok K l a WC X hr hlk V0 res FU 2683 0 hf (fun w4 hf => ?_)
  refine g_lload_n X dX9_digest_32 1 rfl rfl ?_
  refine g_aload_n X dX9_digest_33 0 rfl rfl ?_
  refine g_get X (v := .ref (ash a 25 0)) 0 2 dX9_digest_34 rfl rfl iw_X9_digest_X9 (by decide) fl_X9_digest_26 rfl ?_
  refine g_get X (v := ii V0.2.2.1.2.1) 25 1 dX9_digest_37 rfl rfl iw_X9_digest_X3 (by decide) fl_X9_digest_138 rfl ?_
  obtain ⟨v5, hc6, hf⟩ := Option.bind_eq_some_iff.mp hf
  refine g_callS X (As := [ll w4, ii V0.2.2.1.2.1]) (st := []) (st1 := [ll v5]) (ws' := c9 K a V0) (X9_mix_ok K l w4 V0.2.2.1.2.1 v5 hc6) gX9_digest_X9_mix rfl 2 (by decide +kernel) ⟨rfl, rfl⟩ ⟨Nat.le_of_ble_eq_true rfl, Nat.le_of_ble_eq_true rfl⟩ ⟨Nat.zero_le _, Nat.zero_le _⟩ rfl rfl (Nat.le_of_ble_eq_true rfl) dX9_digest_40 SG.none rfl ?_
  refine g_lstore_n X (lv' := [(1, ll v5), (0, .ref (a 0))]) dX9_digest_43 rfl (by decide) rfl ?_
  refine g_lload_n X dX9_digest_44 0 rfl rfl ?_
  refine g_aload_n X dX9_digest_45 1 rfl rfl ?_
  refine g_get X (v := .ref (ash a 2 0)) 0 0 dX9_digest_46 rfl rfl iw_X9_digest_X9 (by decide) fl_X9_digest_10 rfl ?_
  refine g_get X (v := .ref (ash (ash a 2) 1 0)) 2 0 dX9_digest_49 rfl rfl iw_X9_digest_X8 (by decide) fl_X9_digest_74 rfl ?_
  obtain ⟨v7, hc8, hf⟩ := Option.bind_eq_some_iff.mp hf
  refine g_callS X (As := [ll v5, .ref (ash (ash a 2) 1 0)]) (st := []) (st1 := [ll v7]) (ws' := c9 K a V0) (X9_mixFunctions_ok K l 6 (by decide) (ash (ash a 2) 1) V0.1.1 v5 v7 hc8) gX9_digest_X9_mixFunctions rfl 2 (by decide +kernel) ⟨rfl, rfl⟩ ⟨Nat.le_of_ble_eq_true rfl, Nat.le_of_ble_eq_true rfl⟩ ⟨Nat.zero_le _, Nat.zero_le _⟩ rfl rfl (Nat.le_of_ble_eq_true rfl) dX9_digest_52 (SG.one ([(a 0, .inr (9, [.ref (ash a 2 0), .ref (ash a 43 0), .ref (ash a 25 0), .ref (ash a 27 0), .ref (ash a 31 0), .ref (ash a 34 0), .ref (ash a 36 0), .ref (a 1)]))] ++ ([(a 1, .inl (K.2.1, 4, .inl (arI V0.2.2.2.2.2.2.2)))] ++ ([(ash a 2 0, .inr (8, [.ref (ash (ash a 2) 1 0), .ref (ash (ash a 2) 5 0), .ref (ash (ash a 2) 9 0), ii V0.1.2.2.2.1, .ref (ash a 2 13), ii V0.1.2.2.2.2.2.1, .ref (ash (ash a 2) 14 0), .ref (ash (ash a 2) 18 0), .ref (ash a 2 22)]))]))) (c1 K 6 (ash (ash a 2) 5) V0.1.2.1 ++ (c1 K 4 (ash (ash a 2) 9) V0.1.2.2.1 ++ ([(ash a 2 13, .inl (K.2.1, 6, .inl (arI V0.1.2.2.2.2.1)))] ++ (c4 K (ash (ash a 2) 14) V0.1.2.2.2.2.2.2.1 ++ (c6 K (ash (ash a 2) 18) V0.1.2.2.2.2.2.2.2.1 ++ ([(ash a 2 22, .inl (K.2.1, 8, .inl (arI V0.1.2.2.2.2.2.2.2.2)))] ++ (c3 K (ash a 25) V0.2.2.1 ++ (c6 K (ash a 27) V0.2.2.2.1 ++ (c7 K (ash a 31) V0.2.2.2.2.1 ++ (c0 K (ash a 34) V0.2.2.2.2.2.1 ++ (c5 K (ash a 36) V0.2.2.2.2.2.2.1 ++ (c2 K (ash a 43) V0.2.1)))))))))))) rfl rfl rfl) rfl ?_
  refine g_lstore_n X (lv' := [(1, ll v7), (0, .ref (a 0))]) dX9_digest_55 rfl (by decide) rfl ?_
  refine g_lload_n X dX9_digest_56 0 rfl rfl ?_
  refine g_aload_n X dX9_digest_57 1 rfl rfl ?_
  refine g_get X (v := .ref (ash a 2 0)) 0 0 dX9_digest_58 rfl rfl iw_X9_digest_X9 (by decide) fl_X9_digest_10 rfl ?_
  refine g_get X (v := .ref (ash (ash a 2) 5 0)) 2 1 dX9_digest_61 rfl rfl iw_X9_digest_X8 (by decide) fl_X9_digest_85 rfl ?_
  obtain ⟨v9, hc10, hf⟩ := Option.bind_eq_some_iff.mp hf
  refine g_callS X (As := [ll v7, .ref (ash (ash a 2) 5 0)]) (st := []) (st1 := [ll v9]) (ws' := c9 K a V0) (X9_mixFunctions_ok K l 6 (by decide) (ash (ash a 2) 5) V0.1.2.1 v7 v9 hc10) gX9_digest_X9_mixFunctions rfl 2 (by decide +kernel) ⟨rfl, rfl⟩ ⟨Nat.le_of_ble_eq_true rfl, Nat.le_of_ble_eq_true rfl⟩ ⟨Nat.zero_le _, Nat.zero_le _⟩ rfl rfl (Nat.le_of_ble_eq_true rfl) dX9_digest_64 (SG.one ([(a 0, .inr (9, [.ref (ash a 2 0), .ref (ash a 43 0), .ref (ash a 25 0), .ref (ash a 27 0), .ref (ash a 31 0), .ref (ash a 34 0), .ref (ash a 36 0), .ref (a 1)]))] ++ ([(a 1, .inl (K.2.1, 4, .inl (arI V0.2.2.2.2.2.2.2)))] ++ ([(ash a 2 0, .inr (8, [.ref (ash (ash a 2) 1 0), .ref (ash (ash a 2) 5 0), .ref (ash (ash a 2) 9 0), ii V0.1.2.2.2.1, .ref (ash a 2 13), ii V0.1.2.2.2.2.2.1, .ref (ash (ash a 2) 14 0), .ref (ash (ash a 2) 18 0), .ref (ash a 2 22)]))] ++ (c1 K 6 (ash (ash a 2) 1) V0.1.1)))) (c1 K 4 (ash (ash a 2) 9) V0.1.2.2.1 ++ ([(ash a 2 13, .inl (K.2.1, 6, .inl (arI V0.1.2.2.2.2.1)))] ++ (c4 K (ash (ash a 2) 14) V0.1.2.2.2.2.2.2.1 ++ (c6 K (ash (ash a 2) 18) V0.1.2.2.2.2.2.2.2.1 ++ ([(ash a 2 22, .inl (K.2.1, 8, .inl (arI V0.1.2.2.2.2.2.2.2.2)))] ++ (c3 K (ash a 25) V0.2.2.1 ++ (c6 K (ash a 27) V0.2.2.2.1 ++ (c7 K (ash a 31) V0.2.2.2.2.1 ++ (c0 K (ash a 34) V0.2.2.2.2.2.1 ++ (c5 K (ash a 36) V0.2.2.2.2.2.2.1 ++ (c2 K (ash a 43) V0.2.1))))))))))) rfl rfl rfl) rfl ?_
  refine g_lstore_n X (lv' := [(1, ll v9), (0, .ref (a 0))]) dX9_digest_67 rfl (by decide) rfl ?_
  refine g_aload_n X dX9_digest_68 1 rfl rfl ?_
  refine g_lload_n X dX9_digest_69 0 rfl rfl ?_
  obtain ⟨v11, hc12, hf⟩ := Option.bind_eq_some_iff.mp hf
  refine g_callV X (As := [ll v9]) (st := []) (st1 := [ll v11]) (ws' := c9 K a V0) (X9_mixMappings_ok K l a V0 v9 v11 hc12) gX9_digest_X9_mixMappings rfl 1 (by decide +kernel) ⟨rfl, rfl⟩ ⟨Nat.le_of_ble_eq_true rfl, Nat.le_of_ble_eq_true rfl⟩ ⟨Nat.zero_le _, Nat.zero_le _⟩ 0 rfl rfl rfl rfl (Nat.le_of_ble_eq_true rfl) dX9_digest_70 (SG.all rfl) rfl ?_
  refine g_lstore_n X (lv' := [(1, ll v11), (0, .ref (a 0))]) dX9_digest_73 rfl (by decide) rfl ?_
  refine g_lload_n X dX9_digest_74 0 rfl rfl ?_
  refine g_aload_n X dX9_digest_75 1 rfl rfl ?_
  refine g_get X (v := .ref (ash a 2 0)) 0 0 dX9_digest_76 rfl rfl iw_X9_digest_X9 (by decide) fl_X9_digest_10 rfl ?_
  refine g_get X (v := ii V0.1.2.2.2.2.2.1) 2 5 dX9_digest_79 rfl rfl iw_X9_digest_X8 (by decide) fl_X9_digest_128 rfl ?_
  obtain ⟨v13, hc14, hf⟩ := Option.bind_eq_some_iff.mp hf
  refine g_callS X (As := [ll v11, ii V0.1.2.2.2.2.2.1]) (st := []) (st1 := [ll v13]) (ws' := c9 K a V0) (X9_mix_ok K l v11 V0.1.2.2.2.2.2.1 v13 hc14) gX9_digest_X9_mix rfl 2 (by decide +kernel) ⟨rfl, rfl⟩ ⟨Nat.le_of_ble_eq_true rfl, Nat.le_of_ble_eq_true rfl⟩ ⟨Nat.zero_le _, Nat.zero_le _⟩ rfl rfl (Nat.le_of_ble_eq_true rfl) dX9_digest_82 SG.none rfl ?_
  refine g_lstore_n X (lv' := [(1, ll v13), (0, .ref (a 0))]) dX9_digest_85 rfl (by decide) rfl ?_
  refine g_aload_n X dX9_digest_86 1 rfl rfl ?_
  refine g_lload_n X dX9_digest_87 0 rfl rfl ?_
  obtain ⟨w15, hc16, hf⟩ := Option.bind_eq_some_iff.mp hf
  refine g_callV X (As := [ll v13]) (st := []) (st1 := [ll w15.1]) (ws' := c9 K a w15.2) (X9_mixProgram_ok K l a V0 v13 w15 hc16) gX9_digest_X9_mixProgram rfl 1 (by decide +kernel) ⟨rfl, rfl⟩ ⟨Nat.le_of_ble_eq_true rfl, Nat.le_of_ble_eq_true rfl⟩ ⟨Nat.zero_le _, Nat.zero_le _⟩ 0 rfl rfl rfl rfl (Nat.le_of_ble_eq_true rfl) dX9_digest_88 (SG.all rfl) rfl ?_
  refine g_lstore_n X (lv' := [(1, ll w15.1), (0, .ref (a 0))]) dX9_digest_91 rfl (by decide) rfl ?_
  refine g_iconst X dX9_digest_92 ?_
  refine g_istore_n X (lv' := [(3, ii 1), (1, ll w15.1), (0, .ref (a 0))]) dX9_digest_93 rfl (by decide) rfl ?_
  refine g_sub (lv' := [(0, .ref (a 0)), (1, ll w15.1), (3, ii 1)]) [2, 1, 0] rfl ?_
  refine X9_digest_L94_ok K l a WC X hr hlk w15.2 res FU w15.1 1 hf (fun w20 hf => ?_)
  refine g_lload_n X dX9_digest_120 1 rfl rfl ?_
  refine g_aload_n X dX9_digest_121 0 rfl rfl ?_
  refine g_get X (v := .ref (ash a 43 0)) 0 1 dX9_digest_122 rfl rfl iw_X9_digest_X9 (by decide) fl_X9_digest_19 rfl ?_
  refine g_get X (v := ii w15.2.2.1.2.1) 43 1 dX9_digest_125 rfl rfl iw_X9_digest_X2 (by decide) fl_X9_digest_189 rfl ?_
  obtain ⟨v21, hc22, hf⟩ := Option.bind_eq_some_iff.mp hf
  refine g_callS X (As := [ll w20, ii w15.2.2.1.2.1]) (st := []) (st1 := [ll v21]) (ws' := c9 K a w15.2) (X9_mix_ok K l w20 w15.2.2.1.2.1 v21 hc22) gX9_digest_X9_mix rfl 2 (by decide +kernel) ⟨rfl, rfl⟩ ⟨Nat.le_of_ble_eq_true rfl, Nat.le_of_ble_eq_true rfl⟩ ⟨Nat.zero_le _, Nat.zero_le _⟩ rfl rfl (Nat.le_of_ble_eq_true rfl) dX9_digest_128 SG.none rfl ?_
  cases hf
  exact g_lret X hr hlk dX9_digest_131
set_option maxHeartbeats 4000000 in
set_option maxRecDepth 100000 in
theorem X9_digest_ok (K : KE) (l : Launch) (a : Nat → Nat) (V0 : CM) (res : Int × CM) (hf : X9_digest V0 = some res) : CT l K.1 vwCl (kT K) yX9_digest wsX9_digest rmX9_digest [.ref (a 0)] (some (ll res.1)) (c9 K a V0) (c9 K a res.2) :=
  CT.mk (cc := cX9_digest) (maxL := 4) (ret := (some .long)) (by decide) rfl (Nat.le_of_ble_eq_true rfl) (fun p e s m below meth c X hr hlk => X9_digest_go K l a _ X hr hlk V0 res hf)
