theorem iw_X9_refuse_X9 : ∀ w ∈ u_ws RX9 TX9 8, w ∈ wsX9_refuse := by decide +kernel
theorem fl_X9_refuse_58 : Cond.fieldLink RX9 58 (TX9 7).1 (TX9 7).2.1 (TX9 7).2.2.1 ∈ wsX9_refuse := by decide +kernel
def rmX9_refuse : Room := { frames := 1, cells := 0, slots := 0, locals := 22 }
def X9_refuse (V0 : CM) (p1 : Int) : Option (Int × CM) := (X9_within ((-2) - p1) 0 (((4 : Nat) : Int) - 1)).bind (fun v1 => brEQ v1 0 (some (p1, V0)) (rdK 4 V0.2.2.2.2.2.2.2 ((-2) - p1) (fun v3 => wrK 4 V0.2.2.2.2.2.2.2 ((-2) - p1) (v3 + 1) (fun f4 => some (p1, (V0.1, V0.2.1, V0.2.2.1, V0.2.2.2.1, V0.2.2.2.2.1, V0.2.2.2.2.2.1, V0.2.2.2.2.2.2.1, f4))))))
set_option maxHeartbeats 4000000 in
set_option maxRecDepth 100000 in
theorem X9_refuse_go (K : KE) (l : Launch) (a : Nat → Nat) (WC : va_W) {p : Program} {e : Env} {s : State} {m : MethodId} {args : Array Value} {below : List Frame} {meth : Method} {c : Code} (X : CX p s m args c K.1 vwCl (kT K) (va_A WC s.heap.size) cX9_refuse 3 wsX9_refuse RX9) (hr : meth.sig.returnType = (some .int)) (hlk : meth.locks = false) (V0 : CM) (p1 : Int) (res : Int × CM) (hf : X9_refuse V0 p1 = some res) : GO p l e rmX9_refuse s m args below meth c K.1 vwCl (va_A WC s.heap.size) (MQ below (QC K.1 vwCl (some (ii res.1)) WC (c9 K a res.2) s.heap.size) args s 0 0 (va_A WC s.heap.size)) 3 0 0 0 [(0, .ref (a 0)), (1, ii p1)] [] (c9 K a V0) := by
  rw [X9_refuse] at hf
  refine g_bipush X dX9_refuse_0 (by decide +kernel) ?_
  refine g_iload_n X dX9_refuse_2 1 rfl rfl ?_
  refine g_isub X dX9_refuse_3 ?_
  refine g_istore_n X (lv' := [(2, ii ((-2) - p1)), (0, .ref (a 0)), (1, ii p1)]) dX9_refuse_4 rfl (by decide) rfl ?_
  refine g_iload_n X dX9_refuse_5 0 rfl rfl ?_
  refine g_iconst X dX9_refuse_6 ?_
  refine g_aload_n X dX9_refuse_7 1 rfl rfl ?_
  refine g_get X (v := .ref (a 1)) 0 7 dX9_refuse_8 rfl rfl iw_X9_refuse_X9 (by decide) fl_X9_refuse_58 rfl ?_
  refine g_alen X (n := 4) 1 0 dX9_refuse_11 rfl rfl ?_
  refine g_iconst X dX9_refuse_12 ?_
  refine g_isub X dX9_refuse_13 ?_
  obtain ⟨v1, hc2, hf⟩ := Option.bind_eq_some_iff.mp hf
  refine g_callS X (As := [ii ((-2) - p1), ii 0, ii (((4 : Nat) : Int) - 1)]) (st := []) (st1 := [ii v1]) (ws' := c9 K a V0) (X9_within_ok K l ((-2) - p1) 0 (((4 : Nat) : Int) - 1) v1 hc2) gX9_refuse_X9_within rfl 3 (by decide +kernel) ⟨rfl, rfl⟩ ⟨Nat.le_of_ble_eq_true rfl, Nat.le_of_ble_eq_true rfl⟩ ⟨Nat.zero_le _, Nat.zero_le _⟩ rfl rfl (Nat.le_of_ble_eq_true rfl) dX9_refuse_14 SG.none rfl ?_
  refine g_if_eq X hf 30 dX9_refuse_17 (by decide) (fun hf => ?_) (fun hf => ?_)
  · refine g_iload_n X dX9_refuse_30 2 rfl rfl ?_
    cases hf
    exact g_iret X hr hlk dX9_refuse_31
  · refine g_aload_n X dX9_refuse_20 1 rfl rfl ?_
    refine g_get X (v := .ref (a 1)) 0 7 dX9_refuse_21 rfl rfl iw_X9_refuse_X9 (by decide) fl_X9_refuse_58 rfl ?_
    refine g_iload_n X dX9_refuse_24 0 rfl rfl ?_
    refine g_dup2 X dX9_refuse_25 rfl rfl ?_
    refine g_iald X hf (by decide) 1 0 dX9_refuse_26 rfl rfl (fun v3 hf => ?_)
    refine g_iconst X dX9_refuse_27 ?_
    refine g_iadd X dX9_refuse_28 ?_
    refine g_iast X hf (by decide) 1 0 dX9_refuse_29 rfl rfl (fun f4 => c9 K a (V0.1, V0.2.1, V0.2.2.1, V0.2.2.2.1, V0.2.2.2.2.1, V0.2.2.2.2.2.1, V0.2.2.2.2.2.2.1, f4)) (fun _ => rfl) (fun f4 hf => ?_)
    refine g_iload_n X dX9_refuse_30 2 rfl rfl ?_
    cases hf
    exact g_iret X hr hlk dX9_refuse_31
set_option maxHeartbeats 4000000 in
set_option maxRecDepth 100000 in
theorem X9_refuse_ok (K : KE) (l : Launch) (a : Nat → Nat) (V0 : CM) (p1 : Int) (res : Int × CM) (hf : X9_refuse V0 p1 = some res) : CT l K.1 vwCl (kT K) yX9_refuse wsX9_refuse rmX9_refuse [.ref (a 0), ii p1] (some (ii res.1)) (c9 K a V0) (c9 K a res.2) :=
  CT.mk (cc := cX9_refuse) (maxL := 3) (ret := (some .int)) (by decide) rfl (Nat.le_of_ble_eq_true rfl) (fun p e s m below meth c X hr hlk => X9_refuse_go K l a _ X hr hlk V0 p1 res hf)
theorem iw_X9_changeShape_olds_X9 : ∀ w ∈ u_ws RX9 TX9 8, w ∈ wsX9_changeShape := by decide +kernel
theorem fl_X9_changeShape_olds_19 : Cond.fieldLink RX9 19 (TX9 1).1 (TX9 1).2.1 (TX9 1).2.2.1 ∈ wsX9_changeShape := by decide +kernel
theorem fl_X9_changeShape_olds_10 : Cond.fieldLink RX9 10 (TX9 0).1 (TX9 0).2.1 (TX9 0).2.2.1 ∈ wsX9_changeShape := by decide +kernel
def rmX9_changeShape_olds : Room := { frames := 7, cells := 0, slots := 0, locals := 161 }
def X9_changeShape_olds (V0 : CM) (p2 : Int) (p3 : Int) (p4 : Int) : Option (Int × CM) := (X2_save V0.1 V0.2.1).bind (fun v1 => (X1_arityOf 6 V0.1.1 p2).bind (fun v3 => (X1_putShape 6 V0.1.1 p2 p3 p4).bind (fun v5 => some (v3, ((v5, V0.1.2.1, V0.1.2.2.1, V0.1.2.2.2.1, V0.1.2.2.2.2.1, V0.1.2.2.2.2.2.1, V0.1.2.2.2.2.2.2.1, V0.1.2.2.2.2.2.2.2.1, V0.1.2.2.2.2.2.2.2.2), v1, V0.2.2.1, V0.2.2.2.1, V0.2.2.2.2.1, V0.2.2.2.2.2.1, V0.2.2.2.2.2.2.1, V0.2.2.2.2.2.2.2)))))
set_option maxHeartbeats 4000000 in
set_option maxRecDepth 100000 in
theorem X9_changeShape_olds_go (K : KE) (l : Launch) (a : Nat → Nat) (WC : va_W) {p : Program} {e : Env} {s : State} {m : MethodId} {args : Array Value} {below : List Frame} {meth : Method} {c : Code} (X : CX p s m args c K.1 vwCl (kT K) (va_A WC s.heap.size) cX9_changeShape 6 wsX9_changeShape RX9) (hr : meth.sig.returnType = (some .int)) (hlk : meth.locks = false) (V0 : CM) (p2 : Int) (p3 : Int) (p4 : Int) (res : Int × CM) (hf : X9_changeShape_olds V0 p2 p3 p4 = some res) : GO p l e rmX9_changeShape_olds s m args below meth c K.1 vwCl (va_A WC s.heap.size) (MQ below (QC K.1 vwCl (some (ii res.1)) WC (c9 K a res.2) s.heap.size) args s 0 0 (va_A WC s.heap.size)) 6 0 0 0 [(0, .ref (a 0)), (1, .ref (ash (ash a 2) 1 0)), (2, ii p2), (3, ii p3), (4, ii p4)] [] (c9 K a V0) := by
  rw [X9_changeShape_olds] at hf
  refine g_aload_n X dX9_changeShape_0 0 rfl rfl ?_
  refine g_get X (v := .ref (ash a 43 0)) 0 1 dX9_changeShape_1 rfl rfl iw_X9_changeShape_olds_X9 (by decide) fl_X9_changeShape_olds_19 rfl ?_
  refine g_aload_n X dX9_changeShape_4 0 rfl rfl ?_
  refine g_get X (v := .ref (ash a 2 0)) 0 0 dX9_changeShape_5 rfl rfl iw_X9_changeShape_olds_X9 (by decide) fl_X9_changeShape_olds_10 rfl ?_
  obtain ⟨v1, hc2, hf⟩ := Option.bind_eq_some_iff.mp hf
  refine g_callV X (As := [.ref (ash a 2 0)]) (st := []) (st1 := []) (ws' := c9 K a (V0.1, v1, V0.2.2.1, V0.2.2.2.1, V0.2.2.2.2.1, V0.2.2.2.2.2.1, V0.2.2.2.2.2.2.1, V0.2.2.2.2.2.2.2)) (X2_save_ok K l (ash a 2) (ash a 43) V0.1 V0.2.1 v1 hc2) gX9_changeShape_X2_save rfl 1 (by decide +kernel) ⟨rfl, rfl⟩ ⟨Nat.le_of_ble_eq_true rfl, Nat.le_of_ble_eq_true rfl⟩ ⟨Nat.zero_le _, Nat.zero_le _⟩ 43 rfl rfl rfl rfl (Nat.le_of_ble_eq_true rfl) dX9_changeShape_8 (SG.two ([(a 0, .inr (9, [.ref (ash a 2 0), .ref (ash a 43 0), .ref (ash a 25 0), .ref (ash a 27 0), .ref (ash a 31 0), .ref (ash a 34 0), .ref (ash a 36 0), .ref (a 1)]))] ++ ([(a 1, .inl (K.2.1, 4, .inl (arI V0.2.2.2.2.2.2.2)))])) (c3 K (ash a 25) V0.2.2.1 ++ (c6 K (ash a 27) V0.2.2.2.1 ++ (c7 K (ash a 31) V0.2.2.2.2.1 ++ (c0 K (ash a 34) V0.2.2.2.2.2.1 ++ (c5 K (ash a 36) V0.2.2.2.2.2.2.1))))) [] rfl rfl rfl) rfl ?_
  refine g_aload_n X dX9_changeShape_11 1 rfl rfl ?_
  refine g_iload_n X dX9_changeShape_12 2 rfl rfl ?_
  obtain ⟨v3, hc4, hf⟩ := Option.bind_eq_some_iff.mp hf
  refine g_callV X (As := [ii p2]) (st := []) (st1 := [ii v3]) (ws' := c9 K a (V0.1, v1, V0.2.2.1, V0.2.2.2.1, V0.2.2.2.2.1, V0.2.2.2.2.2.1, V0.2.2.2.2.2.2.1, V0.2.2.2.2.2.2.2)) (X1_arityOf_ok K l 6 (by decide) (ash (ash a 2) 1) V0.1.1 p2 v3 hc4) gX9_changeShape_X1_arityOf rfl 1 (by decide +kernel) ⟨rfl, rfl⟩ ⟨Nat.le_of_ble_eq_true rfl, Nat.le_of_ble_eq_true rfl⟩ ⟨Nat.zero_le _, Nat.zero_le _⟩ 3 rfl rfl rfl rfl (Nat.le_of_ble_eq_true rfl) dX9_changeShape_13 (SG.one ([(a 0, .inr (9, [.ref (ash a 2 0), .ref (ash a 43 0), .ref (ash a 25 0), .ref (ash a 27 0), .ref (ash a 31 0), .ref (ash a 34 0), .ref (ash a 36 0), .ref (a 1)]))] ++ ([(a 1, .inl (K.2.1, 4, .inl (arI V0.2.2.2.2.2.2.2)))] ++ ([(ash a 2 0, .inr (8, [.ref (ash (ash a 2) 1 0), .ref (ash (ash a 2) 5 0), .ref (ash (ash a 2) 9 0), ii V0.1.2.2.2.1, .ref (ash a 2 13), ii V0.1.2.2.2.2.2.1, .ref (ash (ash a 2) 14 0), .ref (ash (ash a 2) 18 0), .ref (ash a 2 22)]))]))) (c1 K 6 (ash (ash a 2) 5) V0.1.2.1 ++ (c1 K 4 (ash (ash a 2) 9) V0.1.2.2.1 ++ ([(ash a 2 13, .inl (K.2.1, 6, .inl (arI V0.1.2.2.2.2.1)))] ++ (c4 K (ash (ash a 2) 14) V0.1.2.2.2.2.2.2.1 ++ (c6 K (ash (ash a 2) 18) V0.1.2.2.2.2.2.2.2.1 ++ ([(ash a 2 22, .inl (K.2.1, 8, .inl (arI V0.1.2.2.2.2.2.2.2.2)))] ++ (c3 K (ash a 25) V0.2.2.1 ++ (c6 K (ash a 27) V0.2.2.2.1 ++ (c7 K (ash a 31) V0.2.2.2.2.1 ++ (c0 K (ash a 34) V0.2.2.2.2.2.1 ++ (c5 K (ash a 36) V0.2.2.2.2.2.2.1 ++ (c2 K (ash a 43) v1)))))))))))) rfl rfl rfl) rfl ?_
  refine g_istore X (lv' := [(5, ii v3), (0, .ref (a 0)), (1, .ref (ash (ash a 2) 1 0)), (2, ii p2), (3, ii p3), (4, ii p4)]) dX9_changeShape_16 (by decide) rfl ?_
  refine g_aload_n X dX9_changeShape_18 2 rfl rfl ?_
  refine g_iload_n X dX9_changeShape_19 3 rfl rfl ?_
  refine g_iload_n X dX9_changeShape_20 4 rfl rfl ?_
  refine g_iload X dX9_changeShape_21 5 rfl ?_
  obtain ⟨v5, hc6, hf⟩ := Option.bind_eq_some_iff.mp hf
  refine g_callV X (As := [ii p2, ii p3, ii p4]) (st := []) (st1 := []) (ws' := c9 K a ((v5, V0.1.2.1, V0.1.2.2.1, V0.1.2.2.2.1, V0.1.2.2.2.2.1, V0.1.2.2.2.2.2.1, V0.1.2.2.2.2.2.2.1, V0.1.2.2.2.2.2.2.2.1, V0.1.2.2.2.2.2.2.2.2), v1, V0.2.2.1, V0.2.2.2.1, V0.2.2.2.2.1, V0.2.2.2.2.2.1, V0.2.2.2.2.2.2.1, V0.2.2.2.2.2.2.2)) (X1_putShape_ok K l 6 (by decide) (ash (ash a 2) 1) V0.1.1 p2 p3 p4 v5 hc6) gX9_changeShape_X1_putShape rfl 3 (by decide +kernel) ⟨rfl, rfl⟩ ⟨Nat.le_of_ble_eq_true rfl, Nat.le_of_ble_eq_true rfl⟩ ⟨Nat.zero_le _, Nat.zero_le _⟩ 3 rfl rfl rfl rfl (Nat.le_of_ble_eq_true rfl) dX9_changeShape_23 (SG.one ([(a 0, .inr (9, [.ref (ash a 2 0), .ref (ash a 43 0), .ref (ash a 25 0), .ref (ash a 27 0), .ref (ash a 31 0), .ref (ash a 34 0), .ref (ash a 36 0), .ref (a 1)]))] ++ ([(a 1, .inl (K.2.1, 4, .inl (arI V0.2.2.2.2.2.2.2)))] ++ ([(ash a 2 0, .inr (8, [.ref (ash (ash a 2) 1 0), .ref (ash (ash a 2) 5 0), .ref (ash (ash a 2) 9 0), ii V0.1.2.2.2.1, .ref (ash a 2 13), ii V0.1.2.2.2.2.2.1, .ref (ash (ash a 2) 14 0), .ref (ash (ash a 2) 18 0), .ref (ash a 2 22)]))]))) (c1 K 6 (ash (ash a 2) 5) V0.1.2.1 ++ (c1 K 4 (ash (ash a 2) 9) V0.1.2.2.1 ++ ([(ash a 2 13, .inl (K.2.1, 6, .inl (arI V0.1.2.2.2.2.1)))] ++ (c4 K (ash (ash a 2) 14) V0.1.2.2.2.2.2.2.1 ++ (c6 K (ash (ash a 2) 18) V0.1.2.2.2.2.2.2.2.1 ++ ([(ash a 2 22, .inl (K.2.1, 8, .inl (arI V0.1.2.2.2.2.2.2.2.2)))] ++ (c3 K (ash a 25) V0.2.2.1 ++ (c6 K (ash a 27) V0.2.2.2.1 ++ (c7 K (ash a 31) V0.2.2.2.2.1 ++ (c0 K (ash a 34) V0.2.2.2.2.2.1 ++ (c5 K (ash a 36) V0.2.2.2.2.2.2.1 ++ (c2 K (ash a 43) v1)))))))))))) rfl rfl rfl) rfl ?_
  refine g_iload X dX9_changeShape_26 0 rfl ?_
  cases hf
  exact g_iret X hr hlk dX9_changeShape_28
set_option maxHeartbeats 4000000 in
set_option maxRecDepth 100000 in
theorem X9_changeShape_olds_ok (K : KE) (l : Launch) (a : Nat → Nat) (V0 : CM) (p2 : Int) (p3 : Int) (p4 : Int) (res : Int × CM) (hf : X9_changeShape_olds V0 p2 p3 p4 = some res) : CT l K.1 vwCl (kT K) yX9_changeShape wsX9_changeShape rmX9_changeShape_olds [.ref (a 0), .ref (ash (ash a 2) 1 0), ii p2, ii p3, ii p4] (some (ii res.1)) (c9 K a V0) (c9 K a res.2) :=
  CT.mk (cc := cX9_changeShape) (maxL := 6) (ret := (some .int)) (by decide) rfl (Nat.le_of_ble_eq_true rfl) (fun p e s m below meth c X hr hlk => X9_changeShape_olds_go K l a _ X hr hlk V0 p2 p3 p4 res hf)
theorem iw_X9_setOld_X9 : ∀ w ∈ u_ws RX9 TX9 8, w ∈ wsX9_setOld := by decide +kernel
theorem fl_X9_setOld_10 : Cond.fieldLink RX9 10 (TX9 0).1 (TX9 0).2.1 (TX9 0).2.2.1 ∈ wsX9_setOld := by decide +kernel
theorem iw_X9_setOld_X8 : ∀ w ∈ u_ws RX8 TX8 9, w ∈ wsX9_setOld := by decide +kernel
theorem fl_X9_setOld_74 : Cond.fieldLink RX9 74 (TX8 0).1 (TX8 0).2.1 (TX8 0).2.2.1 ∈ wsX9_setOld := by decide +kernel
def rmX9_setOld : Room := { frames := 8, cells := 0, slots := 0, locals := 186 }
def X9_setOld (V0 : CM) (p1 : Int) (p2 : Int) (p3 : Int) : Option (Int × CM) := (X9_isOld p1).bind (fun v1 => brEQ v1 0 ((X9_refuse V0 (-2)).bind (fun w3 => some (w3.1, w3.2))) ((X9_within p2 0 3).bind (fun v5 => brEQ v5 0 ((X9_refuse V0 (-2)).bind (fun w7 => some (w7.1, w7.2))) ((X9_within p3 0 1).bind (fun v9 => brEQ v9 0 ((X9_refuse V0 (-2)).bind (fun w11 => some (w11.1, w11.2))) ((X9_changeShape_olds V0 p1 p2 p3).bind (fun w13 => some (w13.1, w13.2))))))))
set_option maxHeartbeats 4000000 in
set_option maxRecDepth 100000 in
theorem X9_setOld_go (K : KE) (l : Launch) (a : Nat → Nat) (WC : va_W) {p : Program} {e : Env} {s : State} {m : MethodId} {args : Array Value} {below : List Frame} {meth : Method} {c : Code} (X : CX p s m args c K.1 vwCl (kT K) (va_A WC s.heap.size) cX9_setOld 4 wsX9_setOld RX9) (hr : meth.sig.returnType = (some .int)) (hlk : meth.locks = false) (V0 : CM) (p1 : Int) (p2 : Int) (p3 : Int) (res : Int × CM) (hf : X9_setOld V0 p1 p2 p3 = some res) : GO p l e rmX9_setOld s m args below meth c K.1 vwCl (va_A WC s.heap.size) (MQ below (QC K.1 vwCl (some (ii res.1)) WC (c9 K a res.2) s.heap.size) args s 0 0 (va_A WC s.heap.size)) 4 0 0 0 [(0, .ref (a 0)), (1, ii p1), (2, ii p2), (3, ii p3)] [] (c9 K a V0) := by
  rw [X9_setOld] at hf
  refine g_iload_n X dX9_setOld_0 1 rfl rfl ?_
  obtain ⟨v1, hc2, hf⟩ := Option.bind_eq_some_iff.mp hf
  refine g_callS X (As := [ii p1]) (st := []) (st1 := [ii v1]) (ws' := c9 K a V0) (X9_isOld_ok K l p1 v1 hc2) gX9_setOld_X9_isOld rfl 1 (by decide +kernel) ⟨rfl, rfl⟩ ⟨Nat.le_of_ble_eq_true rfl, Nat.le_of_ble_eq_true rfl⟩ ⟨Nat.zero_le _, Nat.zero_le _⟩ rfl rfl (Nat.le_of_ble_eq_true rfl) dX9_setOld_1 SG.none rfl ?_
  refine g_if_eq X hf 25 dX9_setOld_4 (by decide) (fun hf => ?_) (fun hf => ?_)
  · refine g_aload_n X dX9_setOld_25 0 rfl rfl ?_
    refine g_bipush X dX9_setOld_26 (by decide +kernel) ?_
    obtain ⟨w3, hc4, hf⟩ := Option.bind_eq_some_iff.mp hf
    refine g_callV X (As := [ii (-2)]) (st := []) (st1 := [ii w3.1]) (ws' := c9 K a w3.2) (X9_refuse_ok K l a V0 (-2) w3 hc4) gX9_setOld_X9_refuse rfl 1 (by decide +kernel) ⟨rfl, rfl⟩ ⟨Nat.le_of_ble_eq_true rfl, Nat.le_of_ble_eq_true rfl⟩ ⟨Nat.zero_le _, Nat.zero_le _⟩ 0 rfl rfl rfl rfl (Nat.le_of_ble_eq_true rfl) dX9_setOld_28 (SG.all rfl) rfl ?_
    cases hf
    exact g_iret X hr hlk dX9_setOld_31
  · refine g_iload_n X dX9_setOld_7 2 rfl rfl ?_
    refine g_iconst X dX9_setOld_8 ?_
    refine g_iconst X dX9_setOld_9 ?_
    obtain ⟨v5, hc6, hf⟩ := Option.bind_eq_some_iff.mp hf
    refine g_callS X (As := [ii p2, ii 0, ii 3]) (st := []) (st1 := [ii v5]) (ws' := c9 K a V0) (X9_within_ok K l p2 0 3 v5 hc6) gX9_setOld_X9_within rfl 3 (by decide +kernel) ⟨rfl, rfl⟩ ⟨Nat.le_of_ble_eq_true rfl, Nat.le_of_ble_eq_true rfl⟩ ⟨Nat.zero_le _, Nat.zero_le _⟩ rfl rfl (Nat.le_of_ble_eq_true rfl) dX9_setOld_10 SG.none rfl ?_
    refine g_if_eq X hf 25 dX9_setOld_13 (by decide) (fun hf => ?_) (fun hf => ?_)
    · refine g_aload_n X dX9_setOld_25 0 rfl rfl ?_
      refine g_bipush X dX9_setOld_26 (by decide +kernel) ?_
      obtain ⟨w7, hc8, hf⟩ := Option.bind_eq_some_iff.mp hf
      refine g_callV X (As := [ii (-2)]) (st := []) (st1 := [ii w7.1]) (ws' := c9 K a w7.2) (X9_refuse_ok K l a V0 (-2) w7 hc8) gX9_setOld_X9_refuse rfl 1 (by decide +kernel) ⟨rfl, rfl⟩ ⟨Nat.le_of_ble_eq_true rfl, Nat.le_of_ble_eq_true rfl⟩ ⟨Nat.zero_le _, Nat.zero_le _⟩ 0 rfl rfl rfl rfl (Nat.le_of_ble_eq_true rfl) dX9_setOld_28 (SG.all rfl) rfl ?_
      cases hf
      exact g_iret X hr hlk dX9_setOld_31
    · refine g_iload_n X dX9_setOld_16 3 rfl rfl ?_
      refine g_iconst X dX9_setOld_17 ?_
      refine g_iconst X dX9_setOld_18 ?_
      obtain ⟨v9, hc10, hf⟩ := Option.bind_eq_some_iff.mp hf
      refine g_callS X (As := [ii p3, ii 0, ii 1]) (st := []) (st1 := [ii v9]) (ws' := c9 K a V0) (X9_within_ok K l p3 0 1 v9 hc10) gX9_setOld_X9_within rfl 3 (by decide +kernel) ⟨rfl, rfl⟩ ⟨Nat.le_of_ble_eq_true rfl, Nat.le_of_ble_eq_true rfl⟩ ⟨Nat.zero_le _, Nat.zero_le _⟩ rfl rfl (Nat.le_of_ble_eq_true rfl) dX9_setOld_19 SG.none rfl ?_
      refine g_if_ne X hf 32 dX9_setOld_22 (by decide) (fun hf => ?_) (fun hf => ?_)
      · refine g_aload_n X dX9_setOld_25 0 rfl rfl ?_
        refine g_bipush X dX9_setOld_26 (by decide +kernel) ?_
        obtain ⟨w11, hc12, hf⟩ := Option.bind_eq_some_iff.mp hf
        refine g_callV X (As := [ii (-2)]) (st := []) (st1 := [ii w11.1]) (ws' := c9 K a w11.2) (X9_refuse_ok K l a V0 (-2) w11 hc12) gX9_setOld_X9_refuse rfl 1 (by decide +kernel) ⟨rfl, rfl⟩ ⟨Nat.le_of_ble_eq_true rfl, Nat.le_of_ble_eq_true rfl⟩ ⟨Nat.zero_le _, Nat.zero_le _⟩ 0 rfl rfl rfl rfl (Nat.le_of_ble_eq_true rfl) dX9_setOld_28 (SG.all rfl) rfl ?_
        cases hf
        exact g_iret X hr hlk dX9_setOld_31
      · refine g_aload_n X dX9_setOld_32 0 rfl rfl ?_
        refine g_aload_n X dX9_setOld_33 0 rfl rfl ?_
        refine g_get X (v := .ref (ash a 2 0)) 0 0 dX9_setOld_34 rfl rfl iw_X9_setOld_X9 (by decide) fl_X9_setOld_10 rfl ?_
        refine g_get X (v := .ref (ash (ash a 2) 1 0)) 2 0 dX9_setOld_37 rfl rfl iw_X9_setOld_X8 (by decide) fl_X9_setOld_74 rfl ?_
        refine g_iload_n X dX9_setOld_40 1 rfl rfl ?_
        refine g_iload_n X dX9_setOld_41 2 rfl rfl ?_
        refine g_iload_n X dX9_setOld_42 3 rfl rfl ?_
        obtain ⟨w13, hc14, hf⟩ := Option.bind_eq_some_iff.mp hf
        refine g_callV X (As := [.ref (ash (ash a 2) 1 0), ii p1, ii p2, ii p3]) (st := []) (st1 := [ii w13.1]) (ws' := c9 K a w13.2) (X9_changeShape_olds_ok K l a V0 p1 p2 p3 w13 hc14) gX9_setOld_X9_changeShape rfl 4 (by decide +kernel) ⟨rfl, rfl⟩ ⟨Nat.le_of_ble_eq_true rfl, Nat.le_of_ble_eq_true rfl⟩ ⟨Nat.zero_le _, Nat.zero_le _⟩ 0 rfl rfl rfl rfl (Nat.le_of_ble_eq_true rfl) dX9_setOld_43 (SG.all rfl) rfl ?_
        cases hf
        exact g_iret X hr hlk dX9_setOld_46
set_option maxHeartbeats 4000000 in
set_option maxRecDepth 100000 in
theorem X9_setOld_ok (K : KE) (l : Launch) (a : Nat → Nat) (V0 : CM) (p1 : Int) (p2 : Int) (p3 : Int) (res : Int × CM) (hf : X9_setOld V0 p1 p2 p3 = some res) : CT l K.1 vwCl (kT K) yX9_setOld wsX9_setOld rmX9_setOld [.ref (a 0), ii p1, ii p2, ii p3] (some (ii res.1)) (c9 K a V0) (c9 K a res.2) :=
  CT.mk (cc := cX9_setOld) (maxL := 4) (ret := (some .int)) (by decide) rfl (Nat.le_of_ble_eq_true rfl) (fun p e s m below meth c X hr hlk => X9_setOld_go K l a _ X hr hlk V0 p1 p2 p3 res hf)
theorem iw_X9_changeShape_news_X9 : ∀ w ∈ u_ws RX9 TX9 8, w ∈ wsX9_changeShape := by decide +kernel
theorem fl_X9_changeShape_news_19 : Cond.fieldLink RX9 19 (TX9 1).1 (TX9 1).2.1 (TX9 1).2.2.1 ∈ wsX9_changeShape := by decide +kernel
theorem fl_X9_changeShape_news_10 : Cond.fieldLink RX9 10 (TX9 0).1 (TX9 0).2.1 (TX9 0).2.2.1 ∈ wsX9_changeShape := by decide +kernel
def rmX9_changeShape_news : Room := { frames := 7, cells := 0, slots := 0, locals := 161 }
def X9_changeShape_news (V0 : CM) (p2 : Int) (p3 : Int) (p4 : Int) : Option (Int × CM) := (X2_save V0.1 V0.2.1).bind (fun v1 => (X1_arityOf 6 V0.1.2.1 p2).bind (fun v3 => (X1_putShape 6 V0.1.2.1 p2 p3 p4).bind (fun v5 => some (v3, ((V0.1.1, v5, V0.1.2.2.1, V0.1.2.2.2.1, V0.1.2.2.2.2.1, V0.1.2.2.2.2.2.1, V0.1.2.2.2.2.2.2.1, V0.1.2.2.2.2.2.2.2.1, V0.1.2.2.2.2.2.2.2.2), v1, V0.2.2.1, V0.2.2.2.1, V0.2.2.2.2.1, V0.2.2.2.2.2.1, V0.2.2.2.2.2.2.1, V0.2.2.2.2.2.2.2)))))
set_option maxHeartbeats 4000000 in
set_option maxRecDepth 100000 in
theorem X9_changeShape_news_go (K : KE) (l : Launch) (a : Nat → Nat) (WC : va_W) {p : Program} {e : Env} {s : State} {m : MethodId} {args : Array Value} {below : List Frame} {meth : Method} {c : Code} (X : CX p s m args c K.1 vwCl (kT K) (va_A WC s.heap.size) cX9_changeShape 6 wsX9_changeShape RX9) (hr : meth.sig.returnType = (some .int)) (hlk : meth.locks = false) (V0 : CM) (p2 : Int) (p3 : Int) (p4 : Int) (res : Int × CM) (hf : X9_changeShape_news V0 p2 p3 p4 = some res) : GO p l e rmX9_changeShape_news s m args below meth c K.1 vwCl (va_A WC s.heap.size) (MQ below (QC K.1 vwCl (some (ii res.1)) WC (c9 K a res.2) s.heap.size) args s 0 0 (va_A WC s.heap.size)) 6 0 0 0 [(0, .ref (a 0)), (1, .ref (ash (ash a 2) 5 0)), (2, ii p2), (3, ii p3), (4, ii p4)] [] (c9 K a V0) := by
  rw [X9_changeShape_news] at hf
  refine g_aload_n X dX9_changeShape_0 0 rfl rfl ?_
  refine g_get X (v := .ref (ash a 43 0)) 0 1 dX9_changeShape_1 rfl rfl iw_X9_changeShape_news_X9 (by decide) fl_X9_changeShape_news_19 rfl ?_
  refine g_aload_n X dX9_changeShape_4 0 rfl rfl ?_
  refine g_get X (v := .ref (ash a 2 0)) 0 0 dX9_changeShape_5 rfl rfl iw_X9_changeShape_news_X9 (by decide) fl_X9_changeShape_news_10 rfl ?_
  obtain ⟨v1, hc2, hf⟩ := Option.bind_eq_some_iff.mp hf
  refine g_callV X (As := [.ref (ash a 2 0)]) (st := []) (st1 := []) (ws' := c9 K a (V0.1, v1, V0.2.2.1, V0.2.2.2.1, V0.2.2.2.2.1, V0.2.2.2.2.2.1, V0.2.2.2.2.2.2.1, V0.2.2.2.2.2.2.2)) (X2_save_ok K l (ash a 2) (ash a 43) V0.1 V0.2.1 v1 hc2) gX9_changeShape_X2_save rfl 1 (by decide +kernel) ⟨rfl, rfl⟩ ⟨Nat.le_of_ble_eq_true rfl, Nat.le_of_ble_eq_true rfl⟩ ⟨Nat.zero_le _, Nat.zero_le _⟩ 43 rfl rfl rfl rfl (Nat.le_of_ble_eq_true rfl) dX9_changeShape_8 (SG.two ([(a 0, .inr (9, [.ref (ash a 2 0), .ref (ash a 43 0), .ref (ash a 25 0), .ref (ash a 27 0), .ref (ash a 31 0), .ref (ash a 34 0), .ref (ash a 36 0), .ref (a 1)]))] ++ ([(a 1, .inl (K.2.1, 4, .inl (arI V0.2.2.2.2.2.2.2)))])) (c3 K (ash a 25) V0.2.2.1 ++ (c6 K (ash a 27) V0.2.2.2.1 ++ (c7 K (ash a 31) V0.2.2.2.2.1 ++ (c0 K (ash a 34) V0.2.2.2.2.2.1 ++ (c5 K (ash a 36) V0.2.2.2.2.2.2.1))))) [] rfl rfl rfl) rfl ?_
  refine g_aload_n X dX9_changeShape_11 1 rfl rfl ?_
  refine g_iload_n X dX9_changeShape_12 2 rfl rfl ?_
  obtain ⟨v3, hc4, hf⟩ := Option.bind_eq_some_iff.mp hf
  refine g_callV X (As := [ii p2]) (st := []) (st1 := [ii v3]) (ws' := c9 K a (V0.1, v1, V0.2.2.1, V0.2.2.2.1, V0.2.2.2.2.1, V0.2.2.2.2.2.1, V0.2.2.2.2.2.2.1, V0.2.2.2.2.2.2.2)) (X1_arityOf_ok K l 6 (by decide) (ash (ash a 2) 5) V0.1.2.1 p2 v3 hc4) gX9_changeShape_X1_arityOf rfl 1 (by decide +kernel) ⟨rfl, rfl⟩ ⟨Nat.le_of_ble_eq_true rfl, Nat.le_of_ble_eq_true rfl⟩ ⟨Nat.zero_le _, Nat.zero_le _⟩ 7 rfl rfl rfl rfl (Nat.le_of_ble_eq_true rfl) dX9_changeShape_13 (SG.one ([(a 0, .inr (9, [.ref (ash a 2 0), .ref (ash a 43 0), .ref (ash a 25 0), .ref (ash a 27 0), .ref (ash a 31 0), .ref (ash a 34 0), .ref (ash a 36 0), .ref (a 1)]))] ++ ([(a 1, .inl (K.2.1, 4, .inl (arI V0.2.2.2.2.2.2.2)))] ++ ([(ash a 2 0, .inr (8, [.ref (ash (ash a 2) 1 0), .ref (ash (ash a 2) 5 0), .ref (ash (ash a 2) 9 0), ii V0.1.2.2.2.1, .ref (ash a 2 13), ii V0.1.2.2.2.2.2.1, .ref (ash (ash a 2) 14 0), .ref (ash (ash a 2) 18 0), .ref (ash a 2 22)]))] ++ (c1 K 6 (ash (ash a 2) 1) V0.1.1)))) (c1 K 4 (ash (ash a 2) 9) V0.1.2.2.1 ++ ([(ash a 2 13, .inl (K.2.1, 6, .inl (arI V0.1.2.2.2.2.1)))] ++ (c4 K (ash (ash a 2) 14) V0.1.2.2.2.2.2.2.1 ++ (c6 K (ash (ash a 2) 18) V0.1.2.2.2.2.2.2.2.1 ++ ([(ash a 2 22, .inl (K.2.1, 8, .inl (arI V0.1.2.2.2.2.2.2.2.2)))] ++ (c3 K (ash a 25) V0.2.2.1 ++ (c6 K (ash a 27) V0.2.2.2.1 ++ (c7 K (ash a 31) V0.2.2.2.2.1 ++ (c0 K (ash a 34) V0.2.2.2.2.2.1 ++ (c5 K (ash a 36) V0.2.2.2.2.2.2.1 ++ (c2 K (ash a 43) v1))))))))))) rfl rfl rfl) rfl ?_
  refine g_istore X (lv' := [(5, ii v3), (0, .ref (a 0)), (1, .ref (ash (ash a 2) 5 0)), (2, ii p2), (3, ii p3), (4, ii p4)]) dX9_changeShape_16 (by decide) rfl ?_
  refine g_aload_n X dX9_changeShape_18 2 rfl rfl ?_
  refine g_iload_n X dX9_changeShape_19 3 rfl rfl ?_
  refine g_iload_n X dX9_changeShape_20 4 rfl rfl ?_
  refine g_iload X dX9_changeShape_21 5 rfl ?_
  obtain ⟨v5, hc6, hf⟩ := Option.bind_eq_some_iff.mp hf
  refine g_callV X (As := [ii p2, ii p3, ii p4]) (st := []) (st1 := []) (ws' := c9 K a ((V0.1.1, v5, V0.1.2.2.1, V0.1.2.2.2.1, V0.1.2.2.2.2.1, V0.1.2.2.2.2.2.1, V0.1.2.2.2.2.2.2.1, V0.1.2.2.2.2.2.2.2.1, V0.1.2.2.2.2.2.2.2.2), v1, V0.2.2.1, V0.2.2.2.1, V0.2.2.2.2.1, V0.2.2.2.2.2.1, V0.2.2.2.2.2.2.1, V0.2.2.2.2.2.2.2)) (X1_putShape_ok K l 6 (by decide) (ash (ash a 2) 5) V0.1.2.1 p2 p3 p4 v5 hc6) gX9_changeShape_X1_putShape rfl 3 (by decide +kernel) ⟨rfl, rfl⟩ ⟨Nat.le_of_ble_eq_true rfl, Nat.le_of_ble_eq_true rfl⟩ ⟨Nat.zero_le _, Nat.zero_le _⟩ 7 rfl rfl rfl rfl (Nat.le_of_ble_eq_true rfl) dX9_changeShape_23 (SG.one ([(a 0, .inr (9, [.ref (ash a 2 0), .ref (ash a 43 0), .ref (ash a 25 0), .ref (ash a 27 0), .ref (ash a 31 0), .ref (ash a 34 0), .ref (ash a 36 0), .ref (a 1)]))] ++ ([(a 1, .inl (K.2.1, 4, .inl (arI V0.2.2.2.2.2.2.2)))] ++ ([(ash a 2 0, .inr (8, [.ref (ash (ash a 2) 1 0), .ref (ash (ash a 2) 5 0), .ref (ash (ash a 2) 9 0), ii V0.1.2.2.2.1, .ref (ash a 2 13), ii V0.1.2.2.2.2.2.1, .ref (ash (ash a 2) 14 0), .ref (ash (ash a 2) 18 0), .ref (ash a 2 22)]))] ++ (c1 K 6 (ash (ash a 2) 1) V0.1.1)))) (c1 K 4 (ash (ash a 2) 9) V0.1.2.2.1 ++ ([(ash a 2 13, .inl (K.2.1, 6, .inl (arI V0.1.2.2.2.2.1)))] ++ (c4 K (ash (ash a 2) 14) V0.1.2.2.2.2.2.2.1 ++ (c6 K (ash (ash a 2) 18) V0.1.2.2.2.2.2.2.2.1 ++ ([(ash a 2 22, .inl (K.2.1, 8, .inl (arI V0.1.2.2.2.2.2.2.2.2)))] ++ (c3 K (ash a 25) V0.2.2.1 ++ (c6 K (ash a 27) V0.2.2.2.1 ++ (c7 K (ash a 31) V0.2.2.2.2.1 ++ (c0 K (ash a 34) V0.2.2.2.2.2.1 ++ (c5 K (ash a 36) V0.2.2.2.2.2.2.1 ++ (c2 K (ash a 43) v1))))))))))) rfl rfl rfl) rfl ?_
  refine g_iload X dX9_changeShape_26 0 rfl ?_
  cases hf
  exact g_iret X hr hlk dX9_changeShape_28
set_option maxHeartbeats 4000000 in
set_option maxRecDepth 100000 in
theorem X9_changeShape_news_ok (K : KE) (l : Launch) (a : Nat → Nat) (V0 : CM) (p2 : Int) (p3 : Int) (p4 : Int) (res : Int × CM) (hf : X9_changeShape_news V0 p2 p3 p4 = some res) : CT l K.1 vwCl (kT K) yX9_changeShape wsX9_changeShape rmX9_changeShape_news [.ref (a 0), .ref (ash (ash a 2) 5 0), ii p2, ii p3, ii p4] (some (ii res.1)) (c9 K a V0) (c9 K a res.2) :=
  CT.mk (cc := cX9_changeShape) (maxL := 6) (ret := (some .int)) (by decide) rfl (Nat.le_of_ble_eq_true rfl) (fun p e s m below meth c X hr hlk => X9_changeShape_news_go K l a _ X hr hlk V0 p2 p3 p4 res hf)
theorem iw_X9_setNew_X9 : ∀ w ∈ u_ws RX9 TX9 8, w ∈ wsX9_setNew := by decide +kernel
theorem fl_X9_setNew_10 : Cond.fieldLink RX9 10 (TX9 0).1 (TX9 0).2.1 (TX9 0).2.2.1 ∈ wsX9_setNew := by decide +kernel
theorem iw_X9_setNew_X8 : ∀ w ∈ u_ws RX8 TX8 9, w ∈ wsX9_setNew := by decide +kernel
theorem fl_X9_setNew_85 : Cond.fieldLink RX9 85 (TX8 1).1 (TX8 1).2.1 (TX8 1).2.2.1 ∈ wsX9_setNew := by decide +kernel
def rmX9_setNew : Room := { frames := 8, cells := 0, slots := 0, locals := 186 }
def X9_setNew (V0 : CM) (p1 : Int) (p2 : Int) (p3 : Int) : Option (Int × CM) := (X9_isNew p1).bind (fun v1 => brEQ v1 0 ((X9_refuse V0 (-2)).bind (fun w3 => some (w3.1, w3.2))) ((X9_within p2 0 4).bind (fun v5 => brEQ v5 0 ((X9_refuse V0 (-2)).bind (fun w7 => some (w7.1, w7.2))) ((X9_within p3 0 1).bind (fun v9 => brEQ v9 0 ((X9_refuse V0 (-2)).bind (fun w11 => some (w11.1, w11.2))) ((X9_changeShape_news V0 p1 p2 p3).bind (fun w13 => some (w13.1, w13.2))))))))
set_option maxHeartbeats 4000000 in
set_option maxRecDepth 100000 in
theorem X9_setNew_go (K : KE) (l : Launch) (a : Nat → Nat) (WC : va_W) {p : Program} {e : Env} {s : State} {m : MethodId} {args : Array Value} {below : List Frame} {meth : Method} {c : Code} (X : CX p s m args c K.1 vwCl (kT K) (va_A WC s.heap.size) cX9_setNew 4 wsX9_setNew RX9) (hr : meth.sig.returnType = (some .int)) (hlk : meth.locks = false) (V0 : CM) (p1 : Int) (p2 : Int) (p3 : Int) (res : Int × CM) (hf : X9_setNew V0 p1 p2 p3 = some res) : GO p l e rmX9_setNew s m args below meth c K.1 vwCl (va_A WC s.heap.size) (MQ below (QC K.1 vwCl (some (ii res.1)) WC (c9 K a res.2) s.heap.size) args s 0 0 (va_A WC s.heap.size)) 4 0 0 0 [(0, .ref (a 0)), (1, ii p1), (2, ii p2), (3, ii p3)] [] (c9 K a V0) := by
  rw [X9_setNew] at hf
  refine g_iload_n X dX9_setNew_0 1 rfl rfl ?_
  obtain ⟨v1, hc2, hf⟩ := Option.bind_eq_some_iff.mp hf
  refine g_callS X (As := [ii p1]) (st := []) (st1 := [ii v1]) (ws' := c9 K a V0) (X9_isNew_ok K l p1 v1 hc2) gX9_setNew_X9_isNew rfl 1 (by decide +kernel) ⟨rfl, rfl⟩ ⟨Nat.le_of_ble_eq_true rfl, Nat.le_of_ble_eq_true rfl⟩ ⟨Nat.zero_le _, Nat.zero_le _⟩ rfl rfl (Nat.le_of_ble_eq_true rfl) dX9_setNew_1 SG.none rfl ?_
  refine g_if_eq X hf 25 dX9_setNew_4 (by decide) (fun hf => ?_) (fun hf => ?_)
  · refine g_aload_n X dX9_setNew_25 0 rfl rfl ?_
    refine g_bipush X dX9_setNew_26 (by decide +kernel) ?_
    obtain ⟨w3, hc4, hf⟩ := Option.bind_eq_some_iff.mp hf
    refine g_callV X (As := [ii (-2)]) (st := []) (st1 := [ii w3.1]) (ws' := c9 K a w3.2) (X9_refuse_ok K l a V0 (-2) w3 hc4) gX9_setNew_X9_refuse rfl 1 (by decide +kernel) ⟨rfl, rfl⟩ ⟨Nat.le_of_ble_eq_true rfl, Nat.le_of_ble_eq_true rfl⟩ ⟨Nat.zero_le _, Nat.zero_le _⟩ 0 rfl rfl rfl rfl (Nat.le_of_ble_eq_true rfl) dX9_setNew_28 (SG.all rfl) rfl ?_
    cases hf
    exact g_iret X hr hlk dX9_setNew_31
  · refine g_iload_n X dX9_setNew_7 2 rfl rfl ?_
    refine g_iconst X dX9_setNew_8 ?_
    refine g_iconst X dX9_setNew_9 ?_
    obtain ⟨v5, hc6, hf⟩ := Option.bind_eq_some_iff.mp hf
    refine g_callS X (As := [ii p2, ii 0, ii 4]) (st := []) (st1 := [ii v5]) (ws' := c9 K a V0) (X9_within_ok K l p2 0 4 v5 hc6) gX9_setNew_X9_within rfl 3 (by decide +kernel) ⟨rfl, rfl⟩ ⟨Nat.le_of_ble_eq_true rfl, Nat.le_of_ble_eq_true rfl⟩ ⟨Nat.zero_le _, Nat.zero_le _⟩ rfl rfl (Nat.le_of_ble_eq_true rfl) dX9_setNew_10 SG.none rfl ?_
    refine g_if_eq X hf 25 dX9_setNew_13 (by decide) (fun hf => ?_) (fun hf => ?_)
    · refine g_aload_n X dX9_setNew_25 0 rfl rfl ?_
      refine g_bipush X dX9_setNew_26 (by decide +kernel) ?_
      obtain ⟨w7, hc8, hf⟩ := Option.bind_eq_some_iff.mp hf
      refine g_callV X (As := [ii (-2)]) (st := []) (st1 := [ii w7.1]) (ws' := c9 K a w7.2) (X9_refuse_ok K l a V0 (-2) w7 hc8) gX9_setNew_X9_refuse rfl 1 (by decide +kernel) ⟨rfl, rfl⟩ ⟨Nat.le_of_ble_eq_true rfl, Nat.le_of_ble_eq_true rfl⟩ ⟨Nat.zero_le _, Nat.zero_le _⟩ 0 rfl rfl rfl rfl (Nat.le_of_ble_eq_true rfl) dX9_setNew_28 (SG.all rfl) rfl ?_
      cases hf
      exact g_iret X hr hlk dX9_setNew_31
    · refine g_iload_n X dX9_setNew_16 3 rfl rfl ?_
      refine g_iconst X dX9_setNew_17 ?_
      refine g_iconst X dX9_setNew_18 ?_
      obtain ⟨v9, hc10, hf⟩ := Option.bind_eq_some_iff.mp hf
      refine g_callS X (As := [ii p3, ii 0, ii 1]) (st := []) (st1 := [ii v9]) (ws' := c9 K a V0) (X9_within_ok K l p3 0 1 v9 hc10) gX9_setNew_X9_within rfl 3 (by decide +kernel) ⟨rfl, rfl⟩ ⟨Nat.le_of_ble_eq_true rfl, Nat.le_of_ble_eq_true rfl⟩ ⟨Nat.zero_le _, Nat.zero_le _⟩ rfl rfl (Nat.le_of_ble_eq_true rfl) dX9_setNew_19 SG.none rfl ?_
      refine g_if_ne X hf 32 dX9_setNew_22 (by decide) (fun hf => ?_) (fun hf => ?_)
      · refine g_aload_n X dX9_setNew_25 0 rfl rfl ?_
        refine g_bipush X dX9_setNew_26 (by decide +kernel) ?_
        obtain ⟨w11, hc12, hf⟩ := Option.bind_eq_some_iff.mp hf
        refine g_callV X (As := [ii (-2)]) (st := []) (st1 := [ii w11.1]) (ws' := c9 K a w11.2) (X9_refuse_ok K l a V0 (-2) w11 hc12) gX9_setNew_X9_refuse rfl 1 (by decide +kernel) ⟨rfl, rfl⟩ ⟨Nat.le_of_ble_eq_true rfl, Nat.le_of_ble_eq_true rfl⟩ ⟨Nat.zero_le _, Nat.zero_le _⟩ 0 rfl rfl rfl rfl (Nat.le_of_ble_eq_true rfl) dX9_setNew_28 (SG.all rfl) rfl ?_
        cases hf
        exact g_iret X hr hlk dX9_setNew_31
      · refine g_aload_n X dX9_setNew_32 0 rfl rfl ?_
        refine g_aload_n X dX9_setNew_33 0 rfl rfl ?_
        refine g_get X (v := .ref (ash a 2 0)) 0 0 dX9_setNew_34 rfl rfl iw_X9_setNew_X9 (by decide) fl_X9_setNew_10 rfl ?_
        refine g_get X (v := .ref (ash (ash a 2) 5 0)) 2 1 dX9_setNew_37 rfl rfl iw_X9_setNew_X8 (by decide) fl_X9_setNew_85 rfl ?_
        refine g_iload_n X dX9_setNew_40 1 rfl rfl ?_
        refine g_iload_n X dX9_setNew_41 2 rfl rfl ?_
        refine g_iload_n X dX9_setNew_42 3 rfl rfl ?_
        obtain ⟨w13, hc14, hf⟩ := Option.bind_eq_some_iff.mp hf
        refine g_callV X (As := [.ref (ash (ash a 2) 5 0), ii p1, ii p2, ii p3]) (st := []) (st1 := [ii w13.1]) (ws' := c9 K a w13.2) (X9_changeShape_news_ok K l a V0 p1 p2 p3 w13 hc14) gX9_setNew_X9_changeShape rfl 4 (by decide +kernel) ⟨rfl, rfl⟩ ⟨Nat.le_of_ble_eq_true rfl, Nat.le_of_ble_eq_true rfl⟩ ⟨Nat.zero_le _, Nat.zero_le _⟩ 0 rfl rfl rfl rfl (Nat.le_of_ble_eq_true rfl) dX9_setNew_43 (SG.all rfl) rfl ?_
        cases hf
        exact g_iret X hr hlk dX9_setNew_46
set_option maxHeartbeats 4000000 in
set_option maxRecDepth 100000 in
theorem X9_setNew_ok (K : KE) (l : Launch) (a : Nat → Nat) (V0 : CM) (p1 : Int) (p2 : Int) (p3 : Int) (res : Int × CM) (hf : X9_setNew V0 p1 p2 p3 = some res) : CT l K.1 vwCl (kT K) yX9_setNew wsX9_setNew rmX9_setNew [.ref (a 0), ii p1, ii p2, ii p3] (some (ii res.1)) (c9 K a V0) (c9 K a res.2) :=
  CT.mk (cc := cX9_setNew) (maxL := 4) (ret := (some .int)) (by decide) rfl (Nat.le_of_ble_eq_true rfl) (fun p e s m below meth c X hr hlk => X9_setNew_go K l a _ X hr hlk V0 p1 p2 p3 res hf)
theorem iw_X9_changeTerm_olds_X9 : ∀ w ∈ u_ws RX9 TX9 8, w ∈ wsX9_changeTerm := by decide +kernel
theorem fl_X9_changeTerm_olds_19 : Cond.fieldLink RX9 19 (TX9 1).1 (TX9 1).2.1 (TX9 1).2.2.1 ∈ wsX9_changeTerm := by decide +kernel
theorem fl_X9_changeTerm_olds_10 : Cond.fieldLink RX9 10 (TX9 0).1 (TX9 0).2.1 (TX9 0).2.2.1 ∈ wsX9_changeTerm := by decide +kernel
def rmX9_changeTerm_olds : Room := { frames := 7, cells := 0, slots := 0, locals := 161 }
def X9_changeTerm_olds (V0 : CM) (p2 : Int) (p3 : Int) (p4 : Int) : Option (Int × CM) := (X2_save V0.1 V0.2.1).bind (fun v1 => (X1_term 6 V0.1.1 p2 p3).bind (fun v3 => (X1_putTerm 6 V0.1.1 p2 p3 p4).bind (fun v5 => some (v3, ((v5, V0.1.2.1, V0.1.2.2.1, V0.1.2.2.2.1, V0.1.2.2.2.2.1, V0.1.2.2.2.2.2.1, V0.1.2.2.2.2.2.2.1, V0.1.2.2.2.2.2.2.2.1, V0.1.2.2.2.2.2.2.2.2), v1, V0.2.2.1, V0.2.2.2.1, V0.2.2.2.2.1, V0.2.2.2.2.2.1, V0.2.2.2.2.2.2.1, V0.2.2.2.2.2.2.2)))))
set_option maxHeartbeats 4000000 in
set_option maxRecDepth 100000 in
theorem X9_changeTerm_olds_go (K : KE) (l : Launch) (a : Nat → Nat) (WC : va_W) {p : Program} {e : Env} {s : State} {m : MethodId} {args : Array Value} {below : List Frame} {meth : Method} {c : Code} (X : CX p s m args c K.1 vwCl (kT K) (va_A WC s.heap.size) cX9_changeTerm 6 wsX9_changeTerm RX9) (hr : meth.sig.returnType = (some .int)) (hlk : meth.locks = false) (V0 : CM) (p2 : Int) (p3 : Int) (p4 : Int) (res : Int × CM) (hf : X9_changeTerm_olds V0 p2 p3 p4 = some res) : GO p l e rmX9_changeTerm_olds s m args below meth c K.1 vwCl (va_A WC s.heap.size) (MQ below (QC K.1 vwCl (some (ii res.1)) WC (c9 K a res.2) s.heap.size) args s 0 0 (va_A WC s.heap.size)) 6 0 0 0 [(0, .ref (a 0)), (1, .ref (ash (ash a 2) 1 0)), (2, ii p2), (3, ii p3), (4, ii p4)] [] (c9 K a V0) := by
  rw [X9_changeTerm_olds] at hf
  refine g_aload_n X dX9_changeTerm_0 0 rfl rfl ?_
  refine g_get X (v := .ref (ash a 43 0)) 0 1 dX9_changeTerm_1 rfl rfl iw_X9_changeTerm_olds_X9 (by decide) fl_X9_changeTerm_olds_19 rfl ?_
  refine g_aload_n X dX9_changeTerm_4 0 rfl rfl ?_
  refine g_get X (v := .ref (ash a 2 0)) 0 0 dX9_changeTerm_5 rfl rfl iw_X9_changeTerm_olds_X9 (by decide) fl_X9_changeTerm_olds_10 rfl ?_
  obtain ⟨v1, hc2, hf⟩ := Option.bind_eq_some_iff.mp hf
  refine g_callV X (As := [.ref (ash a 2 0)]) (st := []) (st1 := []) (ws' := c9 K a (V0.1, v1, V0.2.2.1, V0.2.2.2.1, V0.2.2.2.2.1, V0.2.2.2.2.2.1, V0.2.2.2.2.2.2.1, V0.2.2.2.2.2.2.2)) (X2_save_ok K l (ash a 2) (ash a 43) V0.1 V0.2.1 v1 hc2) gX9_changeTerm_X2_save rfl 1 (by decide +kernel) ⟨rfl, rfl⟩ ⟨Nat.le_of_ble_eq_true rfl, Nat.le_of_ble_eq_true rfl⟩ ⟨Nat.zero_le _, Nat.zero_le _⟩ 43 rfl rfl rfl rfl (Nat.le_of_ble_eq_true rfl) dX9_changeTerm_8 (SG.two ([(a 0, .inr (9, [.ref (ash a 2 0), .ref (ash a 43 0), .ref (ash a 25 0), .ref (ash a 27 0), .ref (ash a 31 0), .ref (ash a 34 0), .ref (ash a 36 0), .ref (a 1)]))] ++ ([(a 1, .inl (K.2.1, 4, .inl (arI V0.2.2.2.2.2.2.2)))])) (c3 K (ash a 25) V0.2.2.1 ++ (c6 K (ash a 27) V0.2.2.2.1 ++ (c7 K (ash a 31) V0.2.2.2.2.1 ++ (c0 K (ash a 34) V0.2.2.2.2.2.1 ++ (c5 K (ash a 36) V0.2.2.2.2.2.2.1))))) [] rfl rfl rfl) rfl ?_
  refine g_aload_n X dX9_changeTerm_11 1 rfl rfl ?_
  refine g_iload_n X dX9_changeTerm_12 2 rfl rfl ?_
  refine g_iload_n X dX9_changeTerm_13 3 rfl rfl ?_
  obtain ⟨v3, hc4, hf⟩ := Option.bind_eq_some_iff.mp hf
  refine g_callV X (As := [ii p2, ii p3]) (st := []) (st1 := [ii v3]) (ws' := c9 K a (V0.1, v1, V0.2.2.1, V0.2.2.2.1, V0.2.2.2.2.1, V0.2.2.2.2.2.1, V0.2.2.2.2.2.2.1, V0.2.2.2.2.2.2.2)) (X1_term_ok K l 6 (by decide) (ash (ash a 2) 1) V0.1.1 p2 p3 v3 hc4) gX9_changeTerm_X1_term rfl 2 (by decide +kernel) ⟨rfl, rfl⟩ ⟨Nat.le_of_ble_eq_true rfl, Nat.le_of_ble_eq_true rfl⟩ ⟨Nat.zero_le _, Nat.zero_le _⟩ 3 rfl rfl rfl rfl (Nat.le_of_ble_eq_true rfl) dX9_changeTerm_14 (SG.one ([(a 0, .inr (9, [.ref (ash a 2 0), .ref (ash a 43 0), .ref (ash a 25 0), .ref (ash a 27 0), .ref (ash a 31 0), .ref (ash a 34 0), .ref (ash a 36 0), .ref (a 1)]))] ++ ([(a 1, .inl (K.2.1, 4, .inl (arI V0.2.2.2.2.2.2.2)))] ++ ([(ash a 2 0, .inr (8, [.ref (ash (ash a 2) 1 0), .ref (ash (ash a 2) 5 0), .ref (ash (ash a 2) 9 0), ii V0.1.2.2.2.1, .ref (ash a 2 13), ii V0.1.2.2.2.2.2.1, .ref (ash (ash a 2) 14 0), .ref (ash (ash a 2) 18 0), .ref (ash a 2 22)]))]))) (c1 K 6 (ash (ash a 2) 5) V0.1.2.1 ++ (c1 K 4 (ash (ash a 2) 9) V0.1.2.2.1 ++ ([(ash a 2 13, .inl (K.2.1, 6, .inl (arI V0.1.2.2.2.2.1)))] ++ (c4 K (ash (ash a 2) 14) V0.1.2.2.2.2.2.2.1 ++ (c6 K (ash (ash a 2) 18) V0.1.2.2.2.2.2.2.2.1 ++ ([(ash a 2 22, .inl (K.2.1, 8, .inl (arI V0.1.2.2.2.2.2.2.2.2)))] ++ (c3 K (ash a 25) V0.2.2.1 ++ (c6 K (ash a 27) V0.2.2.2.1 ++ (c7 K (ash a 31) V0.2.2.2.2.1 ++ (c0 K (ash a 34) V0.2.2.2.2.2.1 ++ (c5 K (ash a 36) V0.2.2.2.2.2.2.1 ++ (c2 K (ash a 43) v1)))))))))))) rfl rfl rfl) rfl ?_
  refine g_istore X (lv' := [(5, ii v3), (0, .ref (a 0)), (1, .ref (ash (ash a 2) 1 0)), (2, ii p2), (3, ii p3), (4, ii p4)]) dX9_changeTerm_17 (by decide) rfl ?_
  refine g_aload_n X dX9_changeTerm_19 2 rfl rfl ?_
  refine g_iload_n X dX9_changeTerm_20 3 rfl rfl ?_
  refine g_iload_n X dX9_changeTerm_21 4 rfl rfl ?_
  refine g_iload X dX9_changeTerm_22 5 rfl ?_
  obtain ⟨v5, hc6, hf⟩ := Option.bind_eq_some_iff.mp hf
  refine g_callV X (As := [ii p2, ii p3, ii p4]) (st := []) (st1 := []) (ws' := c9 K a ((v5, V0.1.2.1, V0.1.2.2.1, V0.1.2.2.2.1, V0.1.2.2.2.2.1, V0.1.2.2.2.2.2.1, V0.1.2.2.2.2.2.2.1, V0.1.2.2.2.2.2.2.2.1, V0.1.2.2.2.2.2.2.2.2), v1, V0.2.2.1, V0.2.2.2.1, V0.2.2.2.2.1, V0.2.2.2.2.2.1, V0.2.2.2.2.2.2.1, V0.2.2.2.2.2.2.2)) (X1_putTerm_ok K l 6 (by decide) (ash (ash a 2) 1) V0.1.1 p2 p3 p4 v5 hc6) gX9_changeTerm_X1_putTerm rfl 3 (by decide +kernel) ⟨rfl, rfl⟩ ⟨Nat.le_of_ble_eq_true rfl, Nat.le_of_ble_eq_true rfl⟩ ⟨Nat.zero_le _, Nat.zero_le _⟩ 3 rfl rfl rfl rfl (Nat.le_of_ble_eq_true rfl) dX9_changeTerm_24 (SG.one ([(a 0, .inr (9, [.ref (ash a 2 0), .ref (ash a 43 0), .ref (ash a 25 0), .ref (ash a 27 0), .ref (ash a 31 0), .ref (ash a 34 0), .ref (ash a 36 0), .ref (a 1)]))] ++ ([(a 1, .inl (K.2.1, 4, .inl (arI V0.2.2.2.2.2.2.2)))] ++ ([(ash a 2 0, .inr (8, [.ref (ash (ash a 2) 1 0), .ref (ash (ash a 2) 5 0), .ref (ash (ash a 2) 9 0), ii V0.1.2.2.2.1, .ref (ash a 2 13), ii V0.1.2.2.2.2.2.1, .ref (ash (ash a 2) 14 0), .ref (ash (ash a 2) 18 0), .ref (ash a 2 22)]))]))) (c1 K 6 (ash (ash a 2) 5) V0.1.2.1 ++ (c1 K 4 (ash (ash a 2) 9) V0.1.2.2.1 ++ ([(ash a 2 13, .inl (K.2.1, 6, .inl (arI V0.1.2.2.2.2.1)))] ++ (c4 K (ash (ash a 2) 14) V0.1.2.2.2.2.2.2.1 ++ (c6 K (ash (ash a 2) 18) V0.1.2.2.2.2.2.2.2.1 ++ ([(ash a 2 22, .inl (K.2.1, 8, .inl (arI V0.1.2.2.2.2.2.2.2.2)))] ++ (c3 K (ash a 25) V0.2.2.1 ++ (c6 K (ash a 27) V0.2.2.2.1 ++ (c7 K (ash a 31) V0.2.2.2.2.1 ++ (c0 K (ash a 34) V0.2.2.2.2.2.1 ++ (c5 K (ash a 36) V0.2.2.2.2.2.2.1 ++ (c2 K (ash a 43) v1)))))))))))) rfl rfl rfl) rfl ?_
  refine g_iload X dX9_changeTerm_27 0 rfl ?_
  cases hf
  exact g_iret X hr hlk dX9_changeTerm_29
set_option maxHeartbeats 4000000 in
set_option maxRecDepth 100000 in
theorem X9_changeTerm_olds_ok (K : KE) (l : Launch) (a : Nat → Nat) (V0 : CM) (p2 : Int) (p3 : Int) (p4 : Int) (res : Int × CM) (hf : X9_changeTerm_olds V0 p2 p3 p4 = some res) : CT l K.1 vwCl (kT K) yX9_changeTerm wsX9_changeTerm rmX9_changeTerm_olds [.ref (a 0), .ref (ash (ash a 2) 1 0), ii p2, ii p3, ii p4] (some (ii res.1)) (c9 K a V0) (c9 K a res.2) :=
  CT.mk (cc := cX9_changeTerm) (maxL := 6) (ret := (some .int)) (by decide) rfl (Nat.le_of_ble_eq_true rfl) (fun p e s m below meth c X hr hlk => X9_changeTerm_olds_go K l a _ X hr hlk V0 p2 p3 p4 res hf)
theorem iw_X9_setOldTerm_X9 : ∀ w ∈ u_ws RX9 TX9 8, w ∈ wsX9_setOldTerm := by decide +kernel
theorem fl_X9_setOldTerm_10 : Cond.fieldLink RX9 10 (TX9 0).1 (TX9 0).2.1 (TX9 0).2.2.1 ∈ wsX9_setOldTerm := by decide +kernel
theorem iw_X9_setOldTerm_X8 : ∀ w ∈ u_ws RX8 TX8 9, w ∈ wsX9_setOldTerm := by decide +kernel
theorem fl_X9_setOldTerm_74 : Cond.fieldLink RX9 74 (TX8 0).1 (TX8 0).2.1 (TX8 0).2.2.1 ∈ wsX9_setOldTerm := by decide +kernel
def rmX9_setOldTerm : Room := { frames := 8, cells := 0, slots := 0, locals := 186 }
def X9_setOldTerm (V0 : CM) (p1 : Int) (p2 : Int) (p3 : Int) : Option (Int × CM) := (X9_isOld p1).bind (fun v1 => brEQ v1 0 ((X9_refuse V0 (-2)).bind (fun w3 => some (w3.1, w3.2))) ((X9_isTermPosition p2).bind (fun v5 => brEQ v5 0 ((X9_refuse V0 (-2)).bind (fun w7 => some (w7.1, w7.2))) ((X9_within p3 0 99).bind (fun v9 => brEQ v9 0 ((X9_refuse V0 (-2)).bind (fun w11 => some (w11.1, w11.2))) ((X9_changeTerm_olds V0 p1 p2 p3).bind (fun w13 => some (w13.1, w13.2))))))))
set_option maxHeartbeats 4000000 in
set_option maxRecDepth 100000 in
theorem X9_setOldTerm_go (K : KE) (l : Launch) (a : Nat → Nat) (WC : va_W) {p : Program} {e : Env} {s : State} {m : MethodId} {args : Array Value} {below : List Frame} {meth : Method} {c : Code} (X : CX p s m args c K.1 vwCl (kT K) (va_A WC s.heap.size) cX9_setOldTerm 4 wsX9_setOldTerm RX9) (hr : meth.sig.returnType = (some .int)) (hlk : meth.locks = false) (V0 : CM) (p1 : Int) (p2 : Int) (p3 : Int) (res : Int × CM) (hf : X9_setOldTerm V0 p1 p2 p3 = some res) : GO p l e rmX9_setOldTerm s m args below meth c K.1 vwCl (va_A WC s.heap.size) (MQ below (QC K.1 vwCl (some (ii res.1)) WC (c9 K a res.2) s.heap.size) args s 0 0 (va_A WC s.heap.size)) 4 0 0 0 [(0, .ref (a 0)), (1, ii p1), (2, ii p2), (3, ii p3)] [] (c9 K a V0) := by
  rw [X9_setOldTerm] at hf
  refine g_iload_n X dX9_setOldTerm_0 1 rfl rfl ?_
  obtain ⟨v1, hc2, hf⟩ := Option.bind_eq_some_iff.mp hf
  refine g_callS X (As := [ii p1]) (st := []) (st1 := [ii v1]) (ws' := c9 K a V0) (X9_isOld_ok K l p1 v1 hc2) gX9_setOldTerm_X9_isOld rfl 1 (by decide +kernel) ⟨rfl, rfl⟩ ⟨Nat.le_of_ble_eq_true rfl, Nat.le_of_ble_eq_true rfl⟩ ⟨Nat.zero_le _, Nat.zero_le _⟩ rfl rfl (Nat.le_of_ble_eq_true rfl) dX9_setOldTerm_1 SG.none rfl ?_
  refine g_if_eq X hf 24 dX9_setOldTerm_4 (by decide) (fun hf => ?_) (fun hf => ?_)
  · refine g_aload_n X dX9_setOldTerm_24 0 rfl rfl ?_
    refine g_bipush X dX9_setOldTerm_25 (by decide +kernel) ?_
    obtain ⟨w3, hc4, hf⟩ := Option.bind_eq_some_iff.mp hf
    refine g_callV X (As := [ii (-2)]) (st := []) (st1 := [ii w3.1]) (ws' := c9 K a w3.2) (X9_refuse_ok K l a V0 (-2) w3 hc4) gX9_setOldTerm_X9_refuse rfl 1 (by decide +kernel) ⟨rfl, rfl⟩ ⟨Nat.le_of_ble_eq_true rfl, Nat.le_of_ble_eq_true rfl⟩ ⟨Nat.zero_le _, Nat.zero_le _⟩ 0 rfl rfl rfl rfl (Nat.le_of_ble_eq_true rfl) dX9_setOldTerm_27 (SG.all rfl) rfl ?_
    cases hf
    exact g_iret X hr hlk dX9_setOldTerm_30
  · refine g_iload_n X dX9_setOldTerm_7 2 rfl rfl ?_
    obtain ⟨v5, hc6, hf⟩ := Option.bind_eq_some_iff.mp hf
    refine g_callS X (As := [ii p2]) (st := []) (st1 := [ii v5]) (ws' := c9 K a V0) (X9_isTermPosition_ok K l p2 v5 hc6) gX9_setOldTerm_X9_isTermPosition rfl 1 (by decide +kernel) ⟨rfl, rfl⟩ ⟨Nat.le_of_ble_eq_true rfl, Nat.le_of_ble_eq_true rfl⟩ ⟨Nat.zero_le _, Nat.zero_le _⟩ rfl rfl (Nat.le_of_ble_eq_true rfl) dX9_setOldTerm_8 SG.none rfl ?_
    refine g_if_eq X hf 24 dX9_setOldTerm_11 (by decide) (fun hf => ?_) (fun hf => ?_)
    · refine g_aload_n X dX9_setOldTerm_24 0 rfl rfl ?_
      refine g_bipush X dX9_setOldTerm_25 (by decide +kernel) ?_
      obtain ⟨w7, hc8, hf⟩ := Option.bind_eq_some_iff.mp hf
      refine g_callV X (As := [ii (-2)]) (st := []) (st1 := [ii w7.1]) (ws' := c9 K a w7.2) (X9_refuse_ok K l a V0 (-2) w7 hc8) gX9_setOldTerm_X9_refuse rfl 1 (by decide +kernel) ⟨rfl, rfl⟩ ⟨Nat.le_of_ble_eq_true rfl, Nat.le_of_ble_eq_true rfl⟩ ⟨Nat.zero_le _, Nat.zero_le _⟩ 0 rfl rfl rfl rfl (Nat.le_of_ble_eq_true rfl) dX9_setOldTerm_27 (SG.all rfl) rfl ?_
      cases hf
      exact g_iret X hr hlk dX9_setOldTerm_30
    · refine g_iload_n X dX9_setOldTerm_14 3 rfl rfl ?_
      refine g_iconst X dX9_setOldTerm_15 ?_
      refine g_bipush X dX9_setOldTerm_16 (by decide +kernel) ?_
      obtain ⟨v9, hc10, hf⟩ := Option.bind_eq_some_iff.mp hf
      refine g_callS X (As := [ii p3, ii 0, ii 99]) (st := []) (st1 := [ii v9]) (ws' := c9 K a V0) (X9_within_ok K l p3 0 99 v9 hc10) gX9_setOldTerm_X9_within rfl 3 (by decide +kernel) ⟨rfl, rfl⟩ ⟨Nat.le_of_ble_eq_true rfl, Nat.le_of_ble_eq_true rfl⟩ ⟨Nat.zero_le _, Nat.zero_le _⟩ rfl rfl (Nat.le_of_ble_eq_true rfl) dX9_setOldTerm_18 SG.none rfl ?_
      refine g_if_ne X hf 31 dX9_setOldTerm_21 (by decide) (fun hf => ?_) (fun hf => ?_)
      · refine g_aload_n X dX9_setOldTerm_24 0 rfl rfl ?_
        refine g_bipush X dX9_setOldTerm_25 (by decide +kernel) ?_
        obtain ⟨w11, hc12, hf⟩ := Option.bind_eq_some_iff.mp hf
        refine g_callV X (As := [ii (-2)]) (st := []) (st1 := [ii w11.1]) (ws' := c9 K a w11.2) (X9_refuse_ok K l a V0 (-2) w11 hc12) gX9_setOldTerm_X9_refuse rfl 1 (by decide +kernel) ⟨rfl, rfl⟩ ⟨Nat.le_of_ble_eq_true rfl, Nat.le_of_ble_eq_true rfl⟩ ⟨Nat.zero_le _, Nat.zero_le _⟩ 0 rfl rfl rfl rfl (Nat.le_of_ble_eq_true rfl) dX9_setOldTerm_27 (SG.all rfl) rfl ?_
        cases hf
        exact g_iret X hr hlk dX9_setOldTerm_30
      · refine g_aload_n X dX9_setOldTerm_31 0 rfl rfl ?_
        refine g_aload_n X dX9_setOldTerm_32 0 rfl rfl ?_
        refine g_get X (v := .ref (ash a 2 0)) 0 0 dX9_setOldTerm_33 rfl rfl iw_X9_setOldTerm_X9 (by decide) fl_X9_setOldTerm_10 rfl ?_
        refine g_get X (v := .ref (ash (ash a 2) 1 0)) 2 0 dX9_setOldTerm_36 rfl rfl iw_X9_setOldTerm_X8 (by decide) fl_X9_setOldTerm_74 rfl ?_
        refine g_iload_n X dX9_setOldTerm_39 1 rfl rfl ?_
        refine g_iload_n X dX9_setOldTerm_40 2 rfl rfl ?_
        refine g_iload_n X dX9_setOldTerm_41 3 rfl rfl ?_
        obtain ⟨w13, hc14, hf⟩ := Option.bind_eq_some_iff.mp hf
        refine g_callV X (As := [.ref (ash (ash a 2) 1 0), ii p1, ii p2, ii p3]) (st := []) (st1 := [ii w13.1]) (ws' := c9 K a w13.2) (X9_changeTerm_olds_ok K l a V0 p1 p2 p3 w13 hc14) gX9_setOldTerm_X9_changeTerm rfl 4 (by decide +kernel) ⟨rfl, rfl⟩ ⟨Nat.le_of_ble_eq_true rfl, Nat.le_of_ble_eq_true rfl⟩ ⟨Nat.zero_le _, Nat.zero_le _⟩ 0 rfl rfl rfl rfl (Nat.le_of_ble_eq_true rfl) dX9_setOldTerm_42 (SG.all rfl) rfl ?_
        cases hf
        exact g_iret X hr hlk dX9_setOldTerm_45
set_option maxHeartbeats 4000000 in
set_option maxRecDepth 100000 in
theorem X9_setOldTerm_ok (K : KE) (l : Launch) (a : Nat → Nat) (V0 : CM) (p1 : Int) (p2 : Int) (p3 : Int) (res : Int × CM) (hf : X9_setOldTerm V0 p1 p2 p3 = some res) : CT l K.1 vwCl (kT K) yX9_setOldTerm wsX9_setOldTerm rmX9_setOldTerm [.ref (a 0), ii p1, ii p2, ii p3] (some (ii res.1)) (c9 K a V0) (c9 K a res.2) :=
  CT.mk (cc := cX9_setOldTerm) (maxL := 4) (ret := (some .int)) (by decide) rfl (Nat.le_of_ble_eq_true rfl) (fun p e s m below meth c X hr hlk => X9_setOldTerm_go K l a _ X hr hlk V0 p1 p2 p3 res hf)
theorem iw_X9_changeTerm_news_X9 : ∀ w ∈ u_ws RX9 TX9 8, w ∈ wsX9_changeTerm := by decide +kernel
theorem fl_X9_changeTerm_news_19 : Cond.fieldLink RX9 19 (TX9 1).1 (TX9 1).2.1 (TX9 1).2.2.1 ∈ wsX9_changeTerm := by decide +kernel
theorem fl_X9_changeTerm_news_10 : Cond.fieldLink RX9 10 (TX9 0).1 (TX9 0).2.1 (TX9 0).2.2.1 ∈ wsX9_changeTerm := by decide +kernel
def rmX9_changeTerm_news : Room := { frames := 7, cells := 0, slots := 0, locals := 161 }
def X9_changeTerm_news (V0 : CM) (p2 : Int) (p3 : Int) (p4 : Int) : Option (Int × CM) := (X2_save V0.1 V0.2.1).bind (fun v1 => (X1_term 6 V0.1.2.1 p2 p3).bind (fun v3 => (X1_putTerm 6 V0.1.2.1 p2 p3 p4).bind (fun v5 => some (v3, ((V0.1.1, v5, V0.1.2.2.1, V0.1.2.2.2.1, V0.1.2.2.2.2.1, V0.1.2.2.2.2.2.1, V0.1.2.2.2.2.2.2.1, V0.1.2.2.2.2.2.2.2.1, V0.1.2.2.2.2.2.2.2.2), v1, V0.2.2.1, V0.2.2.2.1, V0.2.2.2.2.1, V0.2.2.2.2.2.1, V0.2.2.2.2.2.2.1, V0.2.2.2.2.2.2.2)))))
set_option maxHeartbeats 4000000 in
set_option maxRecDepth 100000 in
theorem X9_changeTerm_news_go (K : KE) (l : Launch) (a : Nat → Nat) (WC : va_W) {p : Program} {e : Env} {s : State} {m : MethodId} {args : Array Value} {below : List Frame} {meth : Method} {c : Code} (X : CX p s m args c K.1 vwCl (kT K) (va_A WC s.heap.size) cX9_changeTerm 6 wsX9_changeTerm RX9) (hr : meth.sig.returnType = (some .int)) (hlk : meth.locks = false) (V0 : CM) (p2 : Int) (p3 : Int) (p4 : Int) (res : Int × CM) (hf : X9_changeTerm_news V0 p2 p3 p4 = some res) : GO p l e rmX9_changeTerm_news s m args below meth c K.1 vwCl (va_A WC s.heap.size) (MQ below (QC K.1 vwCl (some (ii res.1)) WC (c9 K a res.2) s.heap.size) args s 0 0 (va_A WC s.heap.size)) 6 0 0 0 [(0, .ref (a 0)), (1, .ref (ash (ash a 2) 5 0)), (2, ii p2), (3, ii p3), (4, ii p4)] [] (c9 K a V0) := by
  rw [X9_changeTerm_news] at hf
  refine g_aload_n X dX9_changeTerm_0 0 rfl rfl ?_
  refine g_get X (v := .ref (ash a 43 0)) 0 1 dX9_changeTerm_1 rfl rfl iw_X9_changeTerm_news_X9 (by decide) fl_X9_changeTerm_news_19 rfl ?_
  refine g_aload_n X dX9_changeTerm_4 0 rfl rfl ?_
  refine g_get X (v := .ref (ash a 2 0)) 0 0 dX9_changeTerm_5 rfl rfl iw_X9_changeTerm_news_X9 (by decide) fl_X9_changeTerm_news_10 rfl ?_
  obtain ⟨v1, hc2, hf⟩ := Option.bind_eq_some_iff.mp hf
  refine g_callV X (As := [.ref (ash a 2 0)]) (st := []) (st1 := []) (ws' := c9 K a (V0.1, v1, V0.2.2.1, V0.2.2.2.1, V0.2.2.2.2.1, V0.2.2.2.2.2.1, V0.2.2.2.2.2.2.1, V0.2.2.2.2.2.2.2)) (X2_save_ok K l (ash a 2) (ash a 43) V0.1 V0.2.1 v1 hc2) gX9_changeTerm_X2_save rfl 1 (by decide +kernel) ⟨rfl, rfl⟩ ⟨Nat.le_of_ble_eq_true rfl, Nat.le_of_ble_eq_true rfl⟩ ⟨Nat.zero_le _, Nat.zero_le _⟩ 43 rfl rfl rfl rfl (Nat.le_of_ble_eq_true rfl) dX9_changeTerm_8 (SG.two ([(a 0, .inr (9, [.ref (ash a 2 0), .ref (ash a 43 0), .ref (ash a 25 0), .ref (ash a 27 0), .ref (ash a 31 0), .ref (ash a 34 0), .ref (ash a 36 0), .ref (a 1)]))] ++ ([(a 1, .inl (K.2.1, 4, .inl (arI V0.2.2.2.2.2.2.2)))])) (c3 K (ash a 25) V0.2.2.1 ++ (c6 K (ash a 27) V0.2.2.2.1 ++ (c7 K (ash a 31) V0.2.2.2.2.1 ++ (c0 K (ash a 34) V0.2.2.2.2.2.1 ++ (c5 K (ash a 36) V0.2.2.2.2.2.2.1))))) [] rfl rfl rfl) rfl ?_
  refine g_aload_n X dX9_changeTerm_11 1 rfl rfl ?_
  refine g_iload_n X dX9_changeTerm_12 2 rfl rfl ?_
  refine g_iload_n X dX9_changeTerm_13 3 rfl rfl ?_
  obtain ⟨v3, hc4, hf⟩ := Option.bind_eq_some_iff.mp hf
  refine g_callV X (As := [ii p2, ii p3]) (st := []) (st1 := [ii v3]) (ws' := c9 K a (V0.1, v1, V0.2.2.1, V0.2.2.2.1, V0.2.2.2.2.1, V0.2.2.2.2.2.1, V0.2.2.2.2.2.2.1, V0.2.2.2.2.2.2.2)) (X1_term_ok K l 6 (by decide) (ash (ash a 2) 5) V0.1.2.1 p2 p3 v3 hc4) gX9_changeTerm_X1_term rfl 2 (by decide +kernel) ⟨rfl, rfl⟩ ⟨Nat.le_of_ble_eq_true rfl, Nat.le_of_ble_eq_true rfl⟩ ⟨Nat.zero_le _, Nat.zero_le _⟩ 7 rfl rfl rfl rfl (Nat.le_of_ble_eq_true rfl) dX9_changeTerm_14 (SG.one ([(a 0, .inr (9, [.ref (ash a 2 0), .ref (ash a 43 0), .ref (ash a 25 0), .ref (ash a 27 0), .ref (ash a 31 0), .ref (ash a 34 0), .ref (ash a 36 0), .ref (a 1)]))] ++ ([(a 1, .inl (K.2.1, 4, .inl (arI V0.2.2.2.2.2.2.2)))] ++ ([(ash a 2 0, .inr (8, [.ref (ash (ash a 2) 1 0), .ref (ash (ash a 2) 5 0), .ref (ash (ash a 2) 9 0), ii V0.1.2.2.2.1, .ref (ash a 2 13), ii V0.1.2.2.2.2.2.1, .ref (ash (ash a 2) 14 0), .ref (ash (ash a 2) 18 0), .ref (ash a 2 22)]))] ++ (c1 K 6 (ash (ash a 2) 1) V0.1.1)))) (c1 K 4 (ash (ash a 2) 9) V0.1.2.2.1 ++ ([(ash a 2 13, .inl (K.2.1, 6, .inl (arI V0.1.2.2.2.2.1)))] ++ (c4 K (ash (ash a 2) 14) V0.1.2.2.2.2.2.2.1 ++ (c6 K (ash (ash a 2) 18) V0.1.2.2.2.2.2.2.2.1 ++ ([(ash a 2 22, .inl (K.2.1, 8, .inl (arI V0.1.2.2.2.2.2.2.2.2)))] ++ (c3 K (ash a 25) V0.2.2.1 ++ (c6 K (ash a 27) V0.2.2.2.1 ++ (c7 K (ash a 31) V0.2.2.2.2.1 ++ (c0 K (ash a 34) V0.2.2.2.2.2.1 ++ (c5 K (ash a 36) V0.2.2.2.2.2.2.1 ++ (c2 K (ash a 43) v1))))))))))) rfl rfl rfl) rfl ?_
  refine g_istore X (lv' := [(5, ii v3), (0, .ref (a 0)), (1, .ref (ash (ash a 2) 5 0)), (2, ii p2), (3, ii p3), (4, ii p4)]) dX9_changeTerm_17 (by decide) rfl ?_
  refine g_aload_n X dX9_changeTerm_19 2 rfl rfl ?_
  refine g_iload_n X dX9_changeTerm_20 3 rfl rfl ?_
  refine g_iload_n X dX9_changeTerm_21 4 rfl rfl ?_
  refine g_iload X dX9_changeTerm_22 5 rfl ?_
  obtain ⟨v5, hc6, hf⟩ := Option.bind_eq_some_iff.mp hf
  refine g_callV X (As := [ii p2, ii p3, ii p4]) (st := []) (st1 := []) (ws' := c9 K a ((V0.1.1, v5, V0.1.2.2.1, V0.1.2.2.2.1, V0.1.2.2.2.2.1, V0.1.2.2.2.2.2.1, V0.1.2.2.2.2.2.2.1, V0.1.2.2.2.2.2.2.2.1, V0.1.2.2.2.2.2.2.2.2), v1, V0.2.2.1, V0.2.2.2.1, V0.2.2.2.2.1, V0.2.2.2.2.2.1, V0.2.2.2.2.2.2.1, V0.2.2.2.2.2.2.2)) (X1_putTerm_ok K l 6 (by decide) (ash (ash a 2) 5) V0.1.2.1 p2 p3 p4 v5 hc6) gX9_changeTerm_X1_putTerm rfl 3 (by decide +kernel) ⟨rfl, rfl⟩ ⟨Nat.le_of_ble_eq_true rfl, Nat.le_of_ble_eq_true rfl⟩ ⟨Nat.zero_le _, Nat.zero_le _⟩ 7 rfl rfl rfl rfl (Nat.le_of_ble_eq_true rfl) dX9_changeTerm_24 (SG.one ([(a 0, .inr (9, [.ref (ash a 2 0), .ref (ash a 43 0), .ref (ash a 25 0), .ref (ash a 27 0), .ref (ash a 31 0), .ref (ash a 34 0), .ref (ash a 36 0), .ref (a 1)]))] ++ ([(a 1, .inl (K.2.1, 4, .inl (arI V0.2.2.2.2.2.2.2)))] ++ ([(ash a 2 0, .inr (8, [.ref (ash (ash a 2) 1 0), .ref (ash (ash a 2) 5 0), .ref (ash (ash a 2) 9 0), ii V0.1.2.2.2.1, .ref (ash a 2 13), ii V0.1.2.2.2.2.2.1, .ref (ash (ash a 2) 14 0), .ref (ash (ash a 2) 18 0), .ref (ash a 2 22)]))] ++ (c1 K 6 (ash (ash a 2) 1) V0.1.1)))) (c1 K 4 (ash (ash a 2) 9) V0.1.2.2.1 ++ ([(ash a 2 13, .inl (K.2.1, 6, .inl (arI V0.1.2.2.2.2.1)))] ++ (c4 K (ash (ash a 2) 14) V0.1.2.2.2.2.2.2.1 ++ (c6 K (ash (ash a 2) 18) V0.1.2.2.2.2.2.2.2.1 ++ ([(ash a 2 22, .inl (K.2.1, 8, .inl (arI V0.1.2.2.2.2.2.2.2.2)))] ++ (c3 K (ash a 25) V0.2.2.1 ++ (c6 K (ash a 27) V0.2.2.2.1 ++ (c7 K (ash a 31) V0.2.2.2.2.1 ++ (c0 K (ash a 34) V0.2.2.2.2.2.1 ++ (c5 K (ash a 36) V0.2.2.2.2.2.2.1 ++ (c2 K (ash a 43) v1))))))))))) rfl rfl rfl) rfl ?_
  refine g_iload X dX9_changeTerm_27 0 rfl ?_
  cases hf
  exact g_iret X hr hlk dX9_changeTerm_29
set_option maxHeartbeats 4000000 in
set_option maxRecDepth 100000 in
theorem X9_changeTerm_news_ok (K : KE) (l : Launch) (a : Nat → Nat) (V0 : CM) (p2 : Int) (p3 : Int) (p4 : Int) (res : Int × CM) (hf : X9_changeTerm_news V0 p2 p3 p4 = some res) : CT l K.1 vwCl (kT K) yX9_changeTerm wsX9_changeTerm rmX9_changeTerm_news [.ref (a 0), .ref (ash (ash a 2) 5 0), ii p2, ii p3, ii p4] (some (ii res.1)) (c9 K a V0) (c9 K a res.2) :=
  CT.mk (cc := cX9_changeTerm) (maxL := 6) (ret := (some .int)) (by decide) rfl (Nat.le_of_ble_eq_true rfl) (fun p e s m below meth c X hr hlk => X9_changeTerm_news_go K l a _ X hr hlk V0 p2 p3 p4 res hf)
theorem iw_X9_setNewTerm_X9 : ∀ w ∈ u_ws RX9 TX9 8, w ∈ wsX9_setNewTerm := by decide +kernel
theorem fl_X9_setNewTerm_10 : Cond.fieldLink RX9 10 (TX9 0).1 (TX9 0).2.1 (TX9 0).2.2.1 ∈ wsX9_setNewTerm := by decide +kernel
theorem iw_X9_setNewTerm_X8 : ∀ w ∈ u_ws RX8 TX8 9, w ∈ wsX9_setNewTerm := by decide +kernel
theorem fl_X9_setNewTerm_85 : Cond.fieldLink RX9 85 (TX8 1).1 (TX8 1).2.1 (TX8 1).2.2.1 ∈ wsX9_setNewTerm := by decide +kernel
def rmX9_setNewTerm : Room := { frames := 8, cells := 0, slots := 0, locals := 186 }
def X9_setNewTerm (V0 : CM) (p1 : Int) (p2 : Int) (p3 : Int) : Option (Int × CM) := (X9_isNew p1).bind (fun v1 => brEQ v1 0 ((X9_refuse V0 (-2)).bind (fun w3 => some (w3.1, w3.2))) ((X9_isTermPosition p2).bind (fun v5 => brEQ v5 0 ((X9_refuse V0 (-2)).bind (fun w7 => some (w7.1, w7.2))) ((X9_within p3 0 99).bind (fun v9 => brEQ v9 0 ((X9_refuse V0 (-2)).bind (fun w11 => some (w11.1, w11.2))) ((X9_changeTerm_news V0 p1 p2 p3).bind (fun w13 => some (w13.1, w13.2))))))))
set_option maxHeartbeats 4000000 in
set_option maxRecDepth 100000 in
theorem X9_setNewTerm_go (K : KE) (l : Launch) (a : Nat → Nat) (WC : va_W) {p : Program} {e : Env} {s : State} {m : MethodId} {args : Array Value} {below : List Frame} {meth : Method} {c : Code} (X : CX p s m args c K.1 vwCl (kT K) (va_A WC s.heap.size) cX9_setNewTerm 4 wsX9_setNewTerm RX9) (hr : meth.sig.returnType = (some .int)) (hlk : meth.locks = false) (V0 : CM) (p1 : Int) (p2 : Int) (p3 : Int) (res : Int × CM) (hf : X9_setNewTerm V0 p1 p2 p3 = some res) : GO p l e rmX9_setNewTerm s m args below meth c K.1 vwCl (va_A WC s.heap.size) (MQ below (QC K.1 vwCl (some (ii res.1)) WC (c9 K a res.2) s.heap.size) args s 0 0 (va_A WC s.heap.size)) 4 0 0 0 [(0, .ref (a 0)), (1, ii p1), (2, ii p2), (3, ii p3)] [] (c9 K a V0) := by
  rw [X9_setNewTerm] at hf
  refine g_iload_n X dX9_setNewTerm_0 1 rfl rfl ?_
  obtain ⟨v1, hc2, hf⟩ := Option.bind_eq_some_iff.mp hf
  refine g_callS X (As := [ii p1]) (st := []) (st1 := [ii v1]) (ws' := c9 K a V0) (X9_isNew_ok K l p1 v1 hc2) gX9_setNewTerm_X9_isNew rfl 1 (by decide +kernel) ⟨rfl, rfl⟩ ⟨Nat.le_of_ble_eq_true rfl, Nat.le_of_ble_eq_true rfl⟩ ⟨Nat.zero_le _, Nat.zero_le _⟩ rfl rfl (Nat.le_of_ble_eq_true rfl) dX9_setNewTerm_1 SG.none rfl ?_
  refine g_if_eq X hf 24 dX9_setNewTerm_4 (by decide) (fun hf => ?_) (fun hf => ?_)
  · refine g_aload_n X dX9_setNewTerm_24 0 rfl rfl ?_
    refine g_bipush X dX9_setNewTerm_25 (by decide +kernel) ?_
    obtain ⟨w3, hc4, hf⟩ := Option.bind_eq_some_iff.mp hf
    refine g_callV X (As := [ii (-2)]) (st := []) (st1 := [ii w3.1]) (ws' := c9 K a w3.2) (X9_refuse_ok K l a V0 (-2) w3 hc4) gX9_setNewTerm_X9_refuse rfl 1 (by decide +kernel) ⟨rfl, rfl⟩ ⟨Nat.le_of_ble_eq_true rfl, Nat.le_of_ble_eq_true rfl⟩ ⟨Nat.zero_le _, Nat.zero_le _⟩ 0 rfl rfl rfl rfl (Nat.le_of_ble_eq_true rfl) dX9_setNewTerm_27 (SG.all rfl) rfl ?_
    cases hf
    exact g_iret X hr hlk dX9_setNewTerm_30
  · refine g_iload_n X dX9_setNewTerm_7 2 rfl rfl ?_
    obtain ⟨v5, hc6, hf⟩ := Option.bind_eq_some_iff.mp hf
    refine g_callS X (As := [ii p2]) (st := []) (st1 := [ii v5]) (ws' := c9 K a V0) (X9_isTermPosition_ok K l p2 v5 hc6) gX9_setNewTerm_X9_isTermPosition rfl 1 (by decide +kernel) ⟨rfl, rfl⟩ ⟨Nat.le_of_ble_eq_true rfl, Nat.le_of_ble_eq_true rfl⟩ ⟨Nat.zero_le _, Nat.zero_le _⟩ rfl rfl (Nat.le_of_ble_eq_true rfl) dX9_setNewTerm_8 SG.none rfl ?_
    refine g_if_eq X hf 24 dX9_setNewTerm_11 (by decide) (fun hf => ?_) (fun hf => ?_)
    · refine g_aload_n X dX9_setNewTerm_24 0 rfl rfl ?_
      refine g_bipush X dX9_setNewTerm_25 (by decide +kernel) ?_
      obtain ⟨w7, hc8, hf⟩ := Option.bind_eq_some_iff.mp hf
      refine g_callV X (As := [ii (-2)]) (st := []) (st1 := [ii w7.1]) (ws' := c9 K a w7.2) (X9_refuse_ok K l a V0 (-2) w7 hc8) gX9_setNewTerm_X9_refuse rfl 1 (by decide +kernel) ⟨rfl, rfl⟩ ⟨Nat.le_of_ble_eq_true rfl, Nat.le_of_ble_eq_true rfl⟩ ⟨Nat.zero_le _, Nat.zero_le _⟩ 0 rfl rfl rfl rfl (Nat.le_of_ble_eq_true rfl) dX9_setNewTerm_27 (SG.all rfl) rfl ?_
      cases hf
      exact g_iret X hr hlk dX9_setNewTerm_30
    · refine g_iload_n X dX9_setNewTerm_14 3 rfl rfl ?_
      refine g_iconst X dX9_setNewTerm_15 ?_
      refine g_bipush X dX9_setNewTerm_16 (by decide +kernel) ?_
      obtain ⟨v9, hc10, hf⟩ := Option.bind_eq_some_iff.mp hf
      refine g_callS X (As := [ii p3, ii 0, ii 99]) (st := []) (st1 := [ii v9]) (ws' := c9 K a V0) (X9_within_ok K l p3 0 99 v9 hc10) gX9_setNewTerm_X9_within rfl 3 (by decide +kernel) ⟨rfl, rfl⟩ ⟨Nat.le_of_ble_eq_true rfl, Nat.le_of_ble_eq_true rfl⟩ ⟨Nat.zero_le _, Nat.zero_le _⟩ rfl rfl (Nat.le_of_ble_eq_true rfl) dX9_setNewTerm_18 SG.none rfl ?_
      refine g_if_ne X hf 31 dX9_setNewTerm_21 (by decide) (fun hf => ?_) (fun hf => ?_)
      · refine g_aload_n X dX9_setNewTerm_24 0 rfl rfl ?_
        refine g_bipush X dX9_setNewTerm_25 (by decide +kernel) ?_
        obtain ⟨w11, hc12, hf⟩ := Option.bind_eq_some_iff.mp hf
        refine g_callV X (As := [ii (-2)]) (st := []) (st1 := [ii w11.1]) (ws' := c9 K a w11.2) (X9_refuse_ok K l a V0 (-2) w11 hc12) gX9_setNewTerm_X9_refuse rfl 1 (by decide +kernel) ⟨rfl, rfl⟩ ⟨Nat.le_of_ble_eq_true rfl, Nat.le_of_ble_eq_true rfl⟩ ⟨Nat.zero_le _, Nat.zero_le _⟩ 0 rfl rfl rfl rfl (Nat.le_of_ble_eq_true rfl) dX9_setNewTerm_27 (SG.all rfl) rfl ?_
        cases hf
        exact g_iret X hr hlk dX9_setNewTerm_30
      · refine g_aload_n X dX9_setNewTerm_31 0 rfl rfl ?_
        refine g_aload_n X dX9_setNewTerm_32 0 rfl rfl ?_
        refine g_get X (v := .ref (ash a 2 0)) 0 0 dX9_setNewTerm_33 rfl rfl iw_X9_setNewTerm_X9 (by decide) fl_X9_setNewTerm_10 rfl ?_
        refine g_get X (v := .ref (ash (ash a 2) 5 0)) 2 1 dX9_setNewTerm_36 rfl rfl iw_X9_setNewTerm_X8 (by decide) fl_X9_setNewTerm_85 rfl ?_
        refine g_iload_n X dX9_setNewTerm_39 1 rfl rfl ?_
        refine g_iload_n X dX9_setNewTerm_40 2 rfl rfl ?_
        refine g_iload_n X dX9_setNewTerm_41 3 rfl rfl ?_
        obtain ⟨w13, hc14, hf⟩ := Option.bind_eq_some_iff.mp hf
        refine g_callV X (As := [.ref (ash (ash a 2) 5 0), ii p1, ii p2, ii p3]) (st := []) (st1 := [ii w13.1]) (ws' := c9 K a w13.2) (X9_changeTerm_news_ok K l a V0 p1 p2 p3 w13 hc14) gX9_setNewTerm_X9_changeTerm rfl 4 (by decide +kernel) ⟨rfl, rfl⟩ ⟨Nat.le_of_ble_eq_true rfl, Nat.le_of_ble_eq_true rfl⟩ ⟨Nat.zero_le _, Nat.zero_le _⟩ 0 rfl rfl rfl rfl (Nat.le_of_ble_eq_true rfl) dX9_setNewTerm_42 (SG.all rfl) rfl ?_
        cases hf
        exact g_iret X hr hlk dX9_setNewTerm_45
set_option maxHeartbeats 4000000 in
set_option maxRecDepth 100000 in
theorem X9_setNewTerm_ok (K : KE) (l : Launch) (a : Nat → Nat) (V0 : CM) (p1 : Int) (p2 : Int) (p3 : Int) (res : Int × CM) (hf : X9_setNewTerm V0 p1 p2 p3 = some res) : CT l K.1 vwCl (kT K) yX9_setNewTerm wsX9_setNewTerm rmX9_setNewTerm [.ref (a 0), ii p1, ii p2, ii p3] (some (ii res.1)) (c9 K a V0) (c9 K a res.2) :=
  CT.mk (cc := cX9_setNewTerm) (maxL := 4) (ret := (some .int)) (by decide) rfl (Nat.le_of_ble_eq_true rfl) (fun p e s m below meth c X hr hlk => X9_setNewTerm_go K l a _ X hr hlk V0 p1 p2 p3 res hf)
theorem iw_X9_faithfulness_X9 : ∀ w ∈ u_ws RX9 TX9 8, w ∈ wsX9_faithfulness := by decide +kernel
theorem fl_X9_faithfulness_10 : Cond.fieldLink RX9 10 (TX9 0).1 (TX9 0).2.1 (TX9 0).2.2.1 ∈ wsX9_faithfulness := by decide +kernel
def rmX9_faithfulness : Room := { frames := 4, cells := 0, slots := 0, locals := 93 }
def X9_faithfulness (V0 : CM) (p1 : Int) : Option (Int) := (X8_keepsMeaning V0.1 p1).bind (fun v1 => brEQ v1 0 (some 0) (some 1))
set_option maxHeartbeats 4000000 in
set_option maxRecDepth 100000 in
theorem X9_faithfulness_go (K : KE) (l : Launch) (a : Nat → Nat) (WC : va_W) {p : Program} {e : Env} {s : State} {m : MethodId} {args : Array Value} {below : List Frame} {meth : Method} {c : Code} (X : CX p s m args c K.1 vwCl (kT K) (va_A WC s.heap.size) cX9_faithfulness 2 wsX9_faithfulness RX9) (hr : meth.sig.returnType = (some .int)) (hlk : meth.locks = false) (V0 : CM) (p1 : Int) (res : Int) (hf : X9_faithfulness V0 p1 = some res) : GO p l e rmX9_faithfulness s m args below meth c K.1 vwCl (va_A WC s.heap.size) (MQ below (QC K.1 vwCl (some (ii res)) WC (c9 K a V0) s.heap.size) args s 0 0 (va_A WC s.heap.size)) 2 0 0 0 [(0, .ref (a 0)), (1, ii p1)] [] (c9 K a V0) := by
  rw [X9_faithfulness] at hf
  refine g_aload_n X dX9_faithfulness_0 0 rfl rfl ?_
  refine g_get X (v := .ref (ash a 2 0)) 0 0 dX9_faithfulness_1 rfl rfl iw_X9_faithfulness_X9 (by decide) fl_X9_faithfulness_10 rfl ?_
  refine g_iload_n X dX9_faithfulness_4 1 rfl rfl ?_
  obtain ⟨v1, hc2, hf⟩ := Option.bind_eq_some_iff.mp hf
  refine g_callV X (As := [ii p1]) (st := []) (st1 := [ii v1]) (ws' := c9 K a V0) (X8_keepsMeaning_ok K l (ash a 2) V0.1 p1 v1 hc2) gX9_faithfulness_X8_keepsMeaning rfl 1 (by decide +kernel) ⟨rfl, rfl⟩ ⟨Nat.le_of_ble_eq_true rfl, Nat.le_of_ble_eq_true rfl⟩ ⟨Nat.zero_le _, Nat.zero_le _⟩ 2 rfl rfl rfl rfl (Nat.le_of_ble_eq_true rfl) dX9_faithfulness_5 (SG.one ([(a 0, .inr (9, [.ref (ash a 2 0), .ref (ash a 43 0), .ref (ash a 25 0), .ref (ash a 27 0), .ref (ash a 31 0), .ref (ash a 34 0), .ref (ash a 36 0), .ref (a 1)]))] ++ ([(a 1, .inl (K.2.1, 4, .inl (arI V0.2.2.2.2.2.2.2)))])) (c3 K (ash a 25) V0.2.2.1 ++ (c6 K (ash a 27) V0.2.2.2.1 ++ (c7 K (ash a 31) V0.2.2.2.2.1 ++ (c0 K (ash a 34) V0.2.2.2.2.2.1 ++ (c5 K (ash a 36) V0.2.2.2.2.2.2.1 ++ (c2 K (ash a 43) V0.2.1)))))) rfl rfl rfl) rfl ?_
  refine g_if_eq X hf 15 dX9_faithfulness_8 (by decide) (fun hf => ?_) (fun hf => ?_)
  · refine g_iconst X dX9_faithfulness_15 ?_
    cases hf
    exact g_iret X hr hlk dX9_faithfulness_16
  · refine g_iconst X dX9_faithfulness_11 ?_
    refine g_goto X 16 dX9_faithfulness_12 (by decide) ?_
    cases hf
    exact g_iret X hr hlk dX9_faithfulness_16
set_option maxHeartbeats 4000000 in
set_option maxRecDepth 100000 in
theorem X9_faithfulness_ok (K : KE) (l : Launch) (a : Nat → Nat) (V0 : CM) (p1 : Int) (res : Int) (hf : X9_faithfulness V0 p1 = some res) : CT l K.1 vwCl (kT K) yX9_faithfulness wsX9_faithfulness rmX9_faithfulness [.ref (a 0), ii p1] (some (ii res)) (c9 K a V0) (c9 K a V0) :=
  CT.mk (cc := cX9_faithfulness) (maxL := 2) (ret := (some .int)) (by decide) rfl (Nat.le_of_ble_eq_true rfl) (fun p e s m below meth c X hr hlk => X9_faithfulness_go K l a _ X hr hlk V0 p1 res hf)
theorem iw_X9_map_X9 : ∀ w ∈ u_ws RX9 TX9 8, w ∈ wsX9_map := by decide +kernel
theorem fl_X9_map_19 : Cond.fieldLink RX9 19 (TX9 1).1 (TX9 1).2.1 (TX9 1).2.2.1 ∈ wsX9_map := by decide +kernel
theorem fl_X9_map_10 : Cond.fieldLink RX9 10 (TX9 0).1 (TX9 0).2.1 (TX9 0).2.2.1 ∈ wsX9_map := by decide +kernel
theorem iw_X9_map_X8 : ∀ w ∈ u_ws RX8 TX8 9, w ∈ wsX9_map := by decide +kernel
theorem fl_X9_map_98 : Cond.fieldLink RX9 98 (TX8 6).1 (TX8 6).2.1 (TX8 6).2.2.1 ∈ wsX9_map := by decide +kernel
def rmX9_map : Room := { frames := 7, cells := 0, slots := 0, locals := 161 }
def X9_map (V0 : CM) (p1 : Int) (p2 : Int) : Option (Int × CM) := (X9_isOld p1).bind (fun v1 => brEQ v1 0 ((X9_refuse V0 (-2)).bind (fun w3 => some (w3.1, w3.2))) ((X9_isNew p2).bind (fun v5 => brEQ v5 0 ((X9_refuse V0 (-2)).bind (fun w7 => some (w7.1, w7.2))) ((X2_save V0.1 V0.2.1).bind (fun v9 => (X4_targetOf V0.1.2.2.2.2.2.2.1 p1).bind (fun v11 => brEQ v11 (-1) ((X4_resetEntries V0.1.2.2.2.2.2.2.1 p1).bind (fun v13 => (X4_putTarget v13 p1 p2).bind (fun v15 => (X9_faithfulness ((V0.1.1, V0.1.2.1, V0.1.2.2.1, V0.1.2.2.2.1, V0.1.2.2.2.2.1, V0.1.2.2.2.2.2.1, v15, V0.1.2.2.2.2.2.2.2.1, V0.1.2.2.2.2.2.2.2.2), v9, V0.2.2.1, V0.2.2.2.1, V0.2.2.2.2.1, V0.2.2.2.2.2.1, V0.2.2.2.2.2.2.1, V0.2.2.2.2.2.2.2) p1).bind (fun v17 => some (v17, ((V0.1.1, V0.1.2.1, V0.1.2.2.1, V0.1.2.2.2.1, V0.1.2.2.2.2.1, V0.1.2.2.2.2.2.1, v15, V0.1.2.2.2.2.2.2.2.1, V0.1.2.2.2.2.2.2.2.2), v9, V0.2.2.1, V0.2.2.2.1, V0.2.2.2.2.1, V0.2.2.2.2.2.1, V0.2.2.2.2.2.2.1, V0.2.2.2.2.2.2.2)))))) ((X4_putTarget V0.1.2.2.2.2.2.2.1 p1 p2).bind (fun v19 => (X9_faithfulness ((V0.1.1, V0.1.2.1, V0.1.2.2.1, V0.1.2.2.2.1, V0.1.2.2.2.2.1, V0.1.2.2.2.2.2.1, v19, V0.1.2.2.2.2.2.2.2.1, V0.1.2.2.2.2.2.2.2.2), v9, V0.2.2.1, V0.2.2.2.1, V0.2.2.2.2.1, V0.2.2.2.2.2.1, V0.2.2.2.2.2.2.1, V0.2.2.2.2.2.2.2) p1).bind (fun v21 => some (v21, ((V0.1.1, V0.1.2.1, V0.1.2.2.1, V0.1.2.2.2.1, V0.1.2.2.2.2.1, V0.1.2.2.2.2.2.1, v19, V0.1.2.2.2.2.2.2.2.1, V0.1.2.2.2.2.2.2.2.2), v9, V0.2.2.1, V0.2.2.2.1, V0.2.2.2.2.1, V0.2.2.2.2.2.1, V0.2.2.2.2.2.2.1, V0.2.2.2.2.2.2.2)))))))))))
set_option maxHeartbeats 4000000 in
set_option maxRecDepth 100000 in
theorem X9_map_go (K : KE) (l : Launch) (a : Nat → Nat) (WC : va_W) {p : Program} {e : Env} {s : State} {m : MethodId} {args : Array Value} {below : List Frame} {meth : Method} {c : Code} (X : CX p s m args c K.1 vwCl (kT K) (va_A WC s.heap.size) cX9_map 3 wsX9_map RX9) (hr : meth.sig.returnType = (some .int)) (hlk : meth.locks = false) (V0 : CM) (p1 : Int) (p2 : Int) (res : Int × CM) (hf : X9_map V0 p1 p2 = some res) : GO p l e rmX9_map s m args below meth c K.1 vwCl (va_A WC s.heap.size) (MQ below (QC K.1 vwCl (some (ii res.1)) WC (c9 K a res.2) s.heap.size) args s 0 0 (va_A WC s.heap.size)) 3 0 0 0 [(0, .ref (a 0)), (1, ii p1), (2, ii p2)] [] (c9 K a V0) := by
  rw [X9_map] at hf
  refine g_iload_n X dX9_map_0 1 rfl rfl ?_
  obtain ⟨v1, hc2, hf⟩ := Option.bind_eq_some_iff.mp hf
  refine g_callS X (As := [ii p1]) (st := []) (st1 := [ii v1]) (ws' := c9 K a V0) (X9_isOld_ok K l p1 v1 hc2) gX9_map_X9_isOld rfl 1 (by decide +kernel) ⟨rfl, rfl⟩ ⟨Nat.le_of_ble_eq_true rfl, Nat.le_of_ble_eq_true rfl⟩ ⟨Nat.zero_le _, Nat.zero_le _⟩ rfl rfl (Nat.le_of_ble_eq_true rfl) dX9_map_1 SG.none rfl ?_
  refine g_if_eq X hf 14 dX9_map_4 (by decide) (fun hf => ?_) (fun hf => ?_)
  · refine g_aload_n X dX9_map_14 0 rfl rfl ?_
    refine g_bipush X dX9_map_15 (by decide +kernel) ?_
    obtain ⟨w3, hc4, hf⟩ := Option.bind_eq_some_iff.mp hf
    refine g_callV X (As := [ii (-2)]) (st := []) (st1 := [ii w3.1]) (ws' := c9 K a w3.2) (X9_refuse_ok K l a V0 (-2) w3 hc4) gX9_map_X9_refuse rfl 1 (by decide +kernel) ⟨rfl, rfl⟩ ⟨Nat.le_of_ble_eq_true rfl, Nat.le_of_ble_eq_true rfl⟩ ⟨Nat.zero_le _, Nat.zero_le _⟩ 0 rfl rfl rfl rfl (Nat.le_of_ble_eq_true rfl) dX9_map_17 (SG.all rfl) rfl ?_
    cases hf
    exact g_iret X hr hlk dX9_map_20
  · refine g_iload_n X dX9_map_7 2 rfl rfl ?_
    obtain ⟨v5, hc6, hf⟩ := Option.bind_eq_some_iff.mp hf
    refine g_callS X (As := [ii p2]) (st := []) (st1 := [ii v5]) (ws' := c9 K a V0) (X9_isNew_ok K l p2 v5 hc6) gX9_map_X9_isNew rfl 1 (by decide +kernel) ⟨rfl, rfl⟩ ⟨Nat.le_of_ble_eq_true rfl, Nat.le_of_ble_eq_true rfl⟩ ⟨Nat.zero_le _, Nat.zero_le _⟩ rfl rfl (Nat.le_of_ble_eq_true rfl) dX9_map_8 SG.none rfl ?_
    refine g_if_ne X hf 21 dX9_map_11 (by decide) (fun hf => ?_) (fun hf => ?_)
    · refine g_aload_n X dX9_map_14 0 rfl rfl ?_
      refine g_bipush X dX9_map_15 (by decide +kernel) ?_
      obtain ⟨w7, hc8, hf⟩ := Option.bind_eq_some_iff.mp hf
      refine g_callV X (As := [ii (-2)]) (st := []) (st1 := [ii w7.1]) (ws' := c9 K a w7.2) (X9_refuse_ok K l a V0 (-2) w7 hc8) gX9_map_X9_refuse rfl 1 (by decide +kernel) ⟨rfl, rfl⟩ ⟨Nat.le_of_ble_eq_true rfl, Nat.le_of_ble_eq_true rfl⟩ ⟨Nat.zero_le _, Nat.zero_le _⟩ 0 rfl rfl rfl rfl (Nat.le_of_ble_eq_true rfl) dX9_map_17 (SG.all rfl) rfl ?_
      cases hf
      exact g_iret X hr hlk dX9_map_20
    · refine g_aload_n X dX9_map_21 0 rfl rfl ?_
      refine g_get X (v := .ref (ash a 43 0)) 0 1 dX9_map_22 rfl rfl iw_X9_map_X9 (by decide) fl_X9_map_19 rfl ?_
      refine g_aload_n X dX9_map_25 0 rfl rfl ?_
      refine g_get X (v := .ref (ash a 2 0)) 0 0 dX9_map_26 rfl rfl iw_X9_map_X9 (by decide) fl_X9_map_10 rfl ?_
      obtain ⟨v9, hc10, hf⟩ := Option.bind_eq_some_iff.mp hf
      refine g_callV X (As := [.ref (ash a 2 0)]) (st := []) (st1 := []) (ws' := c9 K a (V0.1, v9, V0.2.2.1, V0.2.2.2.1, V0.2.2.2.2.1, V0.2.2.2.2.2.1, V0.2.2.2.2.2.2.1, V0.2.2.2.2.2.2.2)) (X2_save_ok K l (ash a 2) (ash a 43) V0.1 V0.2.1 v9 hc10) gX9_map_X2_save rfl 1 (by decide +kernel) ⟨rfl, rfl⟩ ⟨Nat.le_of_ble_eq_true rfl, Nat.le_of_ble_eq_true rfl⟩ ⟨Nat.zero_le _, Nat.zero_le _⟩ 43 rfl rfl rfl rfl (Nat.le_of_ble_eq_true rfl) dX9_map_29 (SG.two ([(a 0, .inr (9, [.ref (ash a 2 0), .ref (ash a 43 0), .ref (ash a 25 0), .ref (ash a 27 0), .ref (ash a 31 0), .ref (ash a 34 0), .ref (ash a 36 0), .ref (a 1)]))] ++ ([(a 1, .inl (K.2.1, 4, .inl (arI V0.2.2.2.2.2.2.2)))])) (c3 K (ash a 25) V0.2.2.1 ++ (c6 K (ash a 27) V0.2.2.2.1 ++ (c7 K (ash a 31) V0.2.2.2.2.1 ++ (c0 K (ash a 34) V0.2.2.2.2.2.1 ++ (c5 K (ash a 36) V0.2.2.2.2.2.2.1))))) [] rfl rfl rfl) rfl ?_
      refine g_aload_n X dX9_map_32 0 rfl rfl ?_
      refine g_get X (v := .ref (ash a 2 0)) 0 0 dX9_map_33 rfl rfl iw_X9_map_X9 (by decide) fl_X9_map_10 rfl ?_
      refine g_get X (v := .ref (ash (ash a 2) 14 0)) 2 6 dX9_map_36 rfl rfl iw_X9_map_X8 (by decide) fl_X9_map_98 rfl ?_
      refine g_iload_n X dX9_map_39 1 rfl rfl ?_
      obtain ⟨v11, hc12, hf⟩ := Option.bind_eq_some_iff.mp hf
      refine g_callV X (As := [ii p1]) (st := []) (st1 := [ii v11]) (ws' := c9 K a (V0.1, v9, V0.2.2.1, V0.2.2.2.1, V0.2.2.2.2.1, V0.2.2.2.2.2.1, V0.2.2.2.2.2.2.1, V0.2.2.2.2.2.2.2)) (X4_targetOf_ok K l (ash (ash a 2) 14) V0.1.2.2.2.2.2.2.1 p1 v11 hc12) gX9_map_X4_targetOf rfl 1 (by decide +kernel) ⟨rfl, rfl⟩ ⟨Nat.le_of_ble_eq_true rfl, Nat.le_of_ble_eq_true rfl⟩ ⟨Nat.zero_le _, Nat.zero_le _⟩ 16 rfl rfl rfl rfl (Nat.le_of_ble_eq_true rfl) dX9_map_40 (SG.one ([(a 0, .inr (9, [.ref (ash a 2 0), .ref (ash a 43 0), .ref (ash a 25 0), .ref (ash a 27 0), .ref (ash a 31 0), .ref (ash a 34 0), .ref (ash a 36 0), .ref (a 1)]))] ++ ([(a 1, .inl (K.2.1, 4, .inl (arI V0.2.2.2.2.2.2.2)))] ++ ([(ash a 2 0, .inr (8, [.ref (ash (ash a 2) 1 0), .ref (ash (ash a 2) 5 0), .ref (ash (ash a 2) 9 0), ii V0.1.2.2.2.1, .ref (ash a 2 13), ii V0.1.2.2.2.2.2.1, .ref (ash (ash a 2) 14 0), .ref (ash (ash a 2) 18 0), .ref (ash a 2 22)]))] ++ (c1 K 6 (ash (ash a 2) 1) V0.1.1 ++ (c1 K 6 (ash (ash a 2) 5) V0.1.2.1 ++ (c1 K 4 (ash (ash a 2) 9) V0.1.2.2.1 ++ ([(ash a 2 13, .inl (K.2.1, 6, .inl (arI V0.1.2.2.2.2.1)))]))))))) (c6 K (ash (ash a 2) 18) V0.1.2.2.2.2.2.2.2.1 ++ ([(ash a 2 22, .inl (K.2.1, 8, .inl (arI V0.1.2.2.2.2.2.2.2.2)))] ++ (c3 K (ash a 25) V0.2.2.1 ++ (c6 K (ash a 27) V0.2.2.2.1 ++ (c7 K (ash a 31) V0.2.2.2.2.1 ++ (c0 K (ash a 34) V0.2.2.2.2.2.1 ++ (c5 K (ash a 36) V0.2.2.2.2.2.2.1 ++ (c2 K (ash a 43) v9)))))))) rfl rfl rfl) rfl ?_
      refine g_iconst X dX9_map_43 ?_
      refine g_icmp_ne X hf 58 dX9_map_44 (by decide) (fun hf => ?_) (fun hf => ?_)
      · refine g_aload_n X dX9_map_47 0 rfl rfl ?_
        refine g_get X (v := .ref (ash a 2 0)) 0 0 dX9_map_48 rfl rfl iw_X9_map_X9 (by decide) fl_X9_map_10 rfl ?_
        refine g_get X (v := .ref (ash (ash a 2) 14 0)) 2 6 dX9_map_51 rfl rfl iw_X9_map_X8 (by decide) fl_X9_map_98 rfl ?_
        refine g_iload_n X dX9_map_54 1 rfl rfl ?_
        obtain ⟨v13, hc14, hf⟩ := Option.bind_eq_some_iff.mp hf
        refine g_callV X (As := [ii p1]) (st := []) (st1 := []) (ws' := c9 K a ((V0.1.1, V0.1.2.1, V0.1.2.2.1, V0.1.2.2.2.1, V0.1.2.2.2.2.1, V0.1.2.2.2.2.2.1, v13, V0.1.2.2.2.2.2.2.2.1, V0.1.2.2.2.2.2.2.2.2), v9, V0.2.2.1, V0.2.2.2.1, V0.2.2.2.2.1, V0.2.2.2.2.2.1, V0.2.2.2.2.2.2.1, V0.2.2.2.2.2.2.2)) (X4_resetEntries_ok K l (ash (ash a 2) 14) V0.1.2.2.2.2.2.2.1 p1 v13 hc14) gX9_map_X4_resetEntries rfl 1 (by decide +kernel) ⟨rfl, rfl⟩ ⟨Nat.le_of_ble_eq_true rfl, Nat.le_of_ble_eq_true rfl⟩ ⟨Nat.zero_le _, Nat.zero_le _⟩ 16 rfl rfl rfl rfl (Nat.le_of_ble_eq_true rfl) dX9_map_55 (SG.one ([(a 0, .inr (9, [.ref (ash a 2 0), .ref (ash a 43 0), .ref (ash a 25 0), .ref (ash a 27 0), .ref (ash a 31 0), .ref (ash a 34 0), .ref (ash a 36 0), .ref (a 1)]))] ++ ([(a 1, .inl (K.2.1, 4, .inl (arI V0.2.2.2.2.2.2.2)))] ++ ([(ash a 2 0, .inr (8, [.ref (ash (ash a 2) 1 0), .ref (ash (ash a 2) 5 0), .ref (ash (ash a 2) 9 0), ii V0.1.2.2.2.1, .ref (ash a 2 13), ii V0.1.2.2.2.2.2.1, .ref (ash (ash a 2) 14 0), .ref (ash (ash a 2) 18 0), .ref (ash a 2 22)]))] ++ (c1 K 6 (ash (ash a 2) 1) V0.1.1 ++ (c1 K 6 (ash (ash a 2) 5) V0.1.2.1 ++ (c1 K 4 (ash (ash a 2) 9) V0.1.2.2.1 ++ ([(ash a 2 13, .inl (K.2.1, 6, .inl (arI V0.1.2.2.2.2.1)))]))))))) (c6 K (ash (ash a 2) 18) V0.1.2.2.2.2.2.2.2.1 ++ ([(ash a 2 22, .inl (K.2.1, 8, .inl (arI V0.1.2.2.2.2.2.2.2.2)))] ++ (c3 K (ash a 25) V0.2.2.1 ++ (c6 K (ash a 27) V0.2.2.2.1 ++ (c7 K (ash a 31) V0.2.2.2.2.1 ++ (c0 K (ash a 34) V0.2.2.2.2.2.1 ++ (c5 K (ash a 36) V0.2.2.2.2.2.2.1 ++ (c2 K (ash a 43) v9)))))))) rfl rfl rfl) rfl ?_
        refine g_aload_n X dX9_map_58 0 rfl rfl ?_
        refine g_get X (v := .ref (ash a 2 0)) 0 0 dX9_map_59 rfl rfl iw_X9_map_X9 (by decide) fl_X9_map_10 rfl ?_
        refine g_get X (v := .ref (ash (ash a 2) 14 0)) 2 6 dX9_map_62 rfl rfl iw_X9_map_X8 (by decide) fl_X9_map_98 rfl ?_
        refine g_iload_n X dX9_map_65 1 rfl rfl ?_
        refine g_iload_n X dX9_map_66 2 rfl rfl ?_
        obtain ⟨v15, hc16, hf⟩ := Option.bind_eq_some_iff.mp hf
        refine g_callV X (As := [ii p1, ii p2]) (st := []) (st1 := []) (ws' := c9 K a ((V0.1.1, V0.1.2.1, V0.1.2.2.1, V0.1.2.2.2.1, V0.1.2.2.2.2.1, V0.1.2.2.2.2.2.1, v15, V0.1.2.2.2.2.2.2.2.1, V0.1.2.2.2.2.2.2.2.2), v9, V0.2.2.1, V0.2.2.2.1, V0.2.2.2.2.1, V0.2.2.2.2.2.1, V0.2.2.2.2.2.2.1, V0.2.2.2.2.2.2.2)) (X4_putTarget_ok K l (ash (ash a 2) 14) v13 p1 p2 v15 hc16) gX9_map_X4_putTarget rfl 2 (by decide +kernel) ⟨rfl, rfl⟩ ⟨Nat.le_of_ble_eq_true rfl, Nat.le_of_ble_eq_true rfl⟩ ⟨Nat.zero_le _, Nat.zero_le _⟩ 16 rfl rfl rfl rfl (Nat.le_of_ble_eq_true rfl) dX9_map_67 (SG.one ([(a 0, .inr (9, [.ref (ash a 2 0), .ref (ash a 43 0), .ref (ash a 25 0), .ref (ash a 27 0), .ref (ash a 31 0), .ref (ash a 34 0), .ref (ash a 36 0), .ref (a 1)]))] ++ ([(a 1, .inl (K.2.1, 4, .inl (arI V0.2.2.2.2.2.2.2)))] ++ ([(ash a 2 0, .inr (8, [.ref (ash (ash a 2) 1 0), .ref (ash (ash a 2) 5 0), .ref (ash (ash a 2) 9 0), ii V0.1.2.2.2.1, .ref (ash a 2 13), ii V0.1.2.2.2.2.2.1, .ref (ash (ash a 2) 14 0), .ref (ash (ash a 2) 18 0), .ref (ash a 2 22)]))] ++ (c1 K 6 (ash (ash a 2) 1) V0.1.1 ++ (c1 K 6 (ash (ash a 2) 5) V0.1.2.1 ++ (c1 K 4 (ash (ash a 2) 9) V0.1.2.2.1 ++ ([(ash a 2 13, .inl (K.2.1, 6, .inl (arI V0.1.2.2.2.2.1)))]))))))) (c6 K (ash (ash a 2) 18) V0.1.2.2.2.2.2.2.2.1 ++ ([(ash a 2 22, .inl (K.2.1, 8, .inl (arI V0.1.2.2.2.2.2.2.2.2)))] ++ (c3 K (ash a 25) V0.2.2.1 ++ (c6 K (ash a 27) V0.2.2.2.1 ++ (c7 K (ash a 31) V0.2.2.2.2.1 ++ (c0 K (ash a 34) V0.2.2.2.2.2.1 ++ (c5 K (ash a 36) V0.2.2.2.2.2.2.1 ++ (c2 K (ash a 43) v9)))))))) rfl rfl rfl) rfl ?_
        refine g_aload_n X dX9_map_70 0 rfl rfl ?_
        refine g_iload_n X dX9_map_71 1 rfl rfl ?_
        obtain ⟨v17, hc18, hf⟩ := Option.bind_eq_some_iff.mp hf
        refine g_callV X (As := [ii p1]) (st := []) (st1 := [ii v17]) (ws' := c9 K a ((V0.1.1, V0.1.2.1, V0.1.2.2.1, V0.1.2.2.2.1, V0.1.2.2.2.2.1, V0.1.2.2.2.2.2.1, v15, V0.1.2.2.2.2.2.2.2.1, V0.1.2.2.2.2.2.2.2.2), v9, V0.2.2.1, V0.2.2.2.1, V0.2.2.2.2.1, V0.2.2.2.2.2.1, V0.2.2.2.2.2.2.1, V0.2.2.2.2.2.2.2)) (X9_faithfulness_ok K l a ((V0.1.1, V0.1.2.1, V0.1.2.2.1, V0.1.2.2.2.1, V0.1.2.2.2.2.1, V0.1.2.2.2.2.2.1, v15, V0.1.2.2.2.2.2.2.2.1, V0.1.2.2.2.2.2.2.2.2), v9, V0.2.2.1, V0.2.2.2.1, V0.2.2.2.2.1, V0.2.2.2.2.2.1, V0.2.2.2.2.2.2.1, V0.2.2.2.2.2.2.2) p1 v17 hc18) gX9_map_X9_faithfulness rfl 1 (by decide +kernel) ⟨rfl, rfl⟩ ⟨Nat.le_of_ble_eq_true rfl, Nat.le_of_ble_eq_true rfl⟩ ⟨Nat.zero_le _, Nat.zero_le _⟩ 0 rfl rfl rfl rfl (Nat.le_of_ble_eq_true rfl) dX9_map_72 (SG.all rfl) rfl ?_
        cases hf
        exact g_iret X hr hlk dX9_map_75
      · refine g_aload_n X dX9_map_58 0 rfl rfl ?_
        refine g_get X (v := .ref (ash a 2 0)) 0 0 dX9_map_59 rfl rfl iw_X9_map_X9 (by decide) fl_X9_map_10 rfl ?_
        refine g_get X (v := .ref (ash (ash a 2) 14 0)) 2 6 dX9_map_62 rfl rfl iw_X9_map_X8 (by decide) fl_X9_map_98 rfl ?_
        refine g_iload_n X dX9_map_65 1 rfl rfl ?_
        refine g_iload_n X dX9_map_66 2 rfl rfl ?_
        obtain ⟨v19, hc20, hf⟩ := Option.bind_eq_some_iff.mp hf
        refine g_callV X (As := [ii p1, ii p2]) (st := []) (st1 := []) (ws' := c9 K a ((V0.1.1, V0.1.2.1, V0.1.2.2.1, V0.1.2.2.2.1, V0.1.2.2.2.2.1, V0.1.2.2.2.2.2.1, v19, V0.1.2.2.2.2.2.2.2.1, V0.1.2.2.2.2.2.2.2.2), v9, V0.2.2.1, V0.2.2.2.1, V0.2.2.2.2.1, V0.2.2.2.2.2.1, V0.2.2.2.2.2.2.1, V0.2.2.2.2.2.2.2)) (X4_putTarget_ok K l (ash (ash a 2) 14) V0.1.2.2.2.2.2.2.1 p1 p2 v19 hc20) gX9_map_X4_putTarget rfl 2 (by decide +kernel) ⟨rfl, rfl⟩ ⟨Nat.le_of_ble_eq_true rfl, Nat.le_of_ble_eq_true rfl⟩ ⟨Nat.zero_le _, Nat.zero_le _⟩ 16 rfl rfl rfl rfl (Nat.le_of_ble_eq_true rfl) dX9_map_67 (SG.one ([(a 0, .inr (9, [.ref (ash a 2 0), .ref (ash a 43 0), .ref (ash a 25 0), .ref (ash a 27 0), .ref (ash a 31 0), .ref (ash a 34 0), .ref (ash a 36 0), .ref (a 1)]))] ++ ([(a 1, .inl (K.2.1, 4, .inl (arI V0.2.2.2.2.2.2.2)))] ++ ([(ash a 2 0, .inr (8, [.ref (ash (ash a 2) 1 0), .ref (ash (ash a 2) 5 0), .ref (ash (ash a 2) 9 0), ii V0.1.2.2.2.1, .ref (ash a 2 13), ii V0.1.2.2.2.2.2.1, .ref (ash (ash a 2) 14 0), .ref (ash (ash a 2) 18 0), .ref (ash a 2 22)]))] ++ (c1 K 6 (ash (ash a 2) 1) V0.1.1 ++ (c1 K 6 (ash (ash a 2) 5) V0.1.2.1 ++ (c1 K 4 (ash (ash a 2) 9) V0.1.2.2.1 ++ ([(ash a 2 13, .inl (K.2.1, 6, .inl (arI V0.1.2.2.2.2.1)))]))))))) (c6 K (ash (ash a 2) 18) V0.1.2.2.2.2.2.2.2.1 ++ ([(ash a 2 22, .inl (K.2.1, 8, .inl (arI V0.1.2.2.2.2.2.2.2.2)))] ++ (c3 K (ash a 25) V0.2.2.1 ++ (c6 K (ash a 27) V0.2.2.2.1 ++ (c7 K (ash a 31) V0.2.2.2.2.1 ++ (c0 K (ash a 34) V0.2.2.2.2.2.1 ++ (c5 K (ash a 36) V0.2.2.2.2.2.2.1 ++ (c2 K (ash a 43) v9)))))))) rfl rfl rfl) rfl ?_
        refine g_aload_n X dX9_map_70 0 rfl rfl ?_
        refine g_iload_n X dX9_map_71 1 rfl rfl ?_
        obtain ⟨v21, hc22, hf⟩ := Option.bind_eq_some_iff.mp hf
        refine g_callV X (As := [ii p1]) (st := []) (st1 := [ii v21]) (ws' := c9 K a ((V0.1.1, V0.1.2.1, V0.1.2.2.1, V0.1.2.2.2.1, V0.1.2.2.2.2.1, V0.1.2.2.2.2.2.1, v19, V0.1.2.2.2.2.2.2.2.1, V0.1.2.2.2.2.2.2.2.2), v9, V0.2.2.1, V0.2.2.2.1, V0.2.2.2.2.1, V0.2.2.2.2.2.1, V0.2.2.2.2.2.2.1, V0.2.2.2.2.2.2.2)) (X9_faithfulness_ok K l a ((V0.1.1, V0.1.2.1, V0.1.2.2.1, V0.1.2.2.2.1, V0.1.2.2.2.2.1, V0.1.2.2.2.2.2.1, v19, V0.1.2.2.2.2.2.2.2.1, V0.1.2.2.2.2.2.2.2.2), v9, V0.2.2.1, V0.2.2.2.1, V0.2.2.2.2.1, V0.2.2.2.2.2.1, V0.2.2.2.2.2.2.1, V0.2.2.2.2.2.2.2) p1 v21 hc22) gX9_map_X9_faithfulness rfl 1 (by decide +kernel) ⟨rfl, rfl⟩ ⟨Nat.le_of_ble_eq_true rfl, Nat.le_of_ble_eq_true rfl⟩ ⟨Nat.zero_le _, Nat.zero_le _⟩ 0 rfl rfl rfl rfl (Nat.le_of_ble_eq_true rfl) dX9_map_72 (SG.all rfl) rfl ?_
        cases hf
        exact g_iret X hr hlk dX9_map_75
set_option maxHeartbeats 4000000 in
set_option maxRecDepth 100000 in
theorem X9_map_ok (K : KE) (l : Launch) (a : Nat → Nat) (V0 : CM) (p1 : Int) (p2 : Int) (res : Int × CM) (hf : X9_map V0 p1 p2 = some res) : CT l K.1 vwCl (kT K) yX9_map wsX9_map rmX9_map [.ref (a 0), ii p1, ii p2] (some (ii res.1)) (c9 K a V0) (c9 K a res.2) :=
  CT.mk (cc := cX9_map) (maxL := 3) (ret := (some .int)) (by decide) rfl (Nat.le_of_ble_eq_true rfl) (fun p e s m below meth c X hr hlk => X9_map_go K l a _ X hr hlk V0 p1 p2 res hf)
theorem iw_X9_unmap_X9 : ∀ w ∈ u_ws RX9 TX9 8, w ∈ wsX9_unmap := by decide +kernel
theorem fl_X9_unmap_10 : Cond.fieldLink RX9 10 (TX9 0).1 (TX9 0).2.1 (TX9 0).2.2.1 ∈ wsX9_unmap := by decide +kernel
theorem iw_X9_unmap_X8 : ∀ w ∈ u_ws RX8 TX8 9, w ∈ wsX9_unmap := by decide +kernel
theorem fl_X9_unmap_98 : Cond.fieldLink RX9 98 (TX8 6).1 (TX8 6).2.1 (TX8 6).2.2.1 ∈ wsX9_unmap := by decide +kernel
theorem fl_X9_unmap_19 : Cond.fieldLink RX9 19 (TX9 1).1 (TX9 1).2.1 (TX9 1).2.2.1 ∈ wsX9_unmap := by decide +kernel
def rmX9_unmap : Room := { frames := 7, cells := 0, slots := 0, locals := 161 }
def X9_unmap (V0 : CM) (p1 : Int) : Option (Int × CM) := (X9_isOld p1).bind (fun v1 => brEQ v1 0 ((X9_refuse V0 (-2)).bind (fun w3 => some (w3.1, w3.2))) ((X4_targetOf V0.1.2.2.2.2.2.2.1 p1).bind (fun v5 => brEQ v5 (-1) ((X9_refuse V0 (-3)).bind (fun w7 => some (w7.1, w7.2))) ((X2_save V0.1 V0.2.1).bind (fun v9 => (X4_putTarget V0.1.2.2.2.2.2.2.1 p1 (-1)).bind (fun v11 => some (v5, ((V0.1.1, V0.1.2.1, V0.1.2.2.1, V0.1.2.2.2.1, V0.1.2.2.2.2.1, V0.1.2.2.2.2.2.1, v11, V0.1.2.2.2.2.2.2.2.1, V0.1.2.2.2.2.2.2.2.2), v9, V0.2.2.1, V0.2.2.2.1, V0.2.2.2.2.1, V0.2.2.2.2.2.1, V0.2.2.2.2.2.2.1, V0.2.2.2.2.2.2.2))))))))
set_option maxHeartbeats 4000000 in
set_option maxRecDepth 100000 in
theorem X9_unmap_go (K : KE) (l : Launch) (a : Nat → Nat) (WC : va_W) {p : Program} {e : Env} {s : State} {m : MethodId} {args : Array Value} {below : List Frame} {meth : Method} {c : Code} (X : CX p s m args c K.1 vwCl (kT K) (va_A WC s.heap.size) cX9_unmap 3 wsX9_unmap RX9) (hr : meth.sig.returnType = (some .int)) (hlk : meth.locks = false) (V0 : CM) (p1 : Int) (res : Int × CM) (hf : X9_unmap V0 p1 = some res) : GO p l e rmX9_unmap s m args below meth c K.1 vwCl (va_A WC s.heap.size) (MQ below (QC K.1 vwCl (some (ii res.1)) WC (c9 K a res.2) s.heap.size) args s 0 0 (va_A WC s.heap.size)) 3 0 0 0 [(0, .ref (a 0)), (1, ii p1)] [] (c9 K a V0) := by
  rw [X9_unmap] at hf
  refine g_iload_n X dX9_unmap_0 1 rfl rfl ?_
  obtain ⟨v1, hc2, hf⟩ := Option.bind_eq_some_iff.mp hf
  refine g_callS X (As := [ii p1]) (st := []) (st1 := [ii v1]) (ws' := c9 K a V0) (X9_isOld_ok K l p1 v1 hc2) gX9_unmap_X9_isOld rfl 1 (by decide +kernel) ⟨rfl, rfl⟩ ⟨Nat.le_of_ble_eq_true rfl, Nat.le_of_ble_eq_true rfl⟩ ⟨Nat.zero_le _, Nat.zero_le _⟩ rfl rfl (Nat.le_of_ble_eq_true rfl) dX9_unmap_1 SG.none rfl ?_
  refine g_if_ne X hf 14 dX9_unmap_4 (by decide) (fun hf => ?_) (fun hf => ?_)
  · refine g_aload_n X dX9_unmap_7 0 rfl rfl ?_
    refine g_bipush X dX9_unmap_8 (by decide +kernel) ?_
    obtain ⟨w3, hc4, hf⟩ := Option.bind_eq_some_iff.mp hf
    refine g_callV X (As := [ii (-2)]) (st := []) (st1 := [ii w3.1]) (ws' := c9 K a w3.2) (X9_refuse_ok K l a V0 (-2) w3 hc4) gX9_unmap_X9_refuse rfl 1 (by decide +kernel) ⟨rfl, rfl⟩ ⟨Nat.le_of_ble_eq_true rfl, Nat.le_of_ble_eq_true rfl⟩ ⟨Nat.zero_le _, Nat.zero_le _⟩ 0 rfl rfl rfl rfl (Nat.le_of_ble_eq_true rfl) dX9_unmap_10 (SG.all rfl) rfl ?_
    cases hf
    exact g_iret X hr hlk dX9_unmap_13
  · refine g_aload_n X dX9_unmap_14 0 rfl rfl ?_
    refine g_get X (v := .ref (ash a 2 0)) 0 0 dX9_unmap_15 rfl rfl iw_X9_unmap_X9 (by decide) fl_X9_unmap_10 rfl ?_
    refine g_get X (v := .ref (ash (ash a 2) 14 0)) 2 6 dX9_unmap_18 rfl rfl iw_X9_unmap_X8 (by decide) fl_X9_unmap_98 rfl ?_
    refine g_iload_n X dX9_unmap_21 1 rfl rfl ?_
    obtain ⟨v5, hc6, hf⟩ := Option.bind_eq_some_iff.mp hf
    refine g_callV X (As := [ii p1]) (st := []) (st1 := [ii v5]) (ws' := c9 K a V0) (X4_targetOf_ok K l (ash (ash a 2) 14) V0.1.2.2.2.2.2.2.1 p1 v5 hc6) gX9_unmap_X4_targetOf rfl 1 (by decide +kernel) ⟨rfl, rfl⟩ ⟨Nat.le_of_ble_eq_true rfl, Nat.le_of_ble_eq_true rfl⟩ ⟨Nat.zero_le _, Nat.zero_le _⟩ 16 rfl rfl rfl rfl (Nat.le_of_ble_eq_true rfl) dX9_unmap_22 (SG.one ([(a 0, .inr (9, [.ref (ash a 2 0), .ref (ash a 43 0), .ref (ash a 25 0), .ref (ash a 27 0), .ref (ash a 31 0), .ref (ash a 34 0), .ref (ash a 36 0), .ref (a 1)]))] ++ ([(a 1, .inl (K.2.1, 4, .inl (arI V0.2.2.2.2.2.2.2)))] ++ ([(ash a 2 0, .inr (8, [.ref (ash (ash a 2) 1 0), .ref (ash (ash a 2) 5 0), .ref (ash (ash a 2) 9 0), ii V0.1.2.2.2.1, .ref (ash a 2 13), ii V0.1.2.2.2.2.2.1, .ref (ash (ash a 2) 14 0), .ref (ash (ash a 2) 18 0), .ref (ash a 2 22)]))] ++ (c1 K 6 (ash (ash a 2) 1) V0.1.1 ++ (c1 K 6 (ash (ash a 2) 5) V0.1.2.1 ++ (c1 K 4 (ash (ash a 2) 9) V0.1.2.2.1 ++ ([(ash a 2 13, .inl (K.2.1, 6, .inl (arI V0.1.2.2.2.2.1)))]))))))) (c6 K (ash (ash a 2) 18) V0.1.2.2.2.2.2.2.2.1 ++ ([(ash a 2 22, .inl (K.2.1, 8, .inl (arI V0.1.2.2.2.2.2.2.2.2)))] ++ (c3 K (ash a 25) V0.2.2.1 ++ (c6 K (ash a 27) V0.2.2.2.1 ++ (c7 K (ash a 31) V0.2.2.2.2.1 ++ (c0 K (ash a 34) V0.2.2.2.2.2.1 ++ (c5 K (ash a 36) V0.2.2.2.2.2.2.1 ++ (c2 K (ash a 43) V0.2.1)))))))) rfl rfl rfl) rfl ?_
    refine g_istore_n X (lv' := [(2, ii v5), (0, .ref (a 0)), (1, ii p1)]) dX9_unmap_25 rfl (by decide) rfl ?_
    refine g_iload_n X dX9_unmap_26 0 rfl rfl ?_
    refine g_iconst X dX9_unmap_27 ?_
    refine g_icmp_ne X hf 38 dX9_unmap_28 (by decide) (fun hf => ?_) (fun hf => ?_)
    · refine g_aload_n X dX9_unmap_31 1 rfl rfl ?_
      refine g_bipush X dX9_unmap_32 (by decide +kernel) ?_
      obtain ⟨w7, hc8, hf⟩ := Option.bind_eq_some_iff.mp hf
      refine g_callV X (As := [ii (-3)]) (st := []) (st1 := [ii w7.1]) (ws' := c9 K a w7.2) (X9_refuse_ok K l a V0 (-3) w7 hc8) gX9_unmap_X9_refuse rfl 1 (by decide +kernel) ⟨rfl, rfl⟩ ⟨Nat.le_of_ble_eq_true rfl, Nat.le_of_ble_eq_true rfl⟩ ⟨Nat.zero_le _, Nat.zero_le _⟩ 0 rfl rfl rfl rfl (Nat.le_of_ble_eq_true rfl) dX9_unmap_34 (SG.all rfl) rfl ?_
      cases hf
      exact g_iret X hr hlk dX9_unmap_37
    · refine g_aload_n X dX9_unmap_38 1 rfl rfl ?_
      refine g_get X (v := .ref (ash a 43 0)) 0 1 dX9_unmap_39 rfl rfl iw_X9_unmap_X9 (by decide) fl_X9_unmap_19 rfl ?_
      refine g_aload_n X dX9_unmap_42 1 rfl rfl ?_
      refine g_get X (v := .ref (ash a 2 0)) 0 0 dX9_unmap_43 rfl rfl iw_X9_unmap_X9 (by decide) fl_X9_unmap_10 rfl ?_
      obtain ⟨v9, hc10, hf⟩ := Option.bind_eq_some_iff.mp hf
      refine g_callV X (As := [.ref (ash a 2 0)]) (st := []) (st1 := []) (ws' := c9 K a (V0.1, v9, V0.2.2.1, V0.2.2.2.1, V0.2.2.2.2.1, V0.2.2.2.2.2.1, V0.2.2.2.2.2.2.1, V0.2.2.2.2.2.2.2)) (X2_save_ok K l (ash a 2) (ash a 43) V0.1 V0.2.1 v9 hc10) gX9_unmap_X2_save rfl 1 (by decide +kernel) ⟨rfl, rfl⟩ ⟨Nat.le_of_ble_eq_true rfl, Nat.le_of_ble_eq_true rfl⟩ ⟨Nat.zero_le _, Nat.zero_le _⟩ 43 rfl rfl rfl rfl (Nat.le_of_ble_eq_true rfl) dX9_unmap_46 (SG.two ([(a 0, .inr (9, [.ref (ash a 2 0), .ref (ash a 43 0), .ref (ash a 25 0), .ref (ash a 27 0), .ref (ash a 31 0), .ref (ash a 34 0), .ref (ash a 36 0), .ref (a 1)]))] ++ ([(a 1, .inl (K.2.1, 4, .inl (arI V0.2.2.2.2.2.2.2)))])) (c3 K (ash a 25) V0.2.2.1 ++ (c6 K (ash a 27) V0.2.2.2.1 ++ (c7 K (ash a 31) V0.2.2.2.2.1 ++ (c0 K (ash a 34) V0.2.2.2.2.2.1 ++ (c5 K (ash a 36) V0.2.2.2.2.2.2.1))))) [] rfl rfl rfl) rfl ?_
      refine g_aload_n X dX9_unmap_49 1 rfl rfl ?_
      refine g_get X (v := .ref (ash a 2 0)) 0 0 dX9_unmap_50 rfl rfl iw_X9_unmap_X9 (by decide) fl_X9_unmap_10 rfl ?_
      refine g_get X (v := .ref (ash (ash a 2) 14 0)) 2 6 dX9_unmap_53 rfl rfl iw_X9_unmap_X8 (by decide) fl_X9_unmap_98 rfl ?_
      refine g_iload_n X dX9_unmap_56 2 rfl rfl ?_
      refine g_iconst X dX9_unmap_57 ?_
      obtain ⟨v11, hc12, hf⟩ := Option.bind_eq_some_iff.mp hf
      refine g_callV X (As := [ii p1, ii (-1)]) (st := []) (st1 := []) (ws' := c9 K a ((V0.1.1, V0.1.2.1, V0.1.2.2.1, V0.1.2.2.2.1, V0.1.2.2.2.2.1, V0.1.2.2.2.2.2.1, v11, V0.1.2.2.2.2.2.2.2.1, V0.1.2.2.2.2.2.2.2.2), v9, V0.2.2.1, V0.2.2.2.1, V0.2.2.2.2.1, V0.2.2.2.2.2.1, V0.2.2.2.2.2.2.1, V0.2.2.2.2.2.2.2)) (X4_putTarget_ok K l (ash (ash a 2) 14) V0.1.2.2.2.2.2.2.1 p1 (-1) v11 hc12) gX9_unmap_X4_putTarget rfl 2 (by decide +kernel) ⟨rfl, rfl⟩ ⟨Nat.le_of_ble_eq_true rfl, Nat.le_of_ble_eq_true rfl⟩ ⟨Nat.zero_le _, Nat.zero_le _⟩ 16 rfl rfl rfl rfl (Nat.le_of_ble_eq_true rfl) dX9_unmap_58 (SG.one ([(a 0, .inr (9, [.ref (ash a 2 0), .ref (ash a 43 0), .ref (ash a 25 0), .ref (ash a 27 0), .ref (ash a 31 0), .ref (ash a 34 0), .ref (ash a 36 0), .ref (a 1)]))] ++ ([(a 1, .inl (K.2.1, 4, .inl (arI V0.2.2.2.2.2.2.2)))] ++ ([(ash a 2 0, .inr (8, [.ref (ash (ash a 2) 1 0), .ref (ash (ash a 2) 5 0), .ref (ash (ash a 2) 9 0), ii V0.1.2.2.2.1, .ref (ash a 2 13), ii V0.1.2.2.2.2.2.1, .ref (ash (ash a 2) 14 0), .ref (ash (ash a 2) 18 0), .ref (ash a 2 22)]))] ++ (c1 K 6 (ash (ash a 2) 1) V0.1.1 ++ (c1 K 6 (ash (ash a 2) 5) V0.1.2.1 ++ (c1 K 4 (ash (ash a 2) 9) V0.1.2.2.1 ++ ([(ash a 2 13, .inl (K.2.1, 6, .inl (arI V0.1.2.2.2.2.1)))]))))))) (c6 K (ash (ash a 2) 18) V0.1.2.2.2.2.2.2.2.1 ++ ([(ash a 2 22, .inl (K.2.1, 8, .inl (arI V0.1.2.2.2.2.2.2.2.2)))] ++ (c3 K (ash a 25) V0.2.2.1 ++ (c6 K (ash a 27) V0.2.2.2.1 ++ (c7 K (ash a 31) V0.2.2.2.2.1 ++ (c0 K (ash a 34) V0.2.2.2.2.2.1 ++ (c5 K (ash a 36) V0.2.2.2.2.2.2.1 ++ (c2 K (ash a 43) v9)))))))) rfl rfl rfl) rfl ?_
      refine g_iload_n X dX9_unmap_61 0 rfl rfl ?_
      cases hf
      exact g_iret X hr hlk dX9_unmap_62
set_option maxHeartbeats 4000000 in
set_option maxRecDepth 100000 in
theorem X9_unmap_ok (K : KE) (l : Launch) (a : Nat → Nat) (V0 : CM) (p1 : Int) (res : Int × CM) (hf : X9_unmap V0 p1 = some res) : CT l K.1 vwCl (kT K) yX9_unmap wsX9_unmap rmX9_unmap [.ref (a 0), ii p1] (some (ii res.1)) (c9 K a V0) (c9 K a res.2) :=
  CT.mk (cc := cX9_unmap) (maxL := 3) (ret := (some .int)) (by decide) rfl (Nat.le_of_ble_eq_true rfl) (fun p e s m below meth c X hr hlk => X9_unmap_go K l a _ X hr hlk V0 p1 res hf)
theorem iw_X9_changeEntry_X9 : ∀ w ∈ u_ws RX9 TX9 8, w ∈ wsX9_changeEntry := by decide +kernel
theorem fl_X9_changeEntry_10 : Cond.fieldLink RX9 10 (TX9 0).1 (TX9 0).2.1 (TX9 0).2.2.1 ∈ wsX9_changeEntry := by decide +kernel
theorem iw_X9_changeEntry_X8 : ∀ w ∈ u_ws RX8 TX8 9, w ∈ wsX9_changeEntry := by decide +kernel
theorem fl_X9_changeEntry_98 : Cond.fieldLink RX9 98 (TX8 6).1 (TX8 6).2.1 (TX8 6).2.2.1 ∈ wsX9_changeEntry := by decide +kernel
theorem fl_X9_changeEntry_19 : Cond.fieldLink RX9 19 (TX9 1).1 (TX9 1).2.1 (TX9 1).2.2.1 ∈ wsX9_changeEntry := by decide +kernel
def rmX9_changeEntry : Room := { frames := 7, cells := 0, slots := 0, locals := 161 }
def X9_changeEntry (V0 : CM) (p1 : Int) (p2 : Int) (p3 : Int) (p4 : Int) : Option (Int × CM) := (X4_targetOf V0.1.2.2.2.2.2.2.1 p1).bind (fun v1 => brEQ v1 (-1) ((X9_refuse V0 (-3)).bind (fun w3 => some (w3.1, w3.2))) ((X2_save V0.1 V0.2.1).bind (fun v5 => (X4_putEntry V0.1.2.2.2.2.2.2.1 p1 p2 p3 p4).bind (fun v7 => (X9_faithfulness ((V0.1.1, V0.1.2.1, V0.1.2.2.1, V0.1.2.2.2.1, V0.1.2.2.2.2.1, V0.1.2.2.2.2.2.1, v7, V0.1.2.2.2.2.2.2.2.1, V0.1.2.2.2.2.2.2.2.2), v5, V0.2.2.1, V0.2.2.2.1, V0.2.2.2.2.1, V0.2.2.2.2.2.1, V0.2.2.2.2.2.2.1, V0.2.2.2.2.2.2.2) p1).bind (fun v9 => some (v9, ((V0.1.1, V0.1.2.1, V0.1.2.2.1, V0.1.2.2.2.1, V0.1.2.2.2.2.1, V0.1.2.2.2.2.2.1, v7, V0.1.2.2.2.2.2.2.2.1, V0.1.2.2.2.2.2.2.2.2), v5, V0.2.2.1, V0.2.2.2.1, V0.2.2.2.2.1, V0.2.2.2.2.2.1, V0.2.2.2.2.2.2.1, V0.2.2.2.2.2.2.2)))))))
set_option maxHeartbeats 4000000 in
set_option maxRecDepth 100000 in
theorem X9_changeEntry_go (K : KE) (l : Launch) (a : Nat → Nat) (WC : va_W) {p : Program} {e : Env} {s : State} {m : MethodId} {args : Array Value} {below : List Frame} {meth : Method} {c : Code} (X : CX p s m args c K.1 vwCl (kT K) (va_A WC s.heap.size) cX9_changeEntry 5 wsX9_changeEntry RX9) (hr : meth.sig.returnType = (some .int)) (hlk : meth.locks = false) (V0 : CM) (p1 : Int) (p2 : Int) (p3 : Int) (p4 : Int) (res : Int × CM) (hf : X9_changeEntry V0 p1 p2 p3 p4 = some res) : GO p l e rmX9_changeEntry s m args below meth c K.1 vwCl (va_A WC s.heap.size) (MQ below (QC K.1 vwCl (some (ii res.1)) WC (c9 K a res.2) s.heap.size) args s 0 0 (va_A WC s.heap.size)) 5 0 0 0 [(0, .ref (a 0)), (1, ii p1), (2, ii p2), (3, ii p3), (4, ii p4)] [] (c9 K a V0) := by
  rw [X9_changeEntry] at hf
  refine g_aload_n X dX9_changeEntry_0 0 rfl rfl ?_
  refine g_get X (v := .ref (ash a 2 0)) 0 0 dX9_changeEntry_1 rfl rfl iw_X9_changeEntry_X9 (by decide) fl_X9_changeEntry_10 rfl ?_
  refine g_get X (v := .ref (ash (ash a 2) 14 0)) 2 6 dX9_changeEntry_4 rfl rfl iw_X9_changeEntry_X8 (by decide) fl_X9_changeEntry_98 rfl ?_
  refine g_iload_n X dX9_changeEntry_7 1 rfl rfl ?_
  obtain ⟨v1, hc2, hf⟩ := Option.bind_eq_some_iff.mp hf
  refine g_callV X (As := [ii p1]) (st := []) (st1 := [ii v1]) (ws' := c9 K a V0) (X4_targetOf_ok K l (ash (ash a 2) 14) V0.1.2.2.2.2.2.2.1 p1 v1 hc2) gX9_changeEntry_X4_targetOf rfl 1 (by decide +kernel) ⟨rfl, rfl⟩ ⟨Nat.le_of_ble_eq_true rfl, Nat.le_of_ble_eq_true rfl⟩ ⟨Nat.zero_le _, Nat.zero_le _⟩ 16 rfl rfl rfl rfl (Nat.le_of_ble_eq_true rfl) dX9_changeEntry_8 (SG.one ([(a 0, .inr (9, [.ref (ash a 2 0), .ref (ash a 43 0), .ref (ash a 25 0), .ref (ash a 27 0), .ref (ash a 31 0), .ref (ash a 34 0), .ref (ash a 36 0), .ref (a 1)]))] ++ ([(a 1, .inl (K.2.1, 4, .inl (arI V0.2.2.2.2.2.2.2)))] ++ ([(ash a 2 0, .inr (8, [.ref (ash (ash a 2) 1 0), .ref (ash (ash a 2) 5 0), .ref (ash (ash a 2) 9 0), ii V0.1.2.2.2.1, .ref (ash a 2 13), ii V0.1.2.2.2.2.2.1, .ref (ash (ash a 2) 14 0), .ref (ash (ash a 2) 18 0), .ref (ash a 2 22)]))] ++ (c1 K 6 (ash (ash a 2) 1) V0.1.1 ++ (c1 K 6 (ash (ash a 2) 5) V0.1.2.1 ++ (c1 K 4 (ash (ash a 2) 9) V0.1.2.2.1 ++ ([(ash a 2 13, .inl (K.2.1, 6, .inl (arI V0.1.2.2.2.2.1)))]))))))) (c6 K (ash (ash a 2) 18) V0.1.2.2.2.2.2.2.2.1 ++ ([(ash a 2 22, .inl (K.2.1, 8, .inl (arI V0.1.2.2.2.2.2.2.2.2)))] ++ (c3 K (ash a 25) V0.2.2.1 ++ (c6 K (ash a 27) V0.2.2.2.1 ++ (c7 K (ash a 31) V0.2.2.2.2.1 ++ (c0 K (ash a 34) V0.2.2.2.2.2.1 ++ (c5 K (ash a 36) V0.2.2.2.2.2.2.1 ++ (c2 K (ash a 43) V0.2.1)))))))) rfl rfl rfl) rfl ?_
  refine g_iconst X dX9_changeEntry_11 ?_
  refine g_icmp_ne X hf 22 dX9_changeEntry_12 (by decide) (fun hf => ?_) (fun hf => ?_)
  · refine g_aload_n X dX9_changeEntry_15 0 rfl rfl ?_
    refine g_bipush X dX9_changeEntry_16 (by decide +kernel) ?_
    obtain ⟨w3, hc4, hf⟩ := Option.bind_eq_some_iff.mp hf
    refine g_callV X (As := [ii (-3)]) (st := []) (st1 := [ii w3.1]) (ws' := c9 K a w3.2) (X9_refuse_ok K l a V0 (-3) w3 hc4) gX9_changeEntry_X9_refuse rfl 1 (by decide +kernel) ⟨rfl, rfl⟩ ⟨Nat.le_of_ble_eq_true rfl, Nat.le_of_ble_eq_true rfl⟩ ⟨Nat.zero_le _, Nat.zero_le _⟩ 0 rfl rfl rfl rfl (Nat.le_of_ble_eq_true rfl) dX9_changeEntry_18 (SG.all rfl) rfl ?_
    cases hf
    exact g_iret X hr hlk dX9_changeEntry_21
  · refine g_aload_n X dX9_changeEntry_22 0 rfl rfl ?_
    refine g_get X (v := .ref (ash a 43 0)) 0 1 dX9_changeEntry_23 rfl rfl iw_X9_changeEntry_X9 (by decide) fl_X9_changeEntry_19 rfl ?_
    refine g_aload_n X dX9_changeEntry_26 0 rfl rfl ?_
    refine g_get X (v := .ref (ash a 2 0)) 0 0 dX9_changeEntry_27 rfl rfl iw_X9_changeEntry_X9 (by decide) fl_X9_changeEntry_10 rfl ?_
    obtain ⟨v5, hc6, hf⟩ := Option.bind_eq_some_iff.mp hf
    refine g_callV X (As := [.ref (ash a 2 0)]) (st := []) (st1 := []) (ws' := c9 K a (V0.1, v5, V0.2.2.1, V0.2.2.2.1, V0.2.2.2.2.1, V0.2.2.2.2.2.1, V0.2.2.2.2.2.2.1, V0.2.2.2.2.2.2.2)) (X2_save_ok K l (ash a 2) (ash a 43) V0.1 V0.2.1 v5 hc6) gX9_changeEntry_X2_save rfl 1 (by decide +kernel) ⟨rfl, rfl⟩ ⟨Nat.le_of_ble_eq_true rfl, Nat.le_of_ble_eq_true rfl⟩ ⟨Nat.zero_le _, Nat.zero_le _⟩ 43 rfl rfl rfl rfl (Nat.le_of_ble_eq_true rfl) dX9_changeEntry_30 (SG.two ([(a 0, .inr (9, [.ref (ash a 2 0), .ref (ash a 43 0), .ref (ash a 25 0), .ref (ash a 27 0), .ref (ash a 31 0), .ref (ash a 34 0), .ref (ash a 36 0), .ref (a 1)]))] ++ ([(a 1, .inl (K.2.1, 4, .inl (arI V0.2.2.2.2.2.2.2)))])) (c3 K (ash a 25) V0.2.2.1 ++ (c6 K (ash a 27) V0.2.2.2.1 ++ (c7 K (ash a 31) V0.2.2.2.2.1 ++ (c0 K (ash a 34) V0.2.2.2.2.2.1 ++ (c5 K (ash a 36) V0.2.2.2.2.2.2.1))))) [] rfl rfl rfl) rfl ?_
    refine g_aload_n X dX9_changeEntry_33 0 rfl rfl ?_
    refine g_get X (v := .ref (ash a 2 0)) 0 0 dX9_changeEntry_34 rfl rfl iw_X9_changeEntry_X9 (by decide) fl_X9_changeEntry_10 rfl ?_
    refine g_get X (v := .ref (ash (ash a 2) 14 0)) 2 6 dX9_changeEntry_37 rfl rfl iw_X9_changeEntry_X8 (by decide) fl_X9_changeEntry_98 rfl ?_
    refine g_iload_n X dX9_changeEntry_40 1 rfl rfl ?_
    refine g_iload_n X dX9_changeEntry_41 2 rfl rfl ?_
    refine g_iload_n X dX9_changeEntry_42 3 rfl rfl ?_
    refine g_iload X dX9_changeEntry_43 4 rfl ?_
    obtain ⟨v7, hc8, hf⟩ := Option.bind_eq_some_iff.mp hf
    refine g_callV X (As := [ii p1, ii p2, ii p3, ii p4]) (st := []) (st1 := []) (ws' := c9 K a ((V0.1.1, V0.1.2.1, V0.1.2.2.1, V0.1.2.2.2.1, V0.1.2.2.2.2.1, V0.1.2.2.2.2.2.1, v7, V0.1.2.2.2.2.2.2.2.1, V0.1.2.2.2.2.2.2.2.2), v5, V0.2.2.1, V0.2.2.2.1, V0.2.2.2.2.1, V0.2.2.2.2.2.1, V0.2.2.2.2.2.2.1, V0.2.2.2.2.2.2.2)) (X4_putEntry_ok K l (ash (ash a 2) 14) V0.1.2.2.2.2.2.2.1 p1 p2 p3 p4 v7 hc8) gX9_changeEntry_X4_putEntry rfl 4 (by decide +kernel) ⟨rfl, rfl⟩ ⟨Nat.le_of_ble_eq_true rfl, Nat.le_of_ble_eq_true rfl⟩ ⟨Nat.zero_le _, Nat.zero_le _⟩ 16 rfl rfl rfl rfl (Nat.le_of_ble_eq_true rfl) dX9_changeEntry_45 (SG.one ([(a 0, .inr (9, [.ref (ash a 2 0), .ref (ash a 43 0), .ref (ash a 25 0), .ref (ash a 27 0), .ref (ash a 31 0), .ref (ash a 34 0), .ref (ash a 36 0), .ref (a 1)]))] ++ ([(a 1, .inl (K.2.1, 4, .inl (arI V0.2.2.2.2.2.2.2)))] ++ ([(ash a 2 0, .inr (8, [.ref (ash (ash a 2) 1 0), .ref (ash (ash a 2) 5 0), .ref (ash (ash a 2) 9 0), ii V0.1.2.2.2.1, .ref (ash a 2 13), ii V0.1.2.2.2.2.2.1, .ref (ash (ash a 2) 14 0), .ref (ash (ash a 2) 18 0), .ref (ash a 2 22)]))] ++ (c1 K 6 (ash (ash a 2) 1) V0.1.1 ++ (c1 K 6 (ash (ash a 2) 5) V0.1.2.1 ++ (c1 K 4 (ash (ash a 2) 9) V0.1.2.2.1 ++ ([(ash a 2 13, .inl (K.2.1, 6, .inl (arI V0.1.2.2.2.2.1)))]))))))) (c6 K (ash (ash a 2) 18) V0.1.2.2.2.2.2.2.2.1 ++ ([(ash a 2 22, .inl (K.2.1, 8, .inl (arI V0.1.2.2.2.2.2.2.2.2)))] ++ (c3 K (ash a 25) V0.2.2.1 ++ (c6 K (ash a 27) V0.2.2.2.1 ++ (c7 K (ash a 31) V0.2.2.2.2.1 ++ (c0 K (ash a 34) V0.2.2.2.2.2.1 ++ (c5 K (ash a 36) V0.2.2.2.2.2.2.1 ++ (c2 K (ash a 43) v5)))))))) rfl rfl rfl) rfl ?_
    refine g_aload_n X dX9_changeEntry_48 0 rfl rfl ?_
    refine g_iload_n X dX9_changeEntry_49 1 rfl rfl ?_
    obtain ⟨v9, hc10, hf⟩ := Option.bind_eq_some_iff.mp hf
    refine g_callV X (As := [ii p1]) (st := []) (st1 := [ii v9]) (ws' := c9 K a ((V0.1.1, V0.1.2.1, V0.1.2.2.1, V0.1.2.2.2.1, V0.1.2.2.2.2.1, V0.1.2.2.2.2.2.1, v7, V0.1.2.2.2.2.2.2.2.1, V0.1.2.2.2.2.2.2.2.2), v5, V0.2.2.1, V0.2.2.2.1, V0.2.2.2.2.1, V0.2.2.2.2.2.1, V0.2.2.2.2.2.2.1, V0.2.2.2.2.2.2.2)) (X9_faithfulness_ok K l a ((V0.1.1, V0.1.2.1, V0.1.2.2.1, V0.1.2.2.2.1, V0.1.2.2.2.2.1, V0.1.2.2.2.2.2.1, v7, V0.1.2.2.2.2.2.2.2.1, V0.1.2.2.2.2.2.2.2.2), v5, V0.2.2.1, V0.2.2.2.1, V0.2.2.2.2.1, V0.2.2.2.2.2.1, V0.2.2.2.2.2.2.1, V0.2.2.2.2.2.2.2) p1 v9 hc10) gX9_changeEntry_X9_faithfulness rfl 1 (by decide +kernel) ⟨rfl, rfl⟩ ⟨Nat.le_of_ble_eq_true rfl, Nat.le_of_ble_eq_true rfl⟩ ⟨Nat.zero_le _, Nat.zero_le _⟩ 0 rfl rfl rfl rfl (Nat.le_of_ble_eq_true rfl) dX9_changeEntry_50 (SG.all rfl) rfl ?_
    cases hf
    exact g_iret X hr hlk dX9_changeEntry_53
set_option maxHeartbeats 4000000 in
set_option maxRecDepth 100000 in
theorem X9_changeEntry_ok (K : KE) (l : Launch) (a : Nat → Nat) (V0 : CM) (p1 : Int) (p2 : Int) (p3 : Int) (p4 : Int) (res : Int × CM) (hf : X9_changeEntry V0 p1 p2 p3 p4 = some res) : CT l K.1 vwCl (kT K) yX9_changeEntry wsX9_changeEntry rmX9_changeEntry [.ref (a 0), ii p1, ii p2, ii p3, ii p4] (some (ii res.1)) (c9 K a V0) (c9 K a res.2) :=
  CT.mk (cc := cX9_changeEntry) (maxL := 5) (ret := (some .int)) (by decide) rfl (Nat.le_of_ble_eq_true rfl) (fun p e s m below meth c X hr hlk => X9_changeEntry_go K l a _ X hr hlk V0 p1 p2 p3 p4 res hf)
def rmX9_setSource : Room := { frames := 8, cells := 0, slots := 0, locals := 185 }
def X9_setSource (V0 : CM) (p1 : Int) (p2 : Int) (p3 : Int) : Option (Int × CM) := (X9_isOld p1).bind (fun v1 => brEQ v1 0 ((X9_refuse V0 (-2)).bind (fun w3 => some (w3.1, w3.2))) ((X9_isEntryPosition p2).bind (fun v5 => brEQ v5 0 ((X9_refuse V0 (-2)).bind (fun w7 => some (w7.1, w7.2))) ((X9_isSource p3).bind (fun v9 => brEQ v9 0 ((X9_refuse V0 (-2)).bind (fun w11 => some (w11.1, w11.2))) ((X9_changeEntry V0 p1 p2 p3 0).bind (fun w13 => some (w13.1, w13.2))))))))
set_option maxHeartbeats 4000000 in
set_option maxRecDepth 100000 in
theorem X9_setSource_go (K : KE) (l : Launch) (a : Nat → Nat) (WC : va_W) {p : Program} {e : Env} {s : State} {m : MethodId} {args : Array Value} {below : List Frame} {meth : Method} {c : Code} (X : CX p s m args c K.1 vwCl (kT K) (va_A WC s.heap.size) cX9_setSource 4 wsX9_setSource RX9) (hr : meth.sig.returnType = (some .int)) (hlk : meth.locks = false) (V0 : CM) (p1 : Int) (p2 : Int) (p3 : Int) (res : Int × CM) (hf : X9_setSource V0 p1 p2 p3 = some res) : GO p l e rmX9_setSource s m args below meth c K.1 vwCl (va_A WC s.heap.size) (MQ below (QC K.1 vwCl (some (ii res.1)) WC (c9 K a res.2) s.heap.size) args s 0 0 (va_A WC s.heap.size)) 4 0 0 0 [(0, .ref (a 0)), (1, ii p1), (2, ii p2), (3, ii p3)] [] (c9 K a V0) := by
  rw [X9_setSource] at hf
  refine g_iload_n X dX9_setSource_0 1 rfl rfl ?_
  obtain ⟨v1, hc2, hf⟩ := Option.bind_eq_some_iff.mp hf
  refine g_callS X (As := [ii p1]) (st := []) (st1 := [ii v1]) (ws' := c9 K a V0) (X9_isOld_ok K l p1 v1 hc2) gX9_setSource_X9_isOld rfl 1 (by decide +kernel) ⟨rfl, rfl⟩ ⟨Nat.le_of_ble_eq_true rfl, Nat.le_of_ble_eq_true rfl⟩ ⟨Nat.zero_le _, Nat.zero_le _⟩ rfl rfl (Nat.le_of_ble_eq_true rfl) dX9_setSource_1 SG.none rfl ?_
  refine g_if_eq X hf 21 dX9_setSource_4 (by decide) (fun hf => ?_) (fun hf => ?_)
  · refine g_aload_n X dX9_setSource_21 0 rfl rfl ?_
    refine g_bipush X dX9_setSource_22 (by decide +kernel) ?_
    obtain ⟨w3, hc4, hf⟩ := Option.bind_eq_some_iff.mp hf
    refine g_callV X (As := [ii (-2)]) (st := []) (st1 := [ii w3.1]) (ws' := c9 K a w3.2) (X9_refuse_ok K l a V0 (-2) w3 hc4) gX9_setSource_X9_refuse rfl 1 (by decide +kernel) ⟨rfl, rfl⟩ ⟨Nat.le_of_ble_eq_true rfl, Nat.le_of_ble_eq_true rfl⟩ ⟨Nat.zero_le _, Nat.zero_le _⟩ 0 rfl rfl rfl rfl (Nat.le_of_ble_eq_true rfl) dX9_setSource_24 (SG.all rfl) rfl ?_
    cases hf
    exact g_iret X hr hlk dX9_setSource_27
  · refine g_iload_n X dX9_setSource_7 2 rfl rfl ?_
    obtain ⟨v5, hc6, hf⟩ := Option.bind_eq_some_iff.mp hf
    refine g_callS X (As := [ii p2]) (st := []) (st1 := [ii v5]) (ws' := c9 K a V0) (X9_isEntryPosition_ok K l p2 v5 hc6) gX9_setSource_X9_isEntryPosition rfl 1 (by decide +kernel) ⟨rfl, rfl⟩ ⟨Nat.le_of_ble_eq_true rfl, Nat.le_of_ble_eq_true rfl⟩ ⟨Nat.zero_le _, Nat.zero_le _⟩ rfl rfl (Nat.le_of_ble_eq_true rfl) dX9_setSource_8 SG.none rfl ?_
    refine g_if_eq X hf 21 dX9_setSource_11 (by decide) (fun hf => ?_) (fun hf => ?_)
    · refine g_aload_n X dX9_setSource_21 0 rfl rfl ?_
      refine g_bipush X dX9_setSource_22 (by decide +kernel) ?_
      obtain ⟨w7, hc8, hf⟩ := Option.bind_eq_some_iff.mp hf
      refine g_callV X (As := [ii (-2)]) (st := []) (st1 := [ii w7.1]) (ws' := c9 K a w7.2) (X9_refuse_ok K l a V0 (-2) w7 hc8) gX9_setSource_X9_refuse rfl 1 (by decide +kernel) ⟨rfl, rfl⟩ ⟨Nat.le_of_ble_eq_true rfl, Nat.le_of_ble_eq_true rfl⟩ ⟨Nat.zero_le _, Nat.zero_le _⟩ 0 rfl rfl rfl rfl (Nat.le_of_ble_eq_true rfl) dX9_setSource_24 (SG.all rfl) rfl ?_
      cases hf
      exact g_iret X hr hlk dX9_setSource_27
    · refine g_iload_n X dX9_setSource_14 3 rfl rfl ?_
      obtain ⟨v9, hc10, hf⟩ := Option.bind_eq_some_iff.mp hf
      refine g_callS X (As := [ii p3]) (st := []) (st1 := [ii v9]) (ws' := c9 K a V0) (X9_isSource_ok K l p3 v9 hc10) gX9_setSource_X9_isSource rfl 1 (by decide +kernel) ⟨rfl, rfl⟩ ⟨Nat.le_of_ble_eq_true rfl, Nat.le_of_ble_eq_true rfl⟩ ⟨Nat.zero_le _, Nat.zero_le _⟩ rfl rfl (Nat.le_of_ble_eq_true rfl) dX9_setSource_15 SG.none rfl ?_
      refine g_if_ne X hf 28 dX9_setSource_18 (by decide) (fun hf => ?_) (fun hf => ?_)
      · refine g_aload_n X dX9_setSource_21 0 rfl rfl ?_
        refine g_bipush X dX9_setSource_22 (by decide +kernel) ?_
        obtain ⟨w11, hc12, hf⟩ := Option.bind_eq_some_iff.mp hf
        refine g_callV X (As := [ii (-2)]) (st := []) (st1 := [ii w11.1]) (ws' := c9 K a w11.2) (X9_refuse_ok K l a V0 (-2) w11 hc12) gX9_setSource_X9_refuse rfl 1 (by decide +kernel) ⟨rfl, rfl⟩ ⟨Nat.le_of_ble_eq_true rfl, Nat.le_of_ble_eq_true rfl⟩ ⟨Nat.zero_le _, Nat.zero_le _⟩ 0 rfl rfl rfl rfl (Nat.le_of_ble_eq_true rfl) dX9_setSource_24 (SG.all rfl) rfl ?_
        cases hf
        exact g_iret X hr hlk dX9_setSource_27
      · refine g_aload_n X dX9_setSource_28 0 rfl rfl ?_
        refine g_iload_n X dX9_setSource_29 1 rfl rfl ?_
        refine g_iload_n X dX9_setSource_30 2 rfl rfl ?_
        refine g_iload_n X dX9_setSource_31 3 rfl rfl ?_
        refine g_iconst X dX9_setSource_32 ?_
        obtain ⟨w13, hc14, hf⟩ := Option.bind_eq_some_iff.mp hf
        refine g_callV X (As := [ii p1, ii p2, ii p3, ii 0]) (st := []) (st1 := [ii w13.1]) (ws' := c9 K a w13.2) (X9_changeEntry_ok K l a V0 p1 p2 p3 0 w13 hc14) gX9_setSource_X9_changeEntry rfl 4 (by decide +kernel) ⟨rfl, rfl⟩ ⟨Nat.le_of_ble_eq_true rfl, Nat.le_of_ble_eq_true rfl⟩ ⟨Nat.zero_le _, Nat.zero_le _⟩ 0 rfl rfl rfl rfl (Nat.le_of_ble_eq_true rfl) dX9_setSource_33 (SG.all rfl) rfl ?_
        cases hf
        exact g_iret X hr hlk dX9_setSource_36
set_option maxHeartbeats 4000000 in
set_option maxRecDepth 100000 in
theorem X9_setSource_ok (K : KE) (l : Launch) (a : Nat → Nat) (V0 : CM) (p1 : Int) (p2 : Int) (p3 : Int) (res : Int × CM) (hf : X9_setSource V0 p1 p2 p3 = some res) : CT l K.1 vwCl (kT K) yX9_setSource wsX9_setSource rmX9_setSource [.ref (a 0), ii p1, ii p2, ii p3] (some (ii res.1)) (c9 K a V0) (c9 K a res.2) :=
  CT.mk (cc := cX9_setSource) (maxL := 4) (ret := (some .int)) (by decide) rfl (Nat.le_of_ble_eq_true rfl) (fun p e s m below meth c X hr hlk => X9_setSource_go K l a _ X hr hlk V0 p1 p2 p3 res hf)
def rmX9_setConstant : Room := { frames := 8, cells := 0, slots := 0, locals := 185 }
def X9_setConstant (V0 : CM) (p1 : Int) (p2 : Int) (p3 : Int) : Option (Int × CM) := (X9_isOld p1).bind (fun v1 => brEQ v1 0 ((X9_refuse V0 (-2)).bind (fun w3 => some (w3.1, w3.2))) ((X9_isEntryPosition p2).bind (fun v5 => brEQ v5 0 ((X9_refuse V0 (-2)).bind (fun w7 => some (w7.1, w7.2))) ((X9_within p3 0 99).bind (fun v9 => brEQ v9 0 ((X9_refuse V0 (-2)).bind (fun w11 => some (w11.1, w11.2))) ((X9_changeEntry V0 p1 p2 (-1) p3).bind (fun w13 => some (w13.1, w13.2))))))))
set_option maxHeartbeats 4000000 in
set_option maxRecDepth 100000 in
theorem X9_setConstant_go (K : KE) (l : Launch) (a : Nat → Nat) (WC : va_W) {p : Program} {e : Env} {s : State} {m : MethodId} {args : Array Value} {below : List Frame} {meth : Method} {c : Code} (X : CX p s m args c K.1 vwCl (kT K) (va_A WC s.heap.size) cX9_setConstant 4 wsX9_setConstant RX9) (hr : meth.sig.returnType = (some .int)) (hlk : meth.locks = false) (V0 : CM) (p1 : Int) (p2 : Int) (p3 : Int) (res : Int × CM) (hf : X9_setConstant V0 p1 p2 p3 = some res) : GO p l e rmX9_setConstant s m args below meth c K.1 vwCl (va_A WC s.heap.size) (MQ below (QC K.1 vwCl (some (ii res.1)) WC (c9 K a res.2) s.heap.size) args s 0 0 (va_A WC s.heap.size)) 4 0 0 0 [(0, .ref (a 0)), (1, ii p1), (2, ii p2), (3, ii p3)] [] (c9 K a V0) := by
  rw [X9_setConstant] at hf
  refine g_iload_n X dX9_setConstant_0 1 rfl rfl ?_
  obtain ⟨v1, hc2, hf⟩ := Option.bind_eq_some_iff.mp hf
  refine g_callS X (As := [ii p1]) (st := []) (st1 := [ii v1]) (ws' := c9 K a V0) (X9_isOld_ok K l p1 v1 hc2) gX9_setConstant_X9_isOld rfl 1 (by decide +kernel) ⟨rfl, rfl⟩ ⟨Nat.le_of_ble_eq_true rfl, Nat.le_of_ble_eq_true rfl⟩ ⟨Nat.zero_le _, Nat.zero_le _⟩ rfl rfl (Nat.le_of_ble_eq_true rfl) dX9_setConstant_1 SG.none rfl ?_
  refine g_if_eq X hf 24 dX9_setConstant_4 (by decide) (fun hf => ?_) (fun hf => ?_)
  · refine g_aload_n X dX9_setConstant_24 0 rfl rfl ?_
    refine g_bipush X dX9_setConstant_25 (by decide +kernel) ?_
    obtain ⟨w3, hc4, hf⟩ := Option.bind_eq_some_iff.mp hf
    refine g_callV X (As := [ii (-2)]) (st := []) (st1 := [ii w3.1]) (ws' := c9 K a w3.2) (X9_refuse_ok K l a V0 (-2) w3 hc4) gX9_setConstant_X9_refuse rfl 1 (by decide +kernel) ⟨rfl, rfl⟩ ⟨Nat.le_of_ble_eq_true rfl, Nat.le_of_ble_eq_true rfl⟩ ⟨Nat.zero_le _, Nat.zero_le _⟩ 0 rfl rfl rfl rfl (Nat.le_of_ble_eq_true rfl) dX9_setConstant_27 (SG.all rfl) rfl ?_
    cases hf
    exact g_iret X hr hlk dX9_setConstant_30
  · refine g_iload_n X dX9_setConstant_7 2 rfl rfl ?_
    obtain ⟨v5, hc6, hf⟩ := Option.bind_eq_some_iff.mp hf
    refine g_callS X (As := [ii p2]) (st := []) (st1 := [ii v5]) (ws' := c9 K a V0) (X9_isEntryPosition_ok K l p2 v5 hc6) gX9_setConstant_X9_isEntryPosition rfl 1 (by decide +kernel) ⟨rfl, rfl⟩ ⟨Nat.le_of_ble_eq_true rfl, Nat.le_of_ble_eq_true rfl⟩ ⟨Nat.zero_le _, Nat.zero_le _⟩ rfl rfl (Nat.le_of_ble_eq_true rfl) dX9_setConstant_8 SG.none rfl ?_
    refine g_if_eq X hf 24 dX9_setConstant_11 (by decide) (fun hf => ?_) (fun hf => ?_)
    · refine g_aload_n X dX9_setConstant_24 0 rfl rfl ?_
      refine g_bipush X dX9_setConstant_25 (by decide +kernel) ?_
      obtain ⟨w7, hc8, hf⟩ := Option.bind_eq_some_iff.mp hf
      refine g_callV X (As := [ii (-2)]) (st := []) (st1 := [ii w7.1]) (ws' := c9 K a w7.2) (X9_refuse_ok K l a V0 (-2) w7 hc8) gX9_setConstant_X9_refuse rfl 1 (by decide +kernel) ⟨rfl, rfl⟩ ⟨Nat.le_of_ble_eq_true rfl, Nat.le_of_ble_eq_true rfl⟩ ⟨Nat.zero_le _, Nat.zero_le _⟩ 0 rfl rfl rfl rfl (Nat.le_of_ble_eq_true rfl) dX9_setConstant_27 (SG.all rfl) rfl ?_
      cases hf
      exact g_iret X hr hlk dX9_setConstant_30
    · refine g_iload_n X dX9_setConstant_14 3 rfl rfl ?_
      refine g_iconst X dX9_setConstant_15 ?_
      refine g_bipush X dX9_setConstant_16 (by decide +kernel) ?_
      obtain ⟨v9, hc10, hf⟩ := Option.bind_eq_some_iff.mp hf
      refine g_callS X (As := [ii p3, ii 0, ii 99]) (st := []) (st1 := [ii v9]) (ws' := c9 K a V0) (X9_within_ok K l p3 0 99 v9 hc10) gX9_setConstant_X9_within rfl 3 (by decide +kernel) ⟨rfl, rfl⟩ ⟨Nat.le_of_ble_eq_true rfl, Nat.le_of_ble_eq_true rfl⟩ ⟨Nat.zero_le _, Nat.zero_le _⟩ rfl rfl (Nat.le_of_ble_eq_true rfl) dX9_setConstant_18 SG.none rfl ?_
      refine g_if_ne X hf 31 dX9_setConstant_21 (by decide) (fun hf => ?_) (fun hf => ?_)
      · refine g_aload_n X dX9_setConstant_24 0 rfl rfl ?_
        refine g_bipush X dX9_setConstant_25 (by decide +kernel) ?_
        obtain ⟨w11, hc12, hf⟩ := Option.bind_eq_some_iff.mp hf
        refine g_callV X (As := [ii (-2)]) (st := []) (st1 := [ii w11.1]) (ws' := c9 K a w11.2) (X9_refuse_ok K l a V0 (-2) w11 hc12) gX9_setConstant_X9_refuse rfl 1 (by decide +kernel) ⟨rfl, rfl⟩ ⟨Nat.le_of_ble_eq_true rfl, Nat.le_of_ble_eq_true rfl⟩ ⟨Nat.zero_le _, Nat.zero_le _⟩ 0 rfl rfl rfl rfl (Nat.le_of_ble_eq_true rfl) dX9_setConstant_27 (SG.all rfl) rfl ?_
        cases hf
        exact g_iret X hr hlk dX9_setConstant_30
      · refine g_aload_n X dX9_setConstant_31 0 rfl rfl ?_
        refine g_iload_n X dX9_setConstant_32 1 rfl rfl ?_
        refine g_iload_n X dX9_setConstant_33 2 rfl rfl ?_
        refine g_iconst X dX9_setConstant_34 ?_
        refine g_iload_n X dX9_setConstant_35 3 rfl rfl ?_
        obtain ⟨w13, hc14, hf⟩ := Option.bind_eq_some_iff.mp hf
        refine g_callV X (As := [ii p1, ii p2, ii (-1), ii p3]) (st := []) (st1 := [ii w13.1]) (ws' := c9 K a w13.2) (X9_changeEntry_ok K l a V0 p1 p2 (-1) p3 w13 hc14) gX9_setConstant_X9_changeEntry rfl 4 (by decide +kernel) ⟨rfl, rfl⟩ ⟨Nat.le_of_ble_eq_true rfl, Nat.le_of_ble_eq_true rfl⟩ ⟨Nat.zero_le _, Nat.zero_le _⟩ 0 rfl rfl rfl rfl (Nat.le_of_ble_eq_true rfl) dX9_setConstant_36 (SG.all rfl) rfl ?_
        cases hf
        exact g_iret X hr hlk dX9_setConstant_39
set_option maxHeartbeats 4000000 in
set_option maxRecDepth 100000 in
theorem X9_setConstant_ok (K : KE) (l : Launch) (a : Nat → Nat) (V0 : CM) (p1 : Int) (p2 : Int) (p3 : Int) (res : Int × CM) (hf : X9_setConstant V0 p1 p2 p3 = some res) : CT l K.1 vwCl (kT K) yX9_setConstant wsX9_setConstant rmX9_setConstant [.ref (a 0), ii p1, ii p2, ii p3] (some (ii res.1)) (c9 K a V0) (c9 K a res.2) :=
  CT.mk (cc := cX9_setConstant) (maxL := 4) (ret := (some .int)) (by decide) rfl (Nat.le_of_ble_eq_true rfl) (fun p e s m below meth c X hr hlk => X9_setConstant_go K l a _ X hr hlk V0 p1 p2 p3 res hf)
theorem iw_X9_isFaithful_X9 : ∀ w ∈ u_ws RX9 TX9 8, w ∈ wsX9_isFaithful := by decide +kernel
theorem fl_X9_isFaithful_10 : Cond.fieldLink RX9 10 (TX9 0).1 (TX9 0).2.1 (TX9 0).2.2.1 ∈ wsX9_isFaithful := by decide +kernel
theorem iw_X9_isFaithful_X8 : ∀ w ∈ u_ws RX8 TX8 9, w ∈ wsX9_isFaithful := by decide +kernel
theorem fl_X9_isFaithful_98 : Cond.fieldLink RX9 98 (TX8 6).1 (TX8 6).2.1 (TX8 6).2.2.1 ∈ wsX9_isFaithful := by decide +kernel
def rmX9_isFaithful : Room := { frames := 5, cells := 0, slots := 0, locals := 114 }
def X9_isFaithful (V0 : CM) (p1 : Int) : Option (Int × CM) := (X9_isOld p1).bind (fun v1 => brEQ v1 0 ((X9_refuse V0 (-2)).bind (fun w3 => some (w3.1, w3.2))) ((X4_targetOf V0.1.2.2.2.2.2.2.1 p1).bind (fun v5 => brEQ v5 (-1) ((X9_refuse V0 (-3)).bind (fun w7 => some (w7.1, w7.2))) ((X9_faithfulness V0 p1).bind (fun v9 => some (v9, V0))))))
set_option maxHeartbeats 4000000 in
set_option maxRecDepth 100000 in
theorem X9_isFaithful_go (K : KE) (l : Launch) (a : Nat → Nat) (WC : va_W) {p : Program} {e : Env} {s : State} {m : MethodId} {args : Array Value} {below : List Frame} {meth : Method} {c : Code} (X : CX p s m args c K.1 vwCl (kT K) (va_A WC s.heap.size) cX9_isFaithful 2 wsX9_isFaithful RX9) (hr : meth.sig.returnType = (some .int)) (hlk : meth.locks = false) (V0 : CM) (p1 : Int) (res : Int × CM) (hf : X9_isFaithful V0 p1 = some res) : GO p l e rmX9_isFaithful s m args below meth c K.1 vwCl (va_A WC s.heap.size) (MQ below (QC K.1 vwCl (some (ii res.1)) WC (c9 K a res.2) s.heap.size) args s 0 0 (va_A WC s.heap.size)) 2 0 0 0 [(0, .ref (a 0)), (1, ii p1)] [] (c9 K a V0) := by
  rw [X9_isFaithful] at hf
  refine g_iload_n X dX9_isFaithful_0 1 rfl rfl ?_
  obtain ⟨v1, hc2, hf⟩ := Option.bind_eq_some_iff.mp hf
  refine g_callS X (As := [ii p1]) (st := []) (st1 := [ii v1]) (ws' := c9 K a V0) (X9_isOld_ok K l p1 v1 hc2) gX9_isFaithful_X9_isOld rfl 1 (by decide +kernel) ⟨rfl, rfl⟩ ⟨Nat.le_of_ble_eq_true rfl, Nat.le_of_ble_eq_true rfl⟩ ⟨Nat.zero_le _, Nat.zero_le _⟩ rfl rfl (Nat.le_of_ble_eq_true rfl) dX9_isFaithful_1 SG.none rfl ?_
  refine g_if_ne X hf 14 dX9_isFaithful_4 (by decide) (fun hf => ?_) (fun hf => ?_)
  · refine g_aload_n X dX9_isFaithful_7 0 rfl rfl ?_
    refine g_bipush X dX9_isFaithful_8 (by decide +kernel) ?_
    obtain ⟨w3, hc4, hf⟩ := Option.bind_eq_some_iff.mp hf
    refine g_callV X (As := [ii (-2)]) (st := []) (st1 := [ii w3.1]) (ws' := c9 K a w3.2) (X9_refuse_ok K l a V0 (-2) w3 hc4) gX9_isFaithful_X9_refuse rfl 1 (by decide +kernel) ⟨rfl, rfl⟩ ⟨Nat.le_of_ble_eq_true rfl, Nat.le_of_ble_eq_true rfl⟩ ⟨Nat.zero_le _, Nat.zero_le _⟩ 0 rfl rfl rfl rfl (Nat.le_of_ble_eq_true rfl) dX9_isFaithful_10 (SG.all rfl) rfl ?_
    cases hf
    exact g_iret X hr hlk dX9_isFaithful_13
  · refine g_aload_n X dX9_isFaithful_14 0 rfl rfl ?_
    refine g_get X (v := .ref (ash a 2 0)) 0 0 dX9_isFaithful_15 rfl rfl iw_X9_isFaithful_X9 (by decide) fl_X9_isFaithful_10 rfl ?_
    refine g_get X (v := .ref (ash (ash a 2) 14 0)) 2 6 dX9_isFaithful_18 rfl rfl iw_X9_isFaithful_X8 (by decide) fl_X9_isFaithful_98 rfl ?_
    refine g_iload_n X dX9_isFaithful_21 1 rfl rfl ?_
    obtain ⟨v5, hc6, hf⟩ := Option.bind_eq_some_iff.mp hf
    refine g_callV X (As := [ii p1]) (st := []) (st1 := [ii v5]) (ws' := c9 K a V0) (X4_targetOf_ok K l (ash (ash a 2) 14) V0.1.2.2.2.2.2.2.1 p1 v5 hc6) gX9_isFaithful_X4_targetOf rfl 1 (by decide +kernel) ⟨rfl, rfl⟩ ⟨Nat.le_of_ble_eq_true rfl, Nat.le_of_ble_eq_true rfl⟩ ⟨Nat.zero_le _, Nat.zero_le _⟩ 16 rfl rfl rfl rfl (Nat.le_of_ble_eq_true rfl) dX9_isFaithful_22 (SG.one ([(a 0, .inr (9, [.ref (ash a 2 0), .ref (ash a 43 0), .ref (ash a 25 0), .ref (ash a 27 0), .ref (ash a 31 0), .ref (ash a 34 0), .ref (ash a 36 0), .ref (a 1)]))] ++ ([(a 1, .inl (K.2.1, 4, .inl (arI V0.2.2.2.2.2.2.2)))] ++ ([(ash a 2 0, .inr (8, [.ref (ash (ash a 2) 1 0), .ref (ash (ash a 2) 5 0), .ref (ash (ash a 2) 9 0), ii V0.1.2.2.2.1, .ref (ash a 2 13), ii V0.1.2.2.2.2.2.1, .ref (ash (ash a 2) 14 0), .ref (ash (ash a 2) 18 0), .ref (ash a 2 22)]))] ++ (c1 K 6 (ash (ash a 2) 1) V0.1.1 ++ (c1 K 6 (ash (ash a 2) 5) V0.1.2.1 ++ (c1 K 4 (ash (ash a 2) 9) V0.1.2.2.1 ++ ([(ash a 2 13, .inl (K.2.1, 6, .inl (arI V0.1.2.2.2.2.1)))]))))))) (c6 K (ash (ash a 2) 18) V0.1.2.2.2.2.2.2.2.1 ++ ([(ash a 2 22, .inl (K.2.1, 8, .inl (arI V0.1.2.2.2.2.2.2.2.2)))] ++ (c3 K (ash a 25) V0.2.2.1 ++ (c6 K (ash a 27) V0.2.2.2.1 ++ (c7 K (ash a 31) V0.2.2.2.2.1 ++ (c0 K (ash a 34) V0.2.2.2.2.2.1 ++ (c5 K (ash a 36) V0.2.2.2.2.2.2.1 ++ (c2 K (ash a 43) V0.2.1)))))))) rfl rfl rfl) rfl ?_
    refine g_iconst X dX9_isFaithful_25 ?_
    refine g_icmp_ne X hf 36 dX9_isFaithful_26 (by decide) (fun hf => ?_) (fun hf => ?_)
    · refine g_aload_n X dX9_isFaithful_29 0 rfl rfl ?_
      refine g_bipush X dX9_isFaithful_30 (by decide +kernel) ?_
      obtain ⟨w7, hc8, hf⟩ := Option.bind_eq_some_iff.mp hf
      refine g_callV X (As := [ii (-3)]) (st := []) (st1 := [ii w7.1]) (ws' := c9 K a w7.2) (X9_refuse_ok K l a V0 (-3) w7 hc8) gX9_isFaithful_X9_refuse rfl 1 (by decide +kernel) ⟨rfl, rfl⟩ ⟨Nat.le_of_ble_eq_true rfl, Nat.le_of_ble_eq_true rfl⟩ ⟨Nat.zero_le _, Nat.zero_le _⟩ 0 rfl rfl rfl rfl (Nat.le_of_ble_eq_true rfl) dX9_isFaithful_32 (SG.all rfl) rfl ?_
      cases hf
      exact g_iret X hr hlk dX9_isFaithful_35
    · refine g_aload_n X dX9_isFaithful_36 0 rfl rfl ?_
      refine g_iload_n X dX9_isFaithful_37 1 rfl rfl ?_
      obtain ⟨v9, hc10, hf⟩ := Option.bind_eq_some_iff.mp hf
      refine g_callV X (As := [ii p1]) (st := []) (st1 := [ii v9]) (ws' := c9 K a V0) (X9_faithfulness_ok K l a V0 p1 v9 hc10) gX9_isFaithful_X9_faithfulness rfl 1 (by decide +kernel) ⟨rfl, rfl⟩ ⟨Nat.le_of_ble_eq_true rfl, Nat.le_of_ble_eq_true rfl⟩ ⟨Nat.zero_le _, Nat.zero_le _⟩ 0 rfl rfl rfl rfl (Nat.le_of_ble_eq_true rfl) dX9_isFaithful_38 (SG.all rfl) rfl ?_
      cases hf
      exact g_iret X hr hlk dX9_isFaithful_41
set_option maxHeartbeats 4000000 in
set_option maxRecDepth 100000 in
theorem X9_isFaithful_ok (K : KE) (l : Launch) (a : Nat → Nat) (V0 : CM) (p1 : Int) (res : Int × CM) (hf : X9_isFaithful V0 p1 = some res) : CT l K.1 vwCl (kT K) yX9_isFaithful wsX9_isFaithful rmX9_isFaithful [.ref (a 0), ii p1] (some (ii res.1)) (c9 K a V0) (c9 K a res.2) :=
  CT.mk (cc := cX9_isFaithful) (maxL := 2) (ret := (some .int)) (by decide) rfl (Nat.le_of_ble_eq_true rfl) (fun p e s m below meth c X hr hlk => X9_isFaithful_go K l a _ X hr hlk V0 p1 res hf)
theorem iw_X9_allowAdapters_X9 : ∀ w ∈ u_ws RX9 TX9 8, w ∈ wsX9_allowAdapters := by decide +kernel
theorem fl_X9_allowAdapters_19 : Cond.fieldLink RX9 19 (TX9 1).1 (TX9 1).2.1 (TX9 1).2.2.1 ∈ wsX9_allowAdapters := by decide +kernel
theorem fl_X9_allowAdapters_10 : Cond.fieldLink RX9 10 (TX9 0).1 (TX9 0).2.1 (TX9 0).2.2.1 ∈ wsX9_allowAdapters := by decide +kernel
theorem iw_X9_allowAdapters_X8 : ∀ w ∈ u_ws RX8 TX8 9, w ∈ wsX9_allowAdapters := by decide +kernel
theorem fl_X9_allowAdapters_128 : Cond.fieldLink RX9 128 (TX8 5).1 (TX8 5).2.1 (TX8 5).2.2.1 ∈ wsX9_allowAdapters := by decide +kernel
def rmX9_allowAdapters : Room := { frames := 7, cells := 0, slots := 0, locals := 161 }
def X9_allowAdapters (V0 : CM) (p1 : Int) : Option (Int × CM) := (X9_within p1 0 1).bind (fun v1 => brEQ v1 0 ((X9_refuse V0 (-2)).bind (fun w3 => some (w3.1, w3.2))) ((X2_save V0.1 V0.2.1).bind (fun v5 => some (V0.1.2.2.2.2.2.1, ((V0.1.1, V0.1.2.1, V0.1.2.2.1, V0.1.2.2.2.1, V0.1.2.2.2.2.1, p1, V0.1.2.2.2.2.2.2.1, V0.1.2.2.2.2.2.2.2.1, V0.1.2.2.2.2.2.2.2.2), v5, V0.2.2.1, V0.2.2.2.1, V0.2.2.2.2.1, V0.2.2.2.2.2.1, V0.2.2.2.2.2.2.1, V0.2.2.2.2.2.2.2)))))
set_option maxHeartbeats 4000000 in
set_option maxRecDepth 100000 in
theorem X9_allowAdapters_go (K : KE) (l : Launch) (a : Nat → Nat) (WC : va_W) {p : Program} {e : Env} {s : State} {m : MethodId} {args : Array Value} {below : List Frame} {meth : Method} {c : Code} (X : CX p s m args c K.1 vwCl (kT K) (va_A WC s.heap.size) cX9_allowAdapters 3 wsX9_allowAdapters RX9) (hr : meth.sig.returnType = (some .int)) (hlk : meth.locks = false) (V0 : CM) (p1 : Int) (res : Int × CM) (hf : X9_allowAdapters V0 p1 = some res) : GO p l e rmX9_allowAdapters s m args below meth c K.1 vwCl (va_A WC s.heap.size) (MQ below (QC K.1 vwCl (some (ii res.1)) WC (c9 K a res.2) s.heap.size) args s 0 0 (va_A WC s.heap.size)) 3 0 0 0 [(0, .ref (a 0)), (1, ii p1)] [] (c9 K a V0) := by
  rw [X9_allowAdapters] at hf
  refine g_iload_n X dX9_allowAdapters_0 1 rfl rfl ?_
  refine g_iconst X dX9_allowAdapters_1 ?_
  refine g_iconst X dX9_allowAdapters_2 ?_
  obtain ⟨v1, hc2, hf⟩ := Option.bind_eq_some_iff.mp hf
  refine g_callS X (As := [ii p1, ii 0, ii 1]) (st := []) (st1 := [ii v1]) (ws' := c9 K a V0) (X9_within_ok K l p1 0 1 v1 hc2) gX9_allowAdapters_X9_within rfl 3 (by decide +kernel) ⟨rfl, rfl⟩ ⟨Nat.le_of_ble_eq_true rfl, Nat.le_of_ble_eq_true rfl⟩ ⟨Nat.zero_le _, Nat.zero_le _⟩ rfl rfl (Nat.le_of_ble_eq_true rfl) dX9_allowAdapters_3 SG.none rfl ?_
  refine g_if_ne X hf 16 dX9_allowAdapters_6 (by decide) (fun hf => ?_) (fun hf => ?_)
  · refine g_aload_n X dX9_allowAdapters_9 0 rfl rfl ?_
    refine g_bipush X dX9_allowAdapters_10 (by decide +kernel) ?_
    obtain ⟨w3, hc4, hf⟩ := Option.bind_eq_some_iff.mp hf
    refine g_callV X (As := [ii (-2)]) (st := []) (st1 := [ii w3.1]) (ws' := c9 K a w3.2) (X9_refuse_ok K l a V0 (-2) w3 hc4) gX9_allowAdapters_X9_refuse rfl 1 (by decide +kernel) ⟨rfl, rfl⟩ ⟨Nat.le_of_ble_eq_true rfl, Nat.le_of_ble_eq_true rfl⟩ ⟨Nat.zero_le _, Nat.zero_le _⟩ 0 rfl rfl rfl rfl (Nat.le_of_ble_eq_true rfl) dX9_allowAdapters_12 (SG.all rfl) rfl ?_
    cases hf
    exact g_iret X hr hlk dX9_allowAdapters_15
  · refine g_aload_n X dX9_allowAdapters_16 0 rfl rfl ?_
    refine g_get X (v := .ref (ash a 43 0)) 0 1 dX9_allowAdapters_17 rfl rfl iw_X9_allowAdapters_X9 (by decide) fl_X9_allowAdapters_19 rfl ?_
    refine g_aload_n X dX9_allowAdapters_20 0 rfl rfl ?_
    refine g_get X (v := .ref (ash a 2 0)) 0 0 dX9_allowAdapters_21 rfl rfl iw_X9_allowAdapters_X9 (by decide) fl_X9_allowAdapters_10 rfl ?_
    obtain ⟨v5, hc6, hf⟩ := Option.bind_eq_some_iff.mp hf
    refine g_callV X (As := [.ref (ash a 2 0)]) (st := []) (st1 := []) (ws' := c9 K a (V0.1, v5, V0.2.2.1, V0.2.2.2.1, V0.2.2.2.2.1, V0.2.2.2.2.2.1, V0.2.2.2.2.2.2.1, V0.2.2.2.2.2.2.2)) (X2_save_ok K l (ash a 2) (ash a 43) V0.1 V0.2.1 v5 hc6) gX9_allowAdapters_X2_save rfl 1 (by decide +kernel) ⟨rfl, rfl⟩ ⟨Nat.le_of_ble_eq_true rfl, Nat.le_of_ble_eq_true rfl⟩ ⟨Nat.zero_le _, Nat.zero_le _⟩ 43 rfl rfl rfl rfl (Nat.le_of_ble_eq_true rfl) dX9_allowAdapters_24 (SG.two ([(a 0, .inr (9, [.ref (ash a 2 0), .ref (ash a 43 0), .ref (ash a 25 0), .ref (ash a 27 0), .ref (ash a 31 0), .ref (ash a 34 0), .ref (ash a 36 0), .ref (a 1)]))] ++ ([(a 1, .inl (K.2.1, 4, .inl (arI V0.2.2.2.2.2.2.2)))])) (c3 K (ash a 25) V0.2.2.1 ++ (c6 K (ash a 27) V0.2.2.2.1 ++ (c7 K (ash a 31) V0.2.2.2.2.1 ++ (c0 K (ash a 34) V0.2.2.2.2.2.1 ++ (c5 K (ash a 36) V0.2.2.2.2.2.2.1))))) [] rfl rfl rfl) rfl ?_
    refine g_aload_n X dX9_allowAdapters_27 0 rfl rfl ?_
    refine g_get X (v := .ref (ash a 2 0)) 0 0 dX9_allowAdapters_28 rfl rfl iw_X9_allowAdapters_X9 (by decide) fl_X9_allowAdapters_10 rfl ?_
    refine g_get X (v := ii V0.1.2.2.2.2.2.1) 2 5 dX9_allowAdapters_31 rfl rfl iw_X9_allowAdapters_X8 (by decide) fl_X9_allowAdapters_128 rfl ?_
    refine g_istore_n X (lv' := [(2, ii V0.1.2.2.2.2.2.1), (0, .ref (a 0)), (1, ii p1)]) dX9_allowAdapters_34 rfl (by decide) rfl ?_
    refine g_aload_n X dX9_allowAdapters_35 1 rfl rfl ?_
    refine g_get X (v := .ref (ash a 2 0)) 0 0 dX9_allowAdapters_36 rfl rfl iw_X9_allowAdapters_X9 (by decide) fl_X9_allowAdapters_10 rfl ?_
    refine g_iload_n X dX9_allowAdapters_39 2 rfl rfl ?_
    refine g_puti X 2 5 dX9_allowAdapters_40 rfl rfl iw_X9_allowAdapters_X8 tyX8_ok nmX8 (by decide) fl_X9_allowAdapters_128 rfl rfl (Nat.le_of_ble_eq_true rfl) (ws' := c9 K a ((V0.1.1, V0.1.2.1, V0.1.2.2.1, V0.1.2.2.2.1, V0.1.2.2.2.2.1, p1, V0.1.2.2.2.2.2.2.1, V0.1.2.2.2.2.2.2.2.1, V0.1.2.2.2.2.2.2.2.2), v5, V0.2.2.1, V0.2.2.2.1, V0.2.2.2.2.1, V0.2.2.2.2.2.1, V0.2.2.2.2.2.2.1, V0.2.2.2.2.2.2.2)) rfl ?_
    refine g_iload_n X dX9_allowAdapters_43 0 rfl rfl ?_
    cases hf
    exact g_iret X hr hlk dX9_allowAdapters_44
set_option maxHeartbeats 4000000 in
set_option maxRecDepth 100000 in
theorem X9_allowAdapters_ok (K : KE) (l : Launch) (a : Nat → Nat) (V0 : CM) (p1 : Int) (res : Int × CM) (hf : X9_allowAdapters V0 p1 = some res) : CT l K.1 vwCl (kT K) yX9_allowAdapters wsX9_allowAdapters rmX9_allowAdapters [.ref (a 0), ii p1] (some (ii res.1)) (c9 K a V0) (c9 K a res.2) :=
  CT.mk (cc := cX9_allowAdapters) (maxL := 3) (ret := (some .int)) (by decide) rfl (Nat.le_of_ble_eq_true rfl) (fun p e s m below meth c X hr hlk => X9_allowAdapters_go K l a _ X hr hlk V0 p1 res hf)
theorem iw_X9_adapterOf_X9 : ∀ w ∈ u_ws RX9 TX9 8, w ∈ wsX9_adapterOf := by decide +kernel
theorem fl_X9_adapterOf_10 : Cond.fieldLink RX9 10 (TX9 0).1 (TX9 0).2.1 (TX9 0).2.2.1 ∈ wsX9_adapterOf := by decide +kernel
def rmX9_adapterOf : Room := { frames := 2, cells := 0, slots := 0, locals := 44 }
def X9_adapterOf (V0 : CM) (p1 : Int) : Option (Int × CM) := (X9_isOld p1).bind (fun v1 => brEQ v1 0 ((X9_refuse V0 (-2)).bind (fun w3 => some (w3.1, w3.2))) ((X8_adapterNumber V0.1 p1).bind (fun v5 => brEQ v5 (-1) ((X9_refuse V0 (-3)).bind (fun w7 => some (w7.1, w7.2))) (some (v5, V0)))))
set_option maxHeartbeats 4000000 in
set_option maxRecDepth 100000 in
theorem X9_adapterOf_go (K : KE) (l : Launch) (a : Nat → Nat) (WC : va_W) {p : Program} {e : Env} {s : State} {m : MethodId} {args : Array Value} {below : List Frame} {meth : Method} {c : Code} (X : CX p s m args c K.1 vwCl (kT K) (va_A WC s.heap.size) cX9_adapterOf 3 wsX9_adapterOf RX9) (hr : meth.sig.returnType = (some .int)) (hlk : meth.locks = false) (V0 : CM) (p1 : Int) (res : Int × CM) (hf : X9_adapterOf V0 p1 = some res) : GO p l e rmX9_adapterOf s m args below meth c K.1 vwCl (va_A WC s.heap.size) (MQ below (QC K.1 vwCl (some (ii res.1)) WC (c9 K a res.2) s.heap.size) args s 0 0 (va_A WC s.heap.size)) 3 0 0 0 [(0, .ref (a 0)), (1, ii p1)] [] (c9 K a V0) := by
  rw [X9_adapterOf] at hf
  refine g_iload_n X dX9_adapterOf_0 1 rfl rfl ?_
  obtain ⟨v1, hc2, hf⟩ := Option.bind_eq_some_iff.mp hf
  refine g_callS X (As := [ii p1]) (st := []) (st1 := [ii v1]) (ws' := c9 K a V0) (X9_isOld_ok K l p1 v1 hc2) gX9_adapterOf_X9_isOld rfl 1 (by decide +kernel) ⟨rfl, rfl⟩ ⟨Nat.le_of_ble_eq_true rfl, Nat.le_of_ble_eq_true rfl⟩ ⟨Nat.zero_le _, Nat.zero_le _⟩ rfl rfl (Nat.le_of_ble_eq_true rfl) dX9_adapterOf_1 SG.none rfl ?_
  refine g_if_ne X hf 14 dX9_adapterOf_4 (by decide) (fun hf => ?_) (fun hf => ?_)
  · refine g_aload_n X dX9_adapterOf_7 0 rfl rfl ?_
    refine g_bipush X dX9_adapterOf_8 (by decide +kernel) ?_
    obtain ⟨w3, hc4, hf⟩ := Option.bind_eq_some_iff.mp hf
    refine g_callV X (As := [ii (-2)]) (st := []) (st1 := [ii w3.1]) (ws' := c9 K a w3.2) (X9_refuse_ok K l a V0 (-2) w3 hc4) gX9_adapterOf_X9_refuse rfl 1 (by decide +kernel) ⟨rfl, rfl⟩ ⟨Nat.le_of_ble_eq_true rfl, Nat.le_of_ble_eq_true rfl⟩ ⟨Nat.zero_le _, Nat.zero_le _⟩ 0 rfl rfl rfl rfl (Nat.le_of_ble_eq_true rfl) dX9_adapterOf_10 (SG.all rfl) rfl ?_
    cases hf
    exact g_iret X hr hlk dX9_adapterOf_13
  · refine g_aload_n X dX9_adapterOf_14 0 rfl rfl ?_
    refine g_get X (v := .ref (ash a 2 0)) 0 0 dX9_adapterOf_15 rfl rfl iw_X9_adapterOf_X9 (by decide) fl_X9_adapterOf_10 rfl ?_
    refine g_iload_n X dX9_adapterOf_18 1 rfl rfl ?_
    obtain ⟨v5, hc6, hf⟩ := Option.bind_eq_some_iff.mp hf
    refine g_callV X (As := [ii p1]) (st := []) (st1 := [ii v5]) (ws' := c9 K a V0) (X8_adapterNumber_ok K l (ash a 2) V0.1 p1 v5 hc6) gX9_adapterOf_X8_adapterNumber rfl 1 (by decide +kernel) ⟨rfl, rfl⟩ ⟨Nat.le_of_ble_eq_true rfl, Nat.le_of_ble_eq_true rfl⟩ ⟨Nat.zero_le _, Nat.zero_le _⟩ 2 rfl rfl rfl rfl (Nat.le_of_ble_eq_true rfl) dX9_adapterOf_19 (SG.one ([(a 0, .inr (9, [.ref (ash a 2 0), .ref (ash a 43 0), .ref (ash a 25 0), .ref (ash a 27 0), .ref (ash a 31 0), .ref (ash a 34 0), .ref (ash a 36 0), .ref (a 1)]))] ++ ([(a 1, .inl (K.2.1, 4, .inl (arI V0.2.2.2.2.2.2.2)))])) (c3 K (ash a 25) V0.2.2.1 ++ (c6 K (ash a 27) V0.2.2.2.1 ++ (c7 K (ash a 31) V0.2.2.2.2.1 ++ (c0 K (ash a 34) V0.2.2.2.2.2.1 ++ (c5 K (ash a 36) V0.2.2.2.2.2.2.1 ++ (c2 K (ash a 43) V0.2.1)))))) rfl rfl rfl) rfl ?_
    refine g_istore_n X (lv' := [(2, ii v5), (0, .ref (a 0)), (1, ii p1)]) dX9_adapterOf_22 rfl (by decide) rfl ?_
    refine g_iload_n X dX9_adapterOf_23 0 rfl rfl ?_
    refine g_iconst X dX9_adapterOf_24 ?_
    refine g_icmp_ne X hf 37 dX9_adapterOf_25 (by decide) (fun hf => ?_) (fun hf => ?_)
    · refine g_aload_n X dX9_adapterOf_28 1 rfl rfl ?_
      refine g_bipush X dX9_adapterOf_29 (by decide +kernel) ?_
      obtain ⟨w7, hc8, hf⟩ := Option.bind_eq_some_iff.mp hf
      refine g_callV X (As := [ii (-3)]) (st := []) (st1 := [ii w7.1]) (ws' := c9 K a w7.2) (X9_refuse_ok K l a V0 (-3) w7 hc8) gX9_adapterOf_X9_refuse rfl 1 (by decide +kernel) ⟨rfl, rfl⟩ ⟨Nat.le_of_ble_eq_true rfl, Nat.le_of_ble_eq_true rfl⟩ ⟨Nat.zero_le _, Nat.zero_le _⟩ 0 rfl rfl rfl rfl (Nat.le_of_ble_eq_true rfl) dX9_adapterOf_31 (SG.all rfl) rfl ?_
      refine g_goto X 38 dX9_adapterOf_34 (by decide) ?_
      cases hf
      exact g_iret X hr hlk dX9_adapterOf_38
    · refine g_iload_n X dX9_adapterOf_37 0 rfl rfl ?_
      cases hf
      exact g_iret X hr hlk dX9_adapterOf_38
set_option maxHeartbeats 4000000 in
set_option maxRecDepth 100000 in
theorem X9_adapterOf_ok (K : KE) (l : Launch) (a : Nat → Nat) (V0 : CM) (p1 : Int) (res : Int × CM) (hf : X9_adapterOf V0 p1 = some res) : CT l K.1 vwCl (kT K) yX9_adapterOf wsX9_adapterOf rmX9_adapterOf [.ref (a 0), ii p1] (some (ii res.1)) (c9 K a V0) (c9 K a res.2) :=
  CT.mk (cc := cX9_adapterOf) (maxL := 3) (ret := (some .int)) (by decide) rfl (Nat.le_of_ble_eq_true rfl) (fun p e s m below meth c X hr hlk => X9_adapterOf_go K l a _ X hr hlk V0 p1 res hf)
theorem iw_X9_append_X9 : ∀ w ∈ u_ws RX9 TX9 8, w ∈ wsX9_append := by decide +kernel
theorem fl_X9_append_26 : Cond.fieldLink RX9 26 (TX9 2).1 (TX9 2).2.1 (TX9 2).2.2.1 ∈ wsX9_append := by decide +kernel
theorem iw_X9_append_X3 : ∀ w ∈ u_ws RX3 TX3 3, w ∈ wsX9_append := by decide +kernel
theorem fl_X9_append_138 : Cond.fieldLink RX9 138 (TX3 1).1 (TX3 1).2.1 (TX3 1).2.2.1 ∈ wsX9_append := by decide +kernel
def rmX9_append : Room := { frames := 2, cells := 0, slots := 0, locals := 44 }
def X9_append (V0 : CM) (p1 : Int) : Option (Int × CM) := (X9_within p1 0 127).bind (fun v1 => brEQ v1 0 ((X9_refuse V0 (-2)).bind (fun w3 => some (w3.1, w3.2))) ((X3_add V0.2.2.1 p1).bind (fun w5 => brEQ w5.1 0 ((X9_refuse (V0.1, V0.2.1, w5.2, V0.2.2.2.1, V0.2.2.2.2.1, V0.2.2.2.2.2.1, V0.2.2.2.2.2.2.1, V0.2.2.2.2.2.2.2) (-4)).bind (fun w7 => some (w7.1, w7.2))) (some (w5.2.2.1, (V0.1, V0.2.1, w5.2, V0.2.2.2.1, V0.2.2.2.2.1, V0.2.2.2.2.2.1, V0.2.2.2.2.2.2.1, V0.2.2.2.2.2.2.2))))))
set_option maxHeartbeats 4000000 in
set_option maxRecDepth 100000 in
theorem X9_append_go (K : KE) (l : Launch) (a : Nat → Nat) (WC : va_W) {p : Program} {e : Env} {s : State} {m : MethodId} {args : Array Value} {below : List Frame} {meth : Method} {c : Code} (X : CX p s m args c K.1 vwCl (kT K) (va_A WC s.heap.size) cX9_append 2 wsX9_append RX9) (hr : meth.sig.returnType = (some .int)) (hlk : meth.locks = false) (V0 : CM) (p1 : Int) (res : Int × CM) (hf : X9_append V0 p1 = some res) : GO p l e rmX9_append s m args below meth c K.1 vwCl (va_A WC s.heap.size) (MQ below (QC K.1 vwCl (some (ii res.1)) WC (c9 K a res.2) s.heap.size) args s 0 0 (va_A WC s.heap.size)) 2 0 0 0 [(0, .ref (a 0)), (1, ii p1)] [] (c9 K a V0) := by
  rw [X9_append] at hf
  refine g_iload_n X dX9_append_0 1 rfl rfl ?_
  refine g_iconst X dX9_append_1 ?_
  refine g_bipush X dX9_append_2 (by decide +kernel) ?_
  obtain ⟨v1, hc2, hf⟩ := Option.bind_eq_some_iff.mp hf
  refine g_callS X (As := [ii p1, ii 0, ii 127]) (st := []) (st1 := [ii v1]) (ws' := c9 K a V0) (X9_within_ok K l p1 0 127 v1 hc2) gX9_append_X9_within rfl 3 (by decide +kernel) ⟨rfl, rfl⟩ ⟨Nat.le_of_ble_eq_true rfl, Nat.le_of_ble_eq_true rfl⟩ ⟨Nat.zero_le _, Nat.zero_le _⟩ rfl rfl (Nat.le_of_ble_eq_true rfl) dX9_append_4 SG.none rfl ?_
  refine g_if_ne X hf 17 dX9_append_7 (by decide) (fun hf => ?_) (fun hf => ?_)
  · refine g_aload_n X dX9_append_10 0 rfl rfl ?_
    refine g_bipush X dX9_append_11 (by decide +kernel) ?_
    obtain ⟨w3, hc4, hf⟩ := Option.bind_eq_some_iff.mp hf
    refine g_callV X (As := [ii (-2)]) (st := []) (st1 := [ii w3.1]) (ws' := c9 K a w3.2) (X9_refuse_ok K l a V0 (-2) w3 hc4) gX9_append_X9_refuse rfl 1 (by decide +kernel) ⟨rfl, rfl⟩ ⟨Nat.le_of_ble_eq_true rfl, Nat.le_of_ble_eq_true rfl⟩ ⟨Nat.zero_le _, Nat.zero_le _⟩ 0 rfl rfl rfl rfl (Nat.le_of_ble_eq_true rfl) dX9_append_13 (SG.all rfl) rfl ?_
    cases hf
    exact g_iret X hr hlk dX9_append_16
  · refine g_aload_n X dX9_append_17 0 rfl rfl ?_
    refine g_get X (v := .ref (ash a 25 0)) 0 2 dX9_append_18 rfl rfl iw_X9_append_X9 (by decide) fl_X9_append_26 rfl ?_
    refine g_iload_n X dX9_append_21 1 rfl rfl ?_
    obtain ⟨w5, hc6, hf⟩ := Option.bind_eq_some_iff.mp hf
    refine g_callV X (As := [ii p1]) (st := []) (st1 := [ii w5.1]) (ws' := c9 K a (V0.1, V0.2.1, w5.2, V0.2.2.2.1, V0.2.2.2.2.1, V0.2.2.2.2.2.1, V0.2.2.2.2.2.2.1, V0.2.2.2.2.2.2.2)) (X3_add_ok K l (ash a 25) V0.2.2.1 p1 w5 hc6) gX9_append_X3_add rfl 1 (by decide +kernel) ⟨rfl, rfl⟩ ⟨Nat.le_of_ble_eq_true rfl, Nat.le_of_ble_eq_true rfl⟩ ⟨Nat.zero_le _, Nat.zero_le _⟩ 25 rfl rfl rfl rfl (Nat.le_of_ble_eq_true rfl) dX9_append_22 (SG.one ([(a 0, .inr (9, [.ref (ash a 2 0), .ref (ash a 43 0), .ref (ash a 25 0), .ref (ash a 27 0), .ref (ash a 31 0), .ref (ash a 34 0), .ref (ash a 36 0), .ref (a 1)]))] ++ ([(a 1, .inl (K.2.1, 4, .inl (arI V0.2.2.2.2.2.2.2)))] ++ (c8 K (ash a 2) V0.1))) (c6 K (ash a 27) V0.2.2.2.1 ++ (c7 K (ash a 31) V0.2.2.2.2.1 ++ (c0 K (ash a 34) V0.2.2.2.2.2.1 ++ (c5 K (ash a 36) V0.2.2.2.2.2.2.1 ++ (c2 K (ash a 43) V0.2.1))))) rfl rfl rfl) rfl ?_
    refine g_if_eq X hf 38 dX9_append_25 (by decide) (fun hf => ?_) (fun hf => ?_)
    · refine g_aload_n X dX9_append_38 0 rfl rfl ?_
      refine g_bipush X dX9_append_39 (by decide +kernel) ?_
      obtain ⟨w7, hc8, hf⟩ := Option.bind_eq_some_iff.mp hf
      refine g_callV X (As := [ii (-4)]) (st := []) (st1 := [ii w7.1]) (ws' := c9 K a w7.2) (X9_refuse_ok K l a (V0.1, V0.2.1, w5.2, V0.2.2.2.1, V0.2.2.2.2.1, V0.2.2.2.2.2.1, V0.2.2.2.2.2.2.1, V0.2.2.2.2.2.2.2) (-4) w7 hc8) gX9_append_X9_refuse rfl 1 (by decide +kernel) ⟨rfl, rfl⟩ ⟨Nat.le_of_ble_eq_true rfl, Nat.le_of_ble_eq_true rfl⟩ ⟨Nat.zero_le _, Nat.zero_le _⟩ 0 rfl rfl rfl rfl (Nat.le_of_ble_eq_true rfl) dX9_append_41 (SG.all rfl) rfl ?_
      cases hf
      exact g_iret X hr hlk dX9_append_44
    · refine g_aload_n X dX9_append_28 0 rfl rfl ?_
      refine g_get X (v := .ref (ash a 25 0)) 0 2 dX9_append_29 rfl rfl iw_X9_append_X9 (by decide) fl_X9_append_26 rfl ?_
      refine g_get X (v := ii w5.2.2.1) 25 1 dX9_append_32 rfl rfl iw_X9_append_X3 (by decide) fl_X9_append_138 rfl ?_
      refine g_goto X 44 dX9_append_35 (by decide) ?_
      cases hf
      exact g_iret X hr hlk dX9_append_44
set_option maxHeartbeats 4000000 in
set_option maxRecDepth 100000 in
theorem X9_append_ok (K : KE) (l : Launch) (a : Nat → Nat) (V0 : CM) (p1 : Int) (res : Int × CM) (hf : X9_append V0 p1 = some res) : CT l K.1 vwCl (kT K) yX9_append wsX9_append rmX9_append [.ref (a 0), ii p1] (some (ii res.1)) (c9 K a V0) (c9 K a res.2) :=
  CT.mk (cc := cX9_append) (maxL := 2) (ret := (some .int)) (by decide) rfl (Nat.le_of_ble_eq_true rfl) (fun p e s m below meth c X hr hlk => X9_append_go K l a _ X hr hlk V0 p1 res hf)
theorem iw_X9_clearText_X9 : ∀ w ∈ u_ws RX9 TX9 8, w ∈ wsX9_clearText := by decide +kernel
theorem fl_X9_clearText_26 : Cond.fieldLink RX9 26 (TX9 2).1 (TX9 2).2.1 (TX9 2).2.2.1 ∈ wsX9_clearText := by decide +kernel
theorem iw_X9_clearText_X3 : ∀ w ∈ u_ws RX3 TX3 3, w ∈ wsX9_clearText := by decide +kernel
theorem fl_X9_clearText_138 : Cond.fieldLink RX9 138 (TX3 1).1 (TX3 1).2.1 (TX3 1).2.2.1 ∈ wsX9_clearText := by decide +kernel
def rmX9_clearText : Room := { frames := 0, cells := 0, slots := 0, locals := 0 }
def X9_clearText (V0 : CM) : Option (Int × CM) := some (V0.2.2.1.2.1, (V0.1, V0.2.1, (V0.2.2.1.1, 0, V0.2.2.1.2.2), V0.2.2.2.1, V0.2.2.2.2.1, V0.2.2.2.2.2.1, V0.2.2.2.2.2.2.1, V0.2.2.2.2.2.2.2))
set_option maxHeartbeats 4000000 in
set_option maxRecDepth 100000 in
theorem X9_clearText_go (K : KE) (l : Launch) (a : Nat → Nat) (WC : va_W) {p : Program} {e : Env} {s : State} {m : MethodId} {args : Array Value} {below : List Frame} {meth : Method} {c : Code} (X : CX p s m args c K.1 vwCl (kT K) (va_A WC s.heap.size) cX9_clearText 2 wsX9_clearText RX9) (hr : meth.sig.returnType = (some .int)) (hlk : meth.locks = false) (V0 : CM) (res : Int × CM) (hf : X9_clearText V0 = some res) : GO p l e rmX9_clearText s m args below meth c K.1 vwCl (va_A WC s.heap.size) (MQ below (QC K.1 vwCl (some (ii res.1)) WC (c9 K a res.2) s.heap.size) args s 0 0 (va_A WC s.heap.size)) 2 0 0 0 [(0, .ref (a 0))] [] (c9 K a V0) := by
  rw [X9_clearText] at hf
  refine g_aload_n X dX9_clearText_0 0 rfl rfl ?_
  refine g_get X (v := .ref (ash a 25 0)) 0 2 dX9_clearText_1 rfl rfl iw_X9_clearText_X9 (by decide) fl_X9_clearText_26 rfl ?_
  refine g_get X (v := ii V0.2.2.1.2.1) 25 1 dX9_clearText_4 rfl rfl iw_X9_clearText_X3 (by decide) fl_X9_clearText_138 rfl ?_
  refine g_istore_n X (lv' := [(1, ii V0.2.2.1.2.1), (0, .ref (a 0))]) dX9_clearText_7 rfl (by decide) rfl ?_
  refine g_aload_n X dX9_clearText_8 1 rfl rfl ?_
  refine g_get X (v := .ref (ash a 25 0)) 0 2 dX9_clearText_9 rfl rfl iw_X9_clearText_X9 (by decide) fl_X9_clearText_26 rfl ?_
  refine g_iconst X dX9_clearText_12 ?_
  refine g_puti X 25 1 dX9_clearText_13 rfl rfl iw_X9_clearText_X3 tyX3_ok nmX3 (by decide) fl_X9_clearText_138 rfl rfl (Nat.le_of_ble_eq_true rfl) (ws' := c9 K a (V0.1, V0.2.1, (V0.2.2.1.1, 0, V0.2.2.1.2.2), V0.2.2.2.1, V0.2.2.2.2.1, V0.2.2.2.2.2.1, V0.2.2.2.2.2.2.1, V0.2.2.2.2.2.2.2)) rfl ?_
  refine g_iload_n X dX9_clearText_16 0 rfl rfl ?_
  cases hf
  exact g_iret X hr hlk dX9_clearText_17
set_option maxHeartbeats 4000000 in
set_option maxRecDepth 100000 in
theorem X9_clearText_ok (K : KE) (l : Launch) (a : Nat → Nat) (V0 : CM) (res : Int × CM) (hf : X9_clearText V0 = some res) : CT l K.1 vwCl (kT K) yX9_clearText wsX9_clearText rmX9_clearText [.ref (a 0)] (some (ii res.1)) (c9 K a V0) (c9 K a res.2) :=
  CT.mk (cc := cX9_clearText) (maxL := 2) (ret := (some .int)) (by decide) rfl (Nat.le_of_ble_eq_true rfl) (fun p e s m below meth c X hr hlk => X9_clearText_go K l a _ X hr hlk V0 res hf)
theorem iw_X9_parse_X9 : ∀ w ∈ u_ws RX9 TX9 8, w ∈ wsX9_parse := by decide +kernel
theorem fl_X9_parse_26 : Cond.fieldLink RX9 26 (TX9 2).1 (TX9 2).2.1 (TX9 2).2.2.1 ∈ wsX9_parse := by decide +kernel
theorem fl_X9_parse_10 : Cond.fieldLink RX9 10 (TX9 0).1 (TX9 0).2.1 (TX9 0).2.2.1 ∈ wsX9_parse := by decide +kernel
theorem fl_X9_parse_33 : Cond.fieldLink RX9 33 (TX9 3).1 (TX9 3).2.1 (TX9 3).2.2.1 ∈ wsX9_parse := by decide +kernel
theorem iw_X9_parse_X3 : ∀ w ∈ u_ws RX3 TX3 3, w ∈ wsX9_parse := by decide +kernel
theorem fl_X9_parse_145 : Cond.fieldLink RX9 145 (TX3 2).1 (TX3 2).2.1 (TX3 2).2.2.1 ∈ wsX9_parse := by decide +kernel
theorem fl_X9_parse_19 : Cond.fieldLink RX9 19 (TX9 1).1 (TX9 1).2.1 (TX9 1).2.2.1 ∈ wsX9_parse := by decide +kernel
theorem iw_X9_parse_X8 : ∀ w ∈ u_ws RX8 TX8 9, w ∈ wsX9_parse := by decide +kernel
theorem fl_X9_parse_148 : Cond.fieldLink RX9 148 (TX8 7).1 (TX8 7).2.1 (TX8 7).2.2.1 ∈ wsX9_parse := by decide +kernel
theorem iw_X9_parse_X6 : ∀ w ∈ u_ws RX6 TX6 4, w ∈ wsX9_parse := by decide +kernel
theorem fl_X9_parse_155 : Cond.fieldLink RX9 155 (TX6 0).1 (TX6 0).2.1 (TX6 0).2.2.1 ∈ wsX9_parse := by decide +kernel
def rmX9_parse : Room := { frames := 86, cells := 0, slots := 0, locals := 2545 }
def X9_parse (V0 : CM) : Option (Int × CM) := (X3_readProgram V0.1 V0.2.2.1 V0.2.2.2.1).bind (fun w1 => brEQ w1.1 0 (some (((-10) - w1.2.1.2.2), (V0.1, V0.2.1, w1.2.1, w1.2.2, V0.2.2.2.2.1, V0.2.2.2.2.2.1, V0.2.2.2.2.2.2.1, V0.2.2.2.2.2.2.2))) ((X2_save V0.1 V0.2.1).bind (fun v3 => (X6_copyFrom V0.1.2.2.2.2.2.2.2.1 w1.2.2).bind (fun v5 => some (v5.1, ((V0.1.1, V0.1.2.1, V0.1.2.2.1, V0.1.2.2.2.1, V0.1.2.2.2.2.1, V0.1.2.2.2.2.2.1, V0.1.2.2.2.2.2.2.1, v5, V0.1.2.2.2.2.2.2.2.2), v3, w1.2.1, w1.2.2, V0.2.2.2.2.1, V0.2.2.2.2.2.1, V0.2.2.2.2.2.2.1, V0.2.2.2.2.2.2.2))))))
set_option maxHeartbeats 4000000 in
set_option maxRecDepth 100000 in
theorem X9_parse_go (K : KE) (l : Launch) (a : Nat → Nat) (WC : va_W) {p : Program} {e : Env} {s : State} {m : MethodId} {args : Array Value} {below : List Frame} {meth : Method} {c : Code} (X : CX p s m args c K.1 vwCl (kT K) (va_A WC s.heap.size) cX9_parse 1 wsX9_parse RX9) (hr : meth.sig.returnType = (some .int)) (hlk : meth.locks = false) (V0 : CM) (res : Int × CM) (hf : X9_parse V0 = some res) : GO p l e rmX9_parse s m args below meth c K.1 vwCl (va_A WC s.heap.size) (MQ below (QC K.1 vwCl (some (ii res.1)) WC (c9 K a res.2) s.heap.size) args s 0 0 (va_A WC s.heap.size)) 1 0 0 0 [(0, .ref (a 0))] [] (c9 K a V0) := by
  rw [X9_parse] at hf
  refine g_aload_n X dX9_parse_0 0 rfl rfl ?_
  refine g_get X (v := .ref (ash a 25 0)) 0 2 dX9_parse_1 rfl rfl iw_X9_parse_X9 (by decide) fl_X9_parse_26 rfl ?_
  refine g_aload_n X dX9_parse_4 0 rfl rfl ?_
  refine g_get X (v := .ref (ash a 2 0)) 0 0 dX9_parse_5 rfl rfl iw_X9_parse_X9 (by decide) fl_X9_parse_10 rfl ?_
  refine g_aload_n X dX9_parse_8 0 rfl rfl ?_
  refine g_get X (v := .ref (ash a 27 0)) 0 3 dX9_parse_9 rfl rfl iw_X9_parse_X9 (by decide) fl_X9_parse_33 rfl ?_
  obtain ⟨w1, hc2, hf⟩ := Option.bind_eq_some_iff.mp hf
  refine g_callV X (As := [.ref (ash a 2 0), .ref (ash a 27 0)]) (st := []) (st1 := [ii w1.1]) (ws' := c9 K a (V0.1, V0.2.1, w1.2.1, w1.2.2, V0.2.2.2.2.1, V0.2.2.2.2.2.1, V0.2.2.2.2.2.2.1, V0.2.2.2.2.2.2.2)) (X3_readProgram_ok K l (ash a 2) (ash a 25) (ash a 27) V0.1 V0.2.2.1 V0.2.2.2.1 w1 hc2) gX9_parse_X3_readProgram rfl 2 (by decide +kernel) ⟨rfl, rfl⟩ ⟨Nat.le_of_ble_eq_true rfl, Nat.le_of_ble_eq_true rfl⟩ ⟨Nat.zero_le _, Nat.zero_le _⟩ 25 rfl rfl rfl rfl (Nat.le_of_ble_eq_true rfl) dX9_parse_12 (SG.one ([(a 0, .inr (9, [.ref (ash a 2 0), .ref (ash a 43 0), .ref (ash a 25 0), .ref (ash a 27 0), .ref (ash a 31 0), .ref (ash a 34 0), .ref (ash a 36 0), .ref (a 1)]))] ++ ([(a 1, .inl (K.2.1, 4, .inl (arI V0.2.2.2.2.2.2.2)))])) (c7 K (ash a 31) V0.2.2.2.2.1 ++ (c0 K (ash a 34) V0.2.2.2.2.2.1 ++ (c5 K (ash a 36) V0.2.2.2.2.2.2.1 ++ (c2 K (ash a 43) V0.2.1)))) rfl rfl rfl) rfl ?_
  refine g_if_ne X hf 29 dX9_parse_15 (by decide) (fun hf => ?_) (fun hf => ?_)
  · refine g_bipush X dX9_parse_18 (by decide +kernel) ?_
    refine g_aload_n X dX9_parse_20 0 rfl rfl ?_
    refine g_get X (v := .ref (ash a 25 0)) 0 2 dX9_parse_21 rfl rfl iw_X9_parse_X9 (by decide) fl_X9_parse_26 rfl ?_
    refine g_get X (v := ii w1.2.1.2.2) 25 2 dX9_parse_24 rfl rfl iw_X9_parse_X3 (by decide) fl_X9_parse_145 rfl ?_
    refine g_isub X dX9_parse_27 ?_
    cases hf
    exact g_iret X hr hlk dX9_parse_28
  · refine g_aload_n X dX9_parse_29 0 rfl rfl ?_
    refine g_get X (v := .ref (ash a 43 0)) 0 1 dX9_parse_30 rfl rfl iw_X9_parse_X9 (by decide) fl_X9_parse_19 rfl ?_
    refine g_aload_n X dX9_parse_33 0 rfl rfl ?_
    refine g_get X (v := .ref (ash a 2 0)) 0 0 dX9_parse_34 rfl rfl iw_X9_parse_X9 (by decide) fl_X9_parse_10 rfl ?_
    obtain ⟨v3, hc4, hf⟩ := Option.bind_eq_some_iff.mp hf
    refine g_callV X (As := [.ref (ash a 2 0)]) (st := []) (st1 := []) (ws' := c9 K a (V0.1, v3, w1.2.1, w1.2.2, V0.2.2.2.2.1, V0.2.2.2.2.2.1, V0.2.2.2.2.2.2.1, V0.2.2.2.2.2.2.2)) (X2_save_ok K l (ash a 2) (ash a 43) V0.1 V0.2.1 v3 hc4) gX9_parse_X2_save rfl 1 (by decide +kernel) ⟨rfl, rfl⟩ ⟨Nat.le_of_ble_eq_true rfl, Nat.le_of_ble_eq_true rfl⟩ ⟨Nat.zero_le _, Nat.zero_le _⟩ 43 rfl rfl rfl rfl (Nat.le_of_ble_eq_true rfl) dX9_parse_37 (SG.two ([(a 0, .inr (9, [.ref (ash a 2 0), .ref (ash a 43 0), .ref (ash a 25 0), .ref (ash a 27 0), .ref (ash a 31 0), .ref (ash a 34 0), .ref (ash a 36 0), .ref (a 1)]))] ++ ([(a 1, .inl (K.2.1, 4, .inl (arI V0.2.2.2.2.2.2.2)))])) (c3 K (ash a 25) w1.2.1 ++ (c6 K (ash a 27) w1.2.2 ++ (c7 K (ash a 31) V0.2.2.2.2.1 ++ (c0 K (ash a 34) V0.2.2.2.2.2.1 ++ (c5 K (ash a 36) V0.2.2.2.2.2.2.1))))) [] rfl rfl rfl) rfl ?_
    refine g_aload_n X dX9_parse_40 0 rfl rfl ?_
    refine g_get X (v := .ref (ash a 2 0)) 0 0 dX9_parse_41 rfl rfl iw_X9_parse_X9 (by decide) fl_X9_parse_10 rfl ?_
    refine g_get X (v := .ref (ash (ash a 2) 18 0)) 2 7 dX9_parse_44 rfl rfl iw_X9_parse_X8 (by decide) fl_X9_parse_148 rfl ?_
    refine g_aload_n X dX9_parse_47 0 rfl rfl ?_
    refine g_get X (v := .ref (ash a 27 0)) 0 3 dX9_parse_48 rfl rfl iw_X9_parse_X9 (by decide) fl_X9_parse_33 rfl ?_
    obtain ⟨v5, hc6, hf⟩ := Option.bind_eq_some_iff.mp hf
    refine g_callV X (As := [.ref (ash a 27 0)]) (st := []) (st1 := []) (ws' := c9 K a ((V0.1.1, V0.1.2.1, V0.1.2.2.1, V0.1.2.2.2.1, V0.1.2.2.2.2.1, V0.1.2.2.2.2.2.1, V0.1.2.2.2.2.2.2.1, v5, V0.1.2.2.2.2.2.2.2.2), v3, w1.2.1, w1.2.2, V0.2.2.2.2.1, V0.2.2.2.2.2.1, V0.2.2.2.2.2.2.1, V0.2.2.2.2.2.2.2)) (X6_copyFrom_ok K l (ash (ash a 2) 18) (ash a 27) V0.1.2.2.2.2.2.2.2.1 w1.2.2 v5 hc6) gX9_parse_X6_copyFrom rfl 1 (by decide +kernel) ⟨rfl, rfl⟩ ⟨Nat.le_of_ble_eq_true rfl, Nat.le_of_ble_eq_true rfl⟩ ⟨Nat.zero_le _, Nat.zero_le _⟩ 20 rfl rfl rfl rfl (Nat.le_of_ble_eq_true rfl) dX9_parse_51 (SG.two ([(a 0, .inr (9, [.ref (ash a 2 0), .ref (ash a 43 0), .ref (ash a 25 0), .ref (ash a 27 0), .ref (ash a 31 0), .ref (ash a 34 0), .ref (ash a 36 0), .ref (a 1)]))] ++ ([(a 1, .inl (K.2.1, 4, .inl (arI V0.2.2.2.2.2.2.2)))] ++ ([(ash a 2 0, .inr (8, [.ref (ash (ash a 2) 1 0), .ref (ash (ash a 2) 5 0), .ref (ash (ash a 2) 9 0), ii V0.1.2.2.2.1, .ref (ash a 2 13), ii V0.1.2.2.2.2.2.1, .ref (ash (ash a 2) 14 0), .ref (ash (ash a 2) 18 0), .ref (ash a 2 22)]))] ++ (c1 K 6 (ash (ash a 2) 1) V0.1.1 ++ (c1 K 6 (ash (ash a 2) 5) V0.1.2.1 ++ (c1 K 4 (ash (ash a 2) 9) V0.1.2.2.1 ++ ([(ash a 2 13, .inl (K.2.1, 6, .inl (arI V0.1.2.2.2.2.1)))] ++ (c4 K (ash (ash a 2) 14) V0.1.2.2.2.2.2.2.1)))))))) ([(ash a 2 22, .inl (K.2.1, 8, .inl (arI V0.1.2.2.2.2.2.2.2.2)))] ++ (c3 K (ash a 25) w1.2.1)) (c7 K (ash a 31) V0.2.2.2.2.1 ++ (c0 K (ash a 34) V0.2.2.2.2.2.1 ++ (c5 K (ash a 36) V0.2.2.2.2.2.2.1 ++ (c2 K (ash a 43) v3)))) rfl rfl rfl) rfl ?_
    refine g_aload_n X dX9_parse_54 0 rfl rfl ?_
    refine g_get X (v := .ref (ash a 2 0)) 0 0 dX9_parse_55 rfl rfl iw_X9_parse_X9 (by decide) fl_X9_parse_10 rfl ?_
    refine g_get X (v := .ref (ash (ash a 2) 18 0)) 2 7 dX9_parse_58 rfl rfl iw_X9_parse_X8 (by decide) fl_X9_parse_148 rfl ?_
    refine g_get X (v := ii v5.1) 20 0 dX9_parse_61 rfl rfl iw_X9_parse_X6 (by decide) fl_X9_parse_155 rfl ?_
    cases hf
    exact g_iret X hr hlk dX9_parse_64
set_option maxHeartbeats 4000000 in
set_option maxRecDepth 100000 in
theorem X9_parse_ok (K : KE) (l : Launch) (a : Nat → Nat) (V0 : CM) (res : Int × CM) (hf : X9_parse V0 = some res) : CT l K.1 vwCl (kT K) yX9_parse wsX9_parse rmX9_parse [.ref (a 0)] (some (ii res.1)) (c9 K a V0) (c9 K a res.2) :=
  CT.mk (cc := cX9_parse) (maxL := 1) (ret := (some .int)) (by decide) rfl (Nat.le_of_ble_eq_true rfl) (fun p e s m below meth c X hr hlk => X9_parse_go K l a _ X hr hlk V0 res hf)
