def rmX9_isCall : Room := { frames := 0, cells := 0, slots := 0, locals := 0 }
def X9_isCall (p0 : Int) : Option (Int) := brEQ p0 2 (some 1) (brEQ p0 3 (some 1) (brEQ p0 4 (some 1) (some 0)))
set_option maxHeartbeats 4000000 in
set_option maxRecDepth 100000 in
theorem X9_isCall_go (K : KE) (l : Launch) (WC : va_W) {p : Program} {e : Env} {s : State} {m : MethodId} {args : Array Value} {below : List Frame} {meth : Method} {c : Code} (X : CX p s m args c K.1 vwCl (kT K) (va_A WC s.heap.size) cX9_isCall 1 wsX9_isCall RX9) (hr : meth.sig.returnType = (some .boolean)) (hlk : meth.locks = false) (p0 : Int) (res : Int) (hf : X9_isCall p0 = some res) : GO p l e rmX9_isCall s m args below meth c K.1 vwCl (va_A WC s.heap.size) (MQ below (QC K.1 vwCl (some (ii res)) WC ([]) s.heap.size) args s 0 0 (va_A WC s.heap.size)) 1 0 0 0 [(0, ii p0)] [] ([]) := by
  rw [X9_isCall] at hf
  refine g_iload_n X dX9_isCall_0 0 rfl rfl ?_
  refine g_iconst X dX9_isCall_1 ?_
  refine g_icmp_eq X hf 15 dX9_isCall_2 (by decide) (fun hf => ?_) (fun hf => ?_)
  · refine g_iconst X dX9_isCall_15 ?_
    refine g_goto X 20 dX9_isCall_16 (by decide) ?_
    cases hf
    exact g_zret X (Or.inr rfl) hr hlk dX9_isCall_20
  · refine g_iload_n X dX9_isCall_5 0 rfl rfl ?_
    refine g_iconst X dX9_isCall_6 ?_
    refine g_icmp_eq X hf 15 dX9_isCall_7 (by decide) (fun hf => ?_) (fun hf => ?_)
    · refine g_iconst X dX9_isCall_15 ?_
      refine g_goto X 20 dX9_isCall_16 (by decide) ?_
      cases hf
      exact g_zret X (Or.inr rfl) hr hlk dX9_isCall_20
    · refine g_iload_n X dX9_isCall_10 0 rfl rfl ?_
      refine g_iconst X dX9_isCall_11 ?_
      refine g_icmp_ne X hf 19 dX9_isCall_12 (by decide) (fun hf => ?_) (fun hf => ?_)
      · refine g_iconst X dX9_isCall_15 ?_
        refine g_goto X 20 dX9_isCall_16 (by decide) ?_
        cases hf
        exact g_zret X (Or.inr rfl) hr hlk dX9_isCall_20
      · refine g_iconst X dX9_isCall_19 ?_
        cases hf
        exact g_zret X (Or.inl rfl) hr hlk dX9_isCall_20
set_option maxHeartbeats 4000000 in
set_option maxRecDepth 100000 in
theorem X9_isCall_ok (K : KE) (l : Launch) (p0 : Int) (res : Int) (hf : X9_isCall p0 = some res) : CT l K.1 vwCl (kT K) yX9_isCall wsX9_isCall rmX9_isCall [ii p0] (some (ii res)) ([]) ([]) :=
  CT.mk (cc := cX9_isCall) (maxL := 1) (ret := (some .boolean)) (by decide) rfl (Nat.le_of_ble_eq_true rfl) (fun p e s m below meth c X hr hlk => X9_isCall_go K l  _ X hr hlk p0 res hf)
theorem iw_X8_tableOf_X8 : ∀ w ∈ u_ws RX8 TX8 9, w ∈ wsX8_tableOf := by decide +kernel
theorem fl_X8_tableOf_14 : Cond.fieldLink RX8 14 (TX8 0).1 (TX8 0).2.1 (TX8 0).2.2.1 ∈ wsX8_tableOf := by decide +kernel
theorem fl_X8_tableOf_20 : Cond.fieldLink RX8 20 (TX8 1).1 (TX8 1).2.1 (TX8 1).2.2.1 ∈ wsX8_tableOf := by decide +kernel
theorem fl_X8_tableOf_23 : Cond.fieldLink RX8 23 (TX8 2).1 (TX8 2).2.1 (TX8 2).2.2.1 ∈ wsX8_tableOf := by decide +kernel
def rmX8_tableOf : Room := { frames := 0, cells := 0, slots := 0, locals := 0 }
def X8_tableOf (V0 : St) (p1 : Int) : Option (Int) := brEQ p1 2 (some 0) (brEQ p1 3 (some 1) (some 2))
set_option maxHeartbeats 4000000 in
set_option maxRecDepth 100000 in
theorem X8_tableOf_go (K : KE) (l : Launch) (a : Nat → Nat) (WC : va_W) {p : Program} {e : Env} {s : State} {m : MethodId} {args : Array Value} {below : List Frame} {meth : Method} {c : Code} (X : CX p s m args c K.1 vwCl (kT K) (va_A WC s.heap.size) cX8_tableOf 2 wsX8_tableOf RX8) (hr : meth.sig.returnType = (some (.object "CallMigrator$FunctionTable"))) (hlk : meth.locks = false) (V0 : St) (p1 : Int) (res : Int) (hf : X8_tableOf V0 p1 = some res) : GO p l e rmX8_tableOf s m args below meth c K.1 vwCl (va_A WC s.heap.size) (MQ below (QC K.1 vwCl (some (.ref (tbA a res))) WC (c8 K a V0) s.heap.size) args s 0 0 (va_A WC s.heap.size)) 2 0 0 0 [(0, .ref (a 0)), (1, ii p1)] [] (c8 K a V0) := by
  rw [X8_tableOf] at hf
  refine g_iload_n X dX8_tableOf_0 1 rfl rfl ?_
  refine g_iconst X dX8_tableOf_1 ?_
  refine g_icmp_ne X hf 10 dX8_tableOf_2 (by decide) (fun hf => ?_) (fun hf => ?_)
  · refine g_aload_n X dX8_tableOf_5 0 rfl rfl ?_
    refine g_get X (v := .ref (ash a 1 0)) 0 0 dX8_tableOf_6 rfl rfl iw_X8_tableOf_X8 (by decide) fl_X8_tableOf_14 rfl ?_
    cases hf
    exact g_aret X hr hlk dX8_tableOf_9
  · refine g_iload_n X dX8_tableOf_10 1 rfl rfl ?_
    refine g_iconst X dX8_tableOf_11 ?_
    refine g_icmp_ne X hf 22 dX8_tableOf_12 (by decide) (fun hf => ?_) (fun hf => ?_)
    · refine g_aload_n X dX8_tableOf_15 0 rfl rfl ?_
      refine g_get X (v := .ref (ash a 5 0)) 0 1 dX8_tableOf_16 rfl rfl iw_X8_tableOf_X8 (by decide) fl_X8_tableOf_20 rfl ?_
      refine g_goto X 26 dX8_tableOf_19 (by decide) ?_
      cases hf
      exact g_aret X hr hlk dX8_tableOf_26
    · refine g_aload_n X dX8_tableOf_22 0 rfl rfl ?_
      refine g_get X (v := .ref (ash a 9 0)) 0 2 dX8_tableOf_23 rfl rfl iw_X8_tableOf_X8 (by decide) fl_X8_tableOf_23 rfl ?_
      cases hf
      exact g_aret X hr hlk dX8_tableOf_26
set_option maxHeartbeats 4000000 in
set_option maxRecDepth 100000 in
theorem X8_tableOf_ok (K : KE) (l : Launch) (a : Nat → Nat) (V0 : St) (p1 : Int) (res : Int) (hf : X8_tableOf V0 p1 = some res) : CT l K.1 vwCl (kT K) yX8_tableOf wsX8_tableOf rmX8_tableOf [.ref (a 0), ii p1] (some (.ref (tbA a res))) (c8 K a V0) (c8 K a V0) :=
  CT.mk (cc := cX8_tableOf) (maxL := 2) (ret := (some (.object "CallMigrator$FunctionTable"))) (by decide) rfl (Nat.le_of_ble_eq_true rfl) (fun p e s m below meth c X hr hlk => X8_tableOf_go K l a _ X hr hlk V0 p1 res hf)
def rmX1_slotOf : Room := { frames := 0, cells := 0, slots := 0, locals := 0 }
def X1_slotOf (p0 : Int) (p1 : Int) : Option (Int) := some (((p0 * 5) + p1) - (-1))
set_option maxHeartbeats 4000000 in
set_option maxRecDepth 100000 in
theorem X1_slotOf_go (K : KE) (l : Launch) (WC : va_W) {p : Program} {e : Env} {s : State} {m : MethodId} {args : Array Value} {below : List Frame} {meth : Method} {c : Code} (X : CX p s m args c K.1 vwCl (kT K) (va_A WC s.heap.size) cX1_slotOf 2 wsX1_slotOf RX1) (hr : meth.sig.returnType = (some .int)) (hlk : meth.locks = false) (p0 : Int) (p1 : Int) (res : Int) (hf : X1_slotOf p0 p1 = some res) : GO p l e rmX1_slotOf s m args below meth c K.1 vwCl (va_A WC s.heap.size) (MQ below (QC K.1 vwCl (some (ii res)) WC ([]) s.heap.size) args s 0 0 (va_A WC s.heap.size)) 2 0 0 0 [(0, ii p0), (1, ii p1)] [] ([]) := by
  rw [X1_slotOf] at hf
  refine g_iload_n X dX1_slotOf_0 0 rfl rfl ?_
  refine g_iconst X dX1_slotOf_1 ?_
  refine g_imul X dX1_slotOf_2 ?_
  refine g_iload_n X dX1_slotOf_3 1 rfl rfl ?_
  refine g_iadd X dX1_slotOf_4 ?_
  refine g_iconst X dX1_slotOf_5 ?_
  refine g_isub X dX1_slotOf_6 ?_
  cases hf
  exact g_iret X hr hlk dX1_slotOf_7
set_option maxHeartbeats 4000000 in
set_option maxRecDepth 100000 in
theorem X1_slotOf_ok (K : KE) (l : Launch) (p0 : Int) (p1 : Int) (res : Int) (hf : X1_slotOf p0 p1 = some res) : CT l K.1 vwCl (kT K) yX1_slotOf wsX1_slotOf rmX1_slotOf [ii p0, ii p1] (some (ii res)) ([]) ([]) :=
  CT.mk (cc := cX1_slotOf) (maxL := 2) (ret := (some .int)) (by decide) rfl (Nat.le_of_ble_eq_true rfl) (fun p e s m below meth c X hr hlk => X1_slotOf_go K l  _ X hr hlk p0 p1 res hf)
def rmX9_within : Room := { frames := 0, cells := 0, slots := 0, locals := 0 }
def X9_within (p0 : Int) (p1 : Int) (p2 : Int) : Option (Int) := brLT p0 p1 (some 0) (brLE p0 p2 (some 1) (some 0))
set_option maxHeartbeats 4000000 in
set_option maxRecDepth 100000 in
theorem X9_within_go (K : KE) (l : Launch) (WC : va_W) {p : Program} {e : Env} {s : State} {m : MethodId} {args : Array Value} {below : List Frame} {meth : Method} {c : Code} (X : CX p s m args c K.1 vwCl (kT K) (va_A WC s.heap.size) cX9_within 3 wsX9_within RX9) (hr : meth.sig.returnType = (some .boolean)) (hlk : meth.locks = false) (p0 : Int) (p1 : Int) (p2 : Int) (res : Int) (hf : X9_within p0 p1 p2 = some res) : GO p l e rmX9_within s m args below meth c K.1 vwCl (va_A WC s.heap.size) (MQ below (QC K.1 vwCl (some (ii res)) WC ([]) s.heap.size) args s 0 0 (va_A WC s.heap.size)) 3 0 0 0 [(0, ii p0), (1, ii p1), (2, ii p2)] [] ([]) := by
  rw [X9_within] at hf
  refine g_iload_n X dX9_within_0 0 rfl rfl ?_
  refine g_iload_n X dX9_within_1 1 rfl rfl ?_
  refine g_icmp_lt X hf 14 dX9_within_2 (by decide) (fun hf => ?_) (fun hf => ?_)
  · refine g_iconst X dX9_within_14 ?_
    cases hf
    exact g_zret X (Or.inl rfl) hr hlk dX9_within_15
  · refine g_iload_n X dX9_within_5 0 rfl rfl ?_
    refine g_iload_n X dX9_within_6 2 rfl rfl ?_
    refine g_icmp_gt X hf 14 dX9_within_7 (by decide) (fun hf => ?_) (fun hf => ?_)
    · refine g_iconst X dX9_within_10 ?_
      refine g_goto X 15 dX9_within_11 (by decide) ?_
      cases hf
      exact g_zret X (Or.inr rfl) hr hlk dX9_within_15
    · refine g_iconst X dX9_within_14 ?_
      cases hf
      exact g_zret X (Or.inl rfl) hr hlk dX9_within_15
set_option maxHeartbeats 4000000 in
set_option maxRecDepth 100000 in
theorem X9_within_ok (K : KE) (l : Launch) (p0 : Int) (p1 : Int) (p2 : Int) (res : Int) (hf : X9_within p0 p1 p2 = some res) : CT l K.1 vwCl (kT K) yX9_within wsX9_within rmX9_within [ii p0, ii p1, ii p2] (some (ii res)) ([]) ([]) :=
  CT.mk (cc := cX9_within) (maxL := 3) (ret := (some .boolean)) (by decide) rfl (Nat.le_of_ble_eq_true rfl) (fun p e s m below meth c X hr hlk => X9_within_go K l  _ X hr hlk p0 p1 p2 res hf)
theorem iw_X1_term_X1 : ∀ w ∈ u_ws RX1 TX1 4, w ∈ wsX1_term := by decide +kernel
theorem fl_X1_term_28 : Cond.fieldLink RX1 28 (TX1 3).1 (TX1 3).2.1 (TX1 3).2.2.1 ∈ wsX1_term := by decide +kernel
theorem ne_X1_term_37 : (RX1, 37, yX9_within) ∈ nestL := by decide +kernel
theorem wd_X1_term_ini9 : Cond.initialized yX9_within.cls ∈ wsX1_term := by decide +kernel
theorem wd_X1_term_sta_X9_within : Cond.static yX9_within ∈ wsX1_term := by decide +kernel
def rmX1_term : Room := { frames := 1, cells := 0, slots := 0, locals := 22 }
def X1_term (cn0 : Nat) (V0 : FT) (p1 : Int) (p2 : Int) : Option (Int) := (X1_slotOf p1 p2).bind (fun v1 => (X9_within v1 0 ((((5 * cn0) : Nat) : Int) - 1)).bind (fun v3 => brEQ v3 0 (some 0) (rdK (5 * cn0) V0.2.2 v1 (fun v5 => some v5))))
set_option maxHeartbeats 4000000 in
set_option maxRecDepth 100000 in
theorem X1_term_go (K : KE) (l : Launch) (cn0 : Nat) (hcn0 : cn0 ≤ 1000) (a : Nat → Nat) (WC : va_W) {p : Program} {e : Env} {s : State} {m : MethodId} {args : Array Value} {below : List Frame} {meth : Method} {c : Code} (X : CX p s m args c K.1 vwCl (kT K) (va_A WC s.heap.size) cX1_term 4 wsX1_term RX1) (hr : meth.sig.returnType = (some .int)) (hlk : meth.locks = false) (V0 : FT) (p1 : Int) (p2 : Int) (res : Int) (hf : X1_term cn0 V0 p1 p2 = some res) : GO p l e rmX1_term s m args below meth c K.1 vwCl (va_A WC s.heap.size) (MQ below (QC K.1 vwCl (some (ii res)) WC (c1 K cn0 a V0) s.heap.size) args s 0 0 (va_A WC s.heap.size)) 4 0 0 0 [(0, .ref (a 0)), (1, ii p1), (2, ii p2)] [] (c1 K cn0 a V0) := by
  rw [X1_term] at hf
  refine g_iload_n X dX1_term_0 1 rfl rfl ?_
  refine g_iload_n X dX1_term_1 2 rfl rfl ?_
  obtain ⟨v1, hc2, hf⟩ := Option.bind_eq_some_iff.mp hf
  refine g_callS X (As := [ii p1, ii p2]) (st := []) (st1 := [ii v1]) (ws' := c1 K cn0 a V0) (X1_slotOf_ok K l p1 p2 v1 hc2) gX1_term_X1_slotOf rfl 2 (by decide +kernel) ⟨rfl, rfl⟩ ⟨Nat.le_of_ble_eq_true rfl, Nat.le_of_ble_eq_true rfl⟩ ⟨Nat.zero_le _, Nat.zero_le _⟩ rfl rfl (Nat.le_of_ble_eq_true rfl) dX1_term_2 SG.none rfl ?_
  refine g_istore_n X (lv' := [(3, ii v1), (0, .ref (a 0)), (1, ii p1), (2, ii p2)]) dX1_term_5 rfl (by decide) rfl ?_
  refine g_iload_n X dX1_term_6 0 rfl rfl ?_
  refine g_iconst X dX1_term_7 ?_
  refine g_aload_n X dX1_term_8 1 rfl rfl ?_
  refine g_get X (v := .ref (a 3)) 0 3 dX1_term_9 rfl rfl iw_X1_term_X1 (by decide) fl_X1_term_28 rfl ?_
  refine g_alen X (n := (5 * cn0)) 3 0 dX1_term_12 rfl rfl ?_
  refine g_iconst X dX1_term_13 ?_
  refine g_isub X dX1_term_14 ?_
  obtain ⟨v3, hc4, hf⟩ := Option.bind_eq_some_iff.mp hf
  refine g_callSN X (As := [ii v1, ii 0, ii ((((5 * cn0) : Nat) : Int) - 1)]) (st := []) (st1 := [ii v3]) (ws' := c1 K cn0 a V0) (X9_within_ok K l v1 0 ((((5 * cn0) : Nat) : Int) - 1) v3 hc4) ggX1_term_X9_within ne_X1_term_37 wd_X1_term_ini9 wd_X1_term_sta_X9_within rfl 3 (by decide +kernel) ⟨rfl, rfl⟩ ⟨Nat.le_of_ble_eq_true rfl, Nat.le_of_ble_eq_true rfl⟩ ⟨Nat.zero_le _, Nat.zero_le _⟩ rfl rfl (Nat.le_of_ble_eq_true rfl) dX1_term_15 SG.none rfl ?_
  refine g_if_eq X hf 30 dX1_term_18 (by decide) (fun hf => ?_) (fun hf => ?_)
  · refine g_iconst X dX1_term_30 ?_
    cases hf
    exact g_iret X hr hlk dX1_term_31
  · refine g_aload_n X dX1_term_21 1 rfl rfl ?_
    refine g_get X (v := .ref (a 3)) 0 3 dX1_term_22 rfl rfl iw_X1_term_X1 (by decide) fl_X1_term_28 rfl ?_
    refine g_iload_n X dX1_term_25 0 rfl rfl ?_
    refine g_iald X hf (by omega) 3 0 dX1_term_26 rfl rfl (fun v5 hf => ?_)
    refine g_goto X 31 dX1_term_27 (by decide) ?_
    cases hf
    exact g_iret X hr hlk dX1_term_31
set_option maxHeartbeats 4000000 in
set_option maxRecDepth 100000 in
theorem X1_term_ok (K : KE) (l : Launch) (cn0 : Nat) (hcn0 : cn0 ≤ 1000) (a : Nat → Nat) (V0 : FT) (p1 : Int) (p2 : Int) (res : Int) (hf : X1_term cn0 V0 p1 p2 = some res) : CT l K.1 vwCl (kT K) yX1_term wsX1_term rmX1_term [.ref (a 0), ii p1, ii p2] (some (ii res)) (c1 K cn0 a V0) (c1 K cn0 a V0) :=
  CT.mk (cc := cX1_term) (maxL := 4) (ret := (some .int)) (by decide) rfl (Nat.le_of_ble_eq_true rfl) (fun p e s m below meth c X hr hlk => X1_term_go K l cn0 hcn0 a _ X hr hlk V0 p1 p2 res hf)
theorem iw_X0_pop_X0 : ∀ w ∈ u_ws RX0 TX0 2, w ∈ wsX0_pop := by decide +kernel
theorem fl_X0_pop_15 : Cond.fieldLink RX0 15 (TX0 1).1 (TX0 1).2.1 (TX0 1).2.2.1 ∈ wsX0_pop := by decide +kernel
theorem fl_X0_pop_9 : Cond.fieldLink RX0 9 (TX0 0).1 (TX0 0).2.1 (TX0 0).2.2.1 ∈ wsX0_pop := by decide +kernel
def rmX0_pop : Room := { frames := 0, cells := 0, slots := 0, locals := 0 }
def X0_pop (V0 : Ev) : Option (Int × Ev) := brLE V0.2 0 (some (0, V0)) (rdK 30 V0.1 (V0.2 - 1) (fun v1 => some (v1, (V0.1, (V0.2 - 1)))))
set_option maxHeartbeats 4000000 in
set_option maxRecDepth 100000 in
theorem X0_pop_go (K : KE) (l : Launch) (a : Nat → Nat) (WC : va_W) {p : Program} {e : Env} {s : State} {m : MethodId} {args : Array Value} {below : List Frame} {meth : Method} {c : Code} (X : CX p s m args c K.1 vwCl (kT K) (va_A WC s.heap.size) cX0_pop 1 wsX0_pop RX0) (hr : meth.sig.returnType = (some .int)) (hlk : meth.locks = false) (V0 : Ev) (res : Int × Ev) (hf : X0_pop V0 = some res) : GO p l e rmX0_pop s m args below meth c K.1 vwCl (va_A WC s.heap.size) (MQ below (QC K.1 vwCl (some (ii res.1)) WC (c0 K a res.2) s.heap.size) args s 0 0 (va_A WC s.heap.size)) 1 0 0 0 [(0, .ref (a 0))] [] (c0 K a V0) := by
  rw [X0_pop] at hf
  refine g_aload_n X dX0_pop_0 0 rfl rfl ?_
  refine g_get X (v := ii V0.2) 0 1 dX0_pop_1 rfl rfl iw_X0_pop_X0 (by decide) fl_X0_pop_15 rfl ?_
  refine g_if_gt X hf 9 dX0_pop_4 (by decide) (fun hf => ?_) (fun hf => ?_)
  · refine g_iconst X dX0_pop_7 ?_
    cases hf
    exact g_iret X hr hlk dX0_pop_8
  · refine g_aload_n X dX0_pop_9 0 rfl rfl ?_
    refine g_dup X dX0_pop_10 rfl ?_
    refine g_get X (v := ii V0.2) 0 1 dX0_pop_11 rfl rfl iw_X0_pop_X0 (by decide) fl_X0_pop_15 rfl ?_
    refine g_iconst X dX0_pop_14 ?_
    refine g_isub X dX0_pop_15 ?_
    refine g_puti X 0 1 dX0_pop_16 rfl rfl iw_X0_pop_X0 tyX0_ok nmX0 (by decide) fl_X0_pop_15 rfl rfl (Nat.le_of_ble_eq_true rfl) (ws' := c0 K a (V0.1, (V0.2 - 1))) rfl ?_
    refine g_aload_n X dX0_pop_19 0 rfl rfl ?_
    refine g_get X (v := .ref (a 1)) 0 0 dX0_pop_20 rfl rfl iw_X0_pop_X0 (by decide) fl_X0_pop_9 rfl ?_
    refine g_aload_n X dX0_pop_23 0 rfl rfl ?_
    refine g_get X (v := ii (V0.2 - 1)) 0 1 dX0_pop_24 rfl rfl iw_X0_pop_X0 (by decide) fl_X0_pop_15 rfl ?_
    refine g_iald X hf (by decide) 1 0 dX0_pop_27 rfl rfl (fun v1 hf => ?_)
    cases hf
    exact g_iret X hr hlk dX0_pop_28
set_option maxHeartbeats 4000000 in
set_option maxRecDepth 100000 in
theorem X0_pop_ok (K : KE) (l : Launch) (a : Nat → Nat) (V0 : Ev) (res : Int × Ev) (hf : X0_pop V0 = some res) : CT l K.1 vwCl (kT K) yX0_pop wsX0_pop rmX0_pop [.ref (a 0)] (some (ii res.1)) (c0 K a V0) (c0 K a res.2) :=
  CT.mk (cc := cX0_pop) (maxL := 1) (ret := (some .int)) (by decide) rfl (Nat.le_of_ble_eq_true rfl) (fun p e s m below meth c X hr hlk => X0_pop_go K l a _ X hr hlk V0 res hf)
def rmX0_callResult : Room := { frames := 2, cells := 0, slots := 0, locals := 45 }
def X0_callResult_L11 (kx : Int → Ev → Option (Int × Ev)) (cn0 : Nat) (V0 : FT) (x2 : Int) (x3 : Int) : Nat → Int → Int → Ev → Option (Int × Ev)
  | 0, _, _, _ => none
  | n + 1, y4, y5, V1 => brLT y5 x3 ((X1_term cn0 V0 x2 y5).bind (fun v3 => (X0_pop V1).bind (fun w5 => X0_callResult_L11 kx cn0 V0 x2 x3 n (y4 + (v3 * w5.1)) (y5 + 1) w5.2))) (kx y4 V1)
def X0_callResult (cn0 : Nat) (V0 : FT) (V1 : Ev) (p2 : Int) (p3 : Int) : Option (Int × Ev) := (X1_term cn0 V0 p2 (-1)).bind (fun v1 => X0_callResult_L11 (fun w7 w8 => rmK w7 1000 (fun v9 => some (v9, w8))) cn0 V0 p2 p3 FU v1 0 V1)
set_option maxHeartbeats 4000000 in
set_option maxRecDepth 100000 in
theorem X0_callResult_L11_ok (K : KE) (l : Launch) (cn0 : Nat) (hcn0 : cn0 ≤ 1000) (a : Nat → Nat) (b : Nat → Nat) (WC : va_W) {p : Program} {e : Env} {s : State} {m : MethodId} {args : Array Value} {below : List Frame} {meth : Method} {c : Code} (X : CX p s m args c K.1 vwCl (kT K) (va_A WC s.heap.size) cX0_callResult 6 wsX0_callResult RX0) (hr : meth.sig.returnType = (some .int)) (hlk : meth.locks = false) (V0 : FT) (x2 : Int) (x3 : Int) (res : Int × Ev) {kx : Int → Ev → Option (Int × Ev)} : ∀ (n : Nat) (y4 : Int) (y5 : Int) (V1 : Ev), X0_callResult_L11 kx cn0 V0 x2 x3 n y4 y5 V1 = some res → (∀ (z4 : Int) (V1z : Ev), kx z4 V1z = some res → GO p l e rmX0_callResult s m args below meth c K.1 vwCl (va_A WC s.heap.size) (MQ below (QC K.1 vwCl (some (ii res.1)) WC (c1 K cn0 a V0 ++ (c0 K b res.2)) s.heap.size) args s 0 0 (va_A WC s.heap.size)) 6 0 0 40 [(4, ii z4)] [] (c1 K cn0 a V0 ++ (c0 K b V1z))) → GO p l e rmX0_callResult s m args below meth c K.1 vwCl (va_A WC s.heap.size) (MQ below (QC K.1 vwCl (some (ii res.1)) WC (c1 K cn0 a V0 ++ (c0 K b res.2)) s.heap.size) args s 0 0 (va_A WC s.heap.size)) 6 0 0 11 [(0, .ref (b 0)), (1, .ref (a 0)), (2, ii x2), (3, ii x3), (4, ii y4), (5, ii y5)] [] (c1 K cn0 a V0 ++ (c0 K b V1)) := by
  intro n
  induction n with
  | zero =>
    intro y4 y5 V1 hf _
    rw [X0_callResult_L11] at hf
    cases hf
  | succ n ih =>
    intro y4 y5 V1 hf hk
    rw [X0_callResult_L11] at hf
    refine g_iload X dX0_callResult_11 5 rfl ?_
    refine g_iload_n X dX0_callResult_13 3 rfl rfl ?_
    refine g_icmp_ge X hf 40 dX0_callResult_14 (by decide) (fun hf => ?_) (fun hf => ?_)
    · refine g_iload X dX0_callResult_17 4 rfl ?_
      refine g_aload_n X dX0_callResult_19 1 rfl rfl ?_
      refine g_iload_n X dX0_callResult_20 2 rfl rfl ?_
      refine g_iload X dX0_callResult_21 5 rfl ?_
      obtain ⟨v3, hc4, hf⟩ := Option.bind_eq_some_iff.mp hf
      refine g_callV X (As := [ii x2, ii y5]) (st := [ii y4]) (st1 := [ii v3, ii y4]) (ws' := c1 K cn0 a V0 ++ (c0 K b V1)) (X1_term_ok K l cn0 hcn0 a V0 x2 y5 v3 hc4) gX0_callResult_X1_term rfl 2 (by decide +kernel) ⟨rfl, rfl⟩ ⟨Nat.le_of_ble_eq_true rfl, Nat.le_of_ble_eq_true rfl⟩ ⟨Nat.zero_le _, Nat.zero_le _⟩ 0 rfl rfl rfl rfl (Nat.le_of_ble_eq_true rfl) dX0_callResult_23 (SG.one [] (c0 K b V1) rfl rfl rfl) rfl ?_
      refine g_aload_n X dX0_callResult_26 0 rfl rfl ?_
      obtain ⟨w5, hc6, hf⟩ := Option.bind_eq_some_iff.mp hf
      refine g_callV X (As := []) (st := [ii v3, ii y4]) (st1 := [ii w5.1, ii v3, ii y4]) (ws' := c1 K cn0 a V0 ++ (c0 K b w5.2)) (X0_pop_ok K l b V1 w5 hc6) gX0_callResult_X0_pop rfl 0 (by decide +kernel) ⟨rfl, rfl⟩ ⟨Nat.le_of_ble_eq_true rfl, Nat.le_of_ble_eq_true rfl⟩ ⟨Nat.zero_le _, Nat.zero_le _⟩ 4 rfl rfl rfl rfl (Nat.le_of_ble_eq_true rfl) dX0_callResult_27 (SG.one (c1 K cn0 a V0) [] rfl rfl rfl) rfl ?_
      refine g_imul X dX0_callResult_30 ?_
      refine g_iadd X dX0_callResult_31 ?_
      refine g_istore X (lv' := [(4, ii (y4 + (v3 * w5.1))), (0, .ref (b 0)), (1, .ref (a 0)), (2, ii x2), (3, ii x3), (5, ii y5)]) dX0_callResult_32 (by decide) rfl ?_
      refine g_iinc X (lv' := [(5, ii (y5 + 1)), (4, ii (y4 + (v3 * w5.1))), (0, .ref (b 0)), (1, .ref (a 0)), (2, ii x2), (3, ii x3)]) dX0_callResult_34 5 rfl (by decide) rfl ?_
      refine g_goto X 11 dX0_callResult_37 (by decide) ?_
      refine g_sub (lv' := [(0, .ref (b 0)), (1, .ref (a 0)), (2, ii x2), (3, ii x3), (4, ii (y4 + (v3 * w5.1))), (5, ii (y5 + 1))]) [2, 3, 4, 5, 1, 0] rfl ?_
      exact ih (y4 + (v3 * w5.1)) (y5 + 1) w5.2 hf hk
    · refine g_sub (lv' := [(4, ii y4)]) [4] rfl ?_
      exact hk y4 V1 hf
set_option maxHeartbeats 4000000 in
set_option maxRecDepth 100000 in
theorem X0_callResult_go (K : KE) (l : Launch) (cn0 : Nat) (hcn0 : cn0 ≤ 1000) (a : Nat → Nat) (b : Nat → Nat) (WC : va_W) {p : Program} {e : Env} {s : State} {m : MethodId} {args : Array Value} {below : List Frame} {meth : Method} {c : Code} (X : CX p s m args c K.1 vwCl (kT K) (va_A WC s.heap.size) cX0_callResult 6 wsX0_callResult RX0) (hr : meth.sig.returnType = (some .int)) (hlk : meth.locks = false) (V0 : FT) (V1 : Ev) (p2 : Int) (p3 : Int) (res : Int × Ev) (hf : X0_callResult cn0 V0 V1 p2 p3 = some res) : GO p l e rmX0_callResult s m args below meth c K.1 vwCl (va_A WC s.heap.size) (MQ below (QC K.1 vwCl (some (ii res.1)) WC (c1 K cn0 a V0 ++ (c0 K b res.2)) s.heap.size) args s 0 0 (va_A WC s.heap.size)) 6 0 0 0 [(0, .ref (b 0)), (1, .ref (a 0)), (2, ii p2), (3, ii p3)] [] (c1 K cn0 a V0 ++ (c0 K b V1)) := by
  rw [X0_callResult] at hf
  refine g_aload_n X dX0_callResult_0 1 rfl rfl ?_
  refine g_iload_n X dX0_callResult_1 2 rfl rfl ?_
  refine g_iconst X dX0_callResult_2 ?_
  obtain ⟨v1, hc2, hf⟩ := Option.bind_eq_some_iff.mp hf
  refine g_callV X (As := [ii p2, ii (-1)]) (st := []) (st1 := [ii v1]) (ws' := c1 K cn0 a V0 ++ (c0 K b V1)) (X1_term_ok K l cn0 hcn0 a V0 p2 (-1) v1 hc2) gX0_callResult_X1_term rfl 2 (by decide +kernel) ⟨rfl, rfl⟩ ⟨Nat.le_of_ble_eq_true rfl, Nat.le_of_ble_eq_true rfl⟩ ⟨Nat.zero_le _, Nat.zero_le _⟩ 0 rfl rfl rfl rfl (Nat.le_of_ble_eq_true rfl) dX0_callResult_3 (SG.one [] (c0 K b V1) rfl rfl rfl) rfl ?_
  refine g_istore X (lv' := [(4, ii v1), (0, .ref (b 0)), (1, .ref (a 0)), (2, ii p2), (3, ii p3)]) dX0_callResult_6 (by decide) rfl ?_
  refine g_iconst X dX0_callResult_8 ?_
  refine g_istore X (lv' := [(5, ii 0), (4, ii v1), (0, .ref (b 0)), (1, .ref (a 0)), (2, ii p2), (3, ii p3)]) dX0_callResult_9 (by decide) rfl ?_
  refine g_sub (lv' := [(0, .ref (b 0)), (1, .ref (a 0)), (2, ii p2), (3, ii p3), (4, ii v1), (5, ii 0)]) [2, 3, 4, 5, 1, 0] rfl ?_
  refine X0_callResult_L11_ok K l cn0 hcn0 a b WC X hr hlk V0 p2 p3 res FU v1 0 V1 hf (fun w7 w8 hf => ?_)
  refine g_iload X dX0_callResult_40 0 rfl ?_
  refine g_sipush X dX0_callResult_42 (by decide +kernel) ?_
  refine g_irem X hf (by decide) dX0_callResult_45 (fun v9 hf => ?_)
  cases hf
  exact g_iret X hr hlk dX0_callResult_46
set_option maxHeartbeats 4000000 in
set_option maxRecDepth 100000 in
theorem X0_callResult_ok (K : KE) (l : Launch) (cn0 : Nat) (hcn0 : cn0 ≤ 1000) (a : Nat → Nat) (b : Nat → Nat) (V0 : FT) (V1 : Ev) (p2 : Int) (p3 : Int) (res : Int × Ev) (hf : X0_callResult cn0 V0 V1 p2 p3 = some res) : CT l K.1 vwCl (kT K) yX0_callResult wsX0_callResult rmX0_callResult [.ref (b 0), .ref (a 0), ii p2, ii p3] (some (ii res.1)) (c1 K cn0 a V0 ++ (c0 K b V1)) (c1 K cn0 a V0 ++ (c0 K b res.2)) :=
  CT.mk (cc := cX0_callResult) (maxL := 6) (ret := (some .int)) (by decide) rfl (Nat.le_of_ble_eq_true rfl) (fun p e s m below meth c X hr hlk => X0_callResult_go K l cn0 hcn0 a b _ X hr hlk V0 V1 p2 p3 res hf)
theorem iw_X0_push_X0 : ∀ w ∈ u_ws RX0 TX0 2, w ∈ wsX0_push := by decide +kernel
theorem fl_X0_push_15 : Cond.fieldLink RX0 15 (TX0 1).1 (TX0 1).2.1 (TX0 1).2.2.1 ∈ wsX0_push := by decide +kernel
theorem fl_X0_push_9 : Cond.fieldLink RX0 9 (TX0 0).1 (TX0 0).2.1 (TX0 0).2.2.1 ∈ wsX0_push := by decide +kernel
def rmX0_push : Room := { frames := 0, cells := 0, slots := 0, locals := 0 }
def X0_push (V0 : Ev) (p1 : Int) : Option (Ev) := brLT V0.2 30 (wrK 30 V0.1 V0.2 p1 (fun f1 => some (f1, (V0.2 + 1)))) (some V0)
set_option maxHeartbeats 4000000 in
set_option maxRecDepth 100000 in
theorem X0_push_go (K : KE) (l : Launch) (a : Nat → Nat) (WC : va_W) {p : Program} {e : Env} {s : State} {m : MethodId} {args : Array Value} {below : List Frame} {meth : Method} {c : Code} (X : CX p s m args c K.1 vwCl (kT K) (va_A WC s.heap.size) cX0_push 2 wsX0_push RX0) (hr : meth.sig.returnType = none) (hlk : meth.locks = false) (V0 : Ev) (p1 : Int) (res : Ev) (hf : X0_push V0 p1 = some res) : GO p l e rmX0_push s m args below meth c K.1 vwCl (va_A WC s.heap.size) (MQ below (QC K.1 vwCl none WC (c0 K a res) s.heap.size) args s 0 0 (va_A WC s.heap.size)) 2 0 0 0 [(0, .ref (a 0)), (1, ii p1)] [] (c0 K a V0) := by
  rw [X0_push] at hf
  refine g_aload_n X dX0_push_0 0 rfl rfl ?_
  refine g_get X (v := ii V0.2) 0 1 dX0_push_1 rfl rfl iw_X0_push_X0 (by decide) fl_X0_push_15 rfl ?_
  refine g_bipush X dX0_push_4 (by decide +kernel) ?_
  refine g_icmp_ge X hf 29 dX0_push_6 (by decide) (fun hf => ?_) (fun hf => ?_)
  · refine g_aload_n X dX0_push_9 0 rfl rfl ?_
    refine g_get X (v := .ref (a 1)) 0 0 dX0_push_10 rfl rfl iw_X0_push_X0 (by decide) fl_X0_push_9 rfl ?_
    refine g_aload_n X dX0_push_13 0 rfl rfl ?_
    refine g_get X (v := ii V0.2) 0 1 dX0_push_14 rfl rfl iw_X0_push_X0 (by decide) fl_X0_push_15 rfl ?_
    refine g_iload_n X dX0_push_17 1 rfl rfl ?_
    refine g_iast X hf (by decide) 1 0 dX0_push_18 rfl rfl (fun f1 => c0 K a (f1, V0.2)) (fun _ => rfl) (fun f1 hf => ?_)
    refine g_aload_n X dX0_push_19 0 rfl rfl ?_
    refine g_dup X dX0_push_20 rfl ?_
    refine g_get X (v := ii V0.2) 0 1 dX0_push_21 rfl rfl iw_X0_push_X0 (by decide) fl_X0_push_15 rfl ?_
    refine g_iconst X dX0_push_24 ?_
    refine g_iadd X dX0_push_25 ?_
    refine g_puti X 0 1 dX0_push_26 rfl rfl iw_X0_push_X0 tyX0_ok nmX0 (by decide) fl_X0_push_15 rfl rfl (Nat.le_of_ble_eq_true rfl) (ws' := c0 K a (f1, (V0.2 + 1))) rfl ?_
    cases hf
    exact g_vret X hr hlk dX0_push_29
  · cases hf
    exact g_vret X hr hlk dX0_push_29
set_option maxHeartbeats 4000000 in
set_option maxRecDepth 100000 in
theorem X0_push_ok (K : KE) (l : Launch) (a : Nat → Nat) (V0 : Ev) (p1 : Int) (res : Ev) (hf : X0_push V0 p1 = some res) : CT l K.1 vwCl (kT K) yX0_push wsX0_push rmX0_push [.ref (a 0), ii p1] none (c0 K a V0) (c0 K a res) :=
  CT.mk (cc := cX0_push) (maxL := 2) (ret := none) (by decide) rfl (Nat.le_of_ble_eq_true rfl) (fun p e s m below meth c X hr hlk => X0_push_go K l a _ X hr hlk V0 p1 res hf)
theorem iw_X0_evaluate_X8 : ∀ w ∈ u_ws RX8 TX8 9, w ∈ wsX0_evaluate := by decide +kernel
theorem fl_X0_evaluate_19 : Cond.fieldLink RX0 19 (TX8 7).1 (TX8 7).2.1 (TX8 7).2.2.1 ∈ wsX0_evaluate := by decide +kernel
theorem iw_X0_evaluate_X0 : ∀ w ∈ u_ws RX0 TX0 2, w ∈ wsX0_evaluate := by decide +kernel
theorem fl_X0_evaluate_15 : Cond.fieldLink RX0 15 (TX0 1).1 (TX0 1).2.1 (TX0 1).2.2.1 ∈ wsX0_evaluate := by decide +kernel
theorem iw_X0_evaluate_X6 : ∀ w ∈ u_ws RX6 TX6 4, w ∈ wsX0_evaluate := by decide +kernel
theorem fl_X0_evaluate_25 : Cond.fieldLink RX0 25 (TX6 0).1 (TX6 0).2.1 (TX6 0).2.2.1 ∈ wsX0_evaluate := by decide +kernel
theorem fl_X0_evaluate_30 : Cond.fieldLink RX0 30 (TX6 1).1 (TX6 1).2.1 (TX6 1).2.2.1 ∈ wsX0_evaluate := by decide +kernel
theorem ne_X0_evaluate_33 : (RX0, 33, yX9_isCall) ∈ nestL := by decide +kernel
theorem wd_X0_evaluate_ini9 : Cond.initialized yX9_isCall.cls ∈ wsX0_evaluate := by decide +kernel
theorem wd_X0_evaluate_sta_X9_isCall : Cond.static yX9_isCall ∈ wsX0_evaluate := by decide +kernel
theorem fl_X0_evaluate_41 : Cond.fieldLink RX0 41 (TX6 2).1 (TX6 2).2.1 (TX6 2).2.2.1 ∈ wsX0_evaluate := by decide +kernel
theorem fl_X0_evaluate_44 : Cond.fieldLink RX0 44 (TX6 3).1 (TX6 3).2.1 (TX6 3).2.2.1 ∈ wsX0_evaluate := by decide +kernel
def rmX0_evaluate : Room := { frames := 3, cells := 0, slots := 0, locals := 70 }
def X0_evaluate_L20 (kx : Ev → Option (Int × Ev)) (V0 : St) (x2 : Int) (x3 : Int) : Nat → Int → Ev → Option (Int × Ev)
  | 0, _, _ => none
  | n + 1, y5, V1 => brLT y5 0 (kx V1) (rdK 30 V0.2.2.2.2.2.2.2.1.2.1 y5 (fun v1 => (X9_isCall v1).bind (fun v2 => ltK (fun q4 : Ev => X0_evaluate_L20 kx V0 x2 x3 n (y5 + (-1)) q4) (fun j5 => brEQ v2 0 (rdK 30 V0.2.2.2.2.2.2.2.1.2.1 y5 (fun v6 => brEQ v6 1 (rdK 30 V0.2.2.2.2.2.2.2.1.2.2.1 y5 (fun v7 => ltK (fun q8 : Int => (X0_push V1 q8).bind (fun v10 => j5 v10)) (fun j9 => brEQ v7 0 (j9 x2) (j9 x3)))) (rdK 30 V0.2.2.2.2.2.2.2.1.2.2.1 y5 (fun v12 => (X0_push V1 v12).bind (fun v13 => j5 v13))))) (rdK 30 V0.2.2.2.2.2.2.2.1.2.1 y5 (fun v15 => (X8_tableOf V0 v15).bind (fun v16 => sel3 v16 (rdK 30 V0.2.2.2.2.2.2.2.1.2.2.1 y5 (fun v18 => rdK 30 V0.2.2.2.2.2.2.2.1.2.2.2 y5 (fun v19 => (X0_callResult 6 V0.1 V1 v18 v19).bind (fun w20 => (X0_push w20.2 w20.1).bind (fun v22 => j5 v22))))) (rdK 30 V0.2.2.2.2.2.2.2.1.2.2.1 y5 (fun v24 => rdK 30 V0.2.2.2.2.2.2.2.1.2.2.2 y5 (fun v25 => (X0_callResult 6 V0.2.1 V1 v24 v25).bind (fun w26 => (X0_push w26.2 w26.1).bind (fun v28 => j5 v28))))) (rdK 30 V0.2.2.2.2.2.2.2.1.2.2.1 y5 (fun v30 => rdK 30 V0.2.2.2.2.2.2.2.1.2.2.2 y5 (fun v31 => (X0_callResult 4 V0.2.2.1 V1 v30 v31).bind (fun w32 => (X0_push w32.2 w32.1).bind (fun v34 => j5 v34))))))))))))
def X0_evaluate (V0 : St) (V1 : Ev) (p2 : Int) (p3 : Int) : Option (Int × Ev) := X0_evaluate_L20 (fun w36 => (X0_pop w36).bind (fun w37 => some (w37.1, w37.2))) V0 p2 p3 FU (V0.2.2.2.2.2.2.2.1.1 - 1) (V1.1, 0)
set_option maxHeartbeats 4000000 in
set_option maxRecDepth 100000 in
theorem X0_evaluate_L20_ok (K : KE) (l : Launch) (a : Nat → Nat) (b : Nat → Nat) (WC : va_W) {p : Program} {e : Env} {s : State} {m : MethodId} {args : Array Value} {below : List Frame} {meth : Method} {c : Code} (X : CX p s m args c K.1 vwCl (kT K) (va_A WC s.heap.size) cX0_evaluate 7 wsX0_evaluate RX0) (hr : meth.sig.returnType = (some .int)) (hlk : meth.locks = false) (V0 : St) (x2 : Int) (x3 : Int) (res : Int × Ev) {kx : Ev → Option (Int × Ev)} : ∀ (n : Nat) (y5 : Int) (V1 : Ev), X0_evaluate_L20 kx V0 x2 x3 n y5 V1 = some res → (∀ (V1z : Ev), kx V1z = some res → GO p l e rmX0_evaluate s m args below meth c K.1 vwCl (va_A WC s.heap.size) (MQ below (QC K.1 vwCl (some (ii res.1)) WC (c8 K a V0 ++ (c0 K b res.2)) s.heap.size) args s 0 0 (va_A WC s.heap.size)) 7 0 0 135 [(0, .ref (b 0))] [] (c8 K a V0 ++ (c0 K b V1z))) → GO p l e rmX0_evaluate s m args below meth c K.1 vwCl (va_A WC s.heap.size) (MQ below (QC K.1 vwCl (some (ii res.1)) WC (c8 K a V0 ++ (c0 K b res.2)) s.heap.size) args s 0 0 (va_A WC s.heap.size)) 7 0 0 20 [(0, .ref (b 0)), (1, .ref (a 0)), (2, ii x2), (3, ii x3), (4, .ref (ash a 18 0)), (5, ii y5)] [] (c8 K a V0 ++ (c0 K b V1)) := by
  intro n
  induction n with
  | zero =>
    intro y5 V1 hf _
    rw [X0_evaluate_L20] at hf
    cases hf
  | succ n ih =>
    intro y5 V1 hf hk
    rw [X0_evaluate_L20] at hf
    refine g_iload X dX0_evaluate_20 5 rfl ?_
    refine g_if_lt X hf 135 dX0_evaluate_22 (by decide) (fun hf => ?_) (fun hf => ?_)
    · refine g_sub (lv' := [(0, .ref (b 0))]) [0] rfl ?_
      exact hk V1 hf
    · refine g_aload X dX0_evaluate_25 4 rfl ?_
      refine g_get X (v := .ref (ash a 18 1)) 18 1 dX0_evaluate_27 rfl rfl iw_X0_evaluate_X6 (by decide) fl_X0_evaluate_30 rfl ?_
      refine g_iload X dX0_evaluate_30 5 rfl ?_
      refine g_iald X hf (by decide) 19 0 dX0_evaluate_32 rfl rfl (fun v1 hf => ?_)
      obtain ⟨v2, hc3, hf⟩ := Option.bind_eq_some_iff.mp hf
      refine g_callSN X (As := [ii v1]) (st := []) (st1 := [ii v2]) (ws' := c8 K a V0 ++ (c0 K b V1)) (X9_isCall_ok K l v1 v2 hc3) ggX0_evaluate_X9_isCall ne_X0_evaluate_33 wd_X0_evaluate_ini9 wd_X0_evaluate_sta_X9_isCall rfl 1 (by decide +kernel) ⟨rfl, rfl⟩ ⟨Nat.le_of_ble_eq_true rfl, Nat.le_of_ble_eq_true rfl⟩ ⟨Nat.zero_le _, Nat.zero_le _⟩ rfl rfl (Nat.le_of_ble_eq_true rfl) dX0_evaluate_33 SG.none rfl ?_
      refine g_let (G := fun q4 : Ev => GO p l e rmX0_evaluate s m args below meth c K.1 vwCl (va_A WC s.heap.size) (MQ below (QC K.1 vwCl (some (ii res.1)) WC (c8 K a V0 ++ (c0 K b res.2)) s.heap.size) args s 0 0 (va_A WC s.heap.size)) 7 0 0 129 [(0, .ref (b 0)), (1, .ref (a 0)), (2, ii x2), (3, ii x3), (4, .ref (ash a 18 0)), (5, ii y5)] [] (c8 K a V0 ++ (c0 K b q4))) hf (fun q4 hf => ?_) (fun j5 hj5 hf => ?_)
      · refine g_iinc X (lv' := [(5, ii (y5 + (-1))), (0, .ref (b 0)), (1, .ref (a 0)), (2, ii x2), (3, ii x3), (4, .ref (ash a 18 0))]) dX0_evaluate_129 5 rfl (by decide) rfl ?_
        refine g_goto X 20 dX0_evaluate_132 (by decide) ?_
        refine g_sub (lv' := [(0, .ref (b 0)), (1, .ref (a 0)), (2, ii x2), (3, ii x3), (4, .ref (ash a 18 0)), (5, ii (y5 + (-1)))]) [1, 2, 3, 4, 5, 0] rfl ?_
        exact ih (y5 + (-1)) q4 hf hk
      · refine g_if_eq X hf 82 dX0_evaluate_36 (by decide) (fun hf => ?_) (fun hf => ?_)
        · refine g_aload X dX0_evaluate_82 4 rfl ?_
          refine g_get X (v := .ref (ash a 18 1)) 18 1 dX0_evaluate_84 rfl rfl iw_X0_evaluate_X6 (by decide) fl_X0_evaluate_30 rfl ?_
          refine g_iload X dX0_evaluate_87 5 rfl ?_
          refine g_iald X hf (by decide) 19 0 dX0_evaluate_89 rfl rfl (fun v6 hf => ?_)
          refine g_iconst X dX0_evaluate_90 ?_
          refine g_icmp_ne X hf 117 dX0_evaluate_91 (by decide) (fun hf => ?_) (fun hf => ?_)
          · refine g_aload_n X dX0_evaluate_94 0 rfl rfl ?_
            refine g_aload X dX0_evaluate_95 4 rfl ?_
            refine g_get X (v := .ref (ash a 18 2)) 18 2 dX0_evaluate_97 rfl rfl iw_X0_evaluate_X6 (by decide) fl_X0_evaluate_41 rfl ?_
            refine g_iload X dX0_evaluate_100 5 rfl ?_
            refine g_iald X hf (by decide) 20 0 dX0_evaluate_102 rfl rfl (fun v7 hf => ?_)
            refine g_let (G := fun q8 : Int => GO p l e rmX0_evaluate s m args below meth c K.1 vwCl (va_A WC s.heap.size) (MQ below (QC K.1 vwCl (some (ii res.1)) WC (c8 K a V0 ++ (c0 K b res.2)) s.heap.size) args s 0 0 (va_A WC s.heap.size)) 7 0 0 111 [(0, .ref (b 0)), (1, .ref (a 0)), (2, ii x2), (3, ii x3), (4, .ref (ash a 18 0)), (5, ii y5)] [ii q8, .ref (b 0)] (c8 K a V0 ++ (c0 K b V1))) hf (fun q8 hf => ?_) (fun j9 hj9 hf => ?_)
            · obtain ⟨v10, hc11, hf⟩ := Option.bind_eq_some_iff.mp hf
              refine g_callV X (As := [ii q8]) (st := []) (st1 := []) (ws' := c8 K a V0 ++ (c0 K b v10)) (X0_push_ok K l b V1 q8 v10 hc11) gX0_evaluate_X0_push rfl 1 (by decide +kernel) ⟨rfl, rfl⟩ ⟨Nat.le_of_ble_eq_true rfl, Nat.le_of_ble_eq_true rfl⟩ ⟨Nat.zero_le _, Nat.zero_le _⟩ 23 rfl rfl rfl rfl (Nat.le_of_ble_eq_true rfl) dX0_evaluate_111 (SG.one (c8 K a V0) [] rfl rfl rfl) rfl ?_
              refine g_goto X 129 dX0_evaluate_114 (by decide) ?_
              exact hj5 v10 hf
            · refine g_if_ne X hf 110 dX0_evaluate_103 (by decide) (fun hf => ?_) (fun hf => ?_)
              · refine g_iload_n X dX0_evaluate_106 2 rfl rfl ?_
                refine g_goto X 111 dX0_evaluate_107 (by decide) ?_
                exact hj9 x2 hf
              · refine g_iload_n X dX0_evaluate_110 3 rfl rfl ?_
                exact hj9 x3 hf
          · refine g_aload_n X dX0_evaluate_117 0 rfl rfl ?_
            refine g_aload X dX0_evaluate_118 4 rfl ?_
            refine g_get X (v := .ref (ash a 18 2)) 18 2 dX0_evaluate_120 rfl rfl iw_X0_evaluate_X6 (by decide) fl_X0_evaluate_41 rfl ?_
            refine g_iload X dX0_evaluate_123 5 rfl ?_
            refine g_iald X hf (by decide) 20 0 dX0_evaluate_125 rfl rfl (fun v12 hf => ?_)
            obtain ⟨v13, hc14, hf⟩ := Option.bind_eq_some_iff.mp hf
            refine g_callV X (As := [ii v12]) (st := []) (st1 := []) (ws' := c8 K a V0 ++ (c0 K b v13)) (X0_push_ok K l b V1 v12 v13 hc14) gX0_evaluate_X0_push rfl 1 (by decide +kernel) ⟨rfl, rfl⟩ ⟨Nat.le_of_ble_eq_true rfl, Nat.le_of_ble_eq_true rfl⟩ ⟨Nat.zero_le _, Nat.zero_le _⟩ 23 rfl rfl rfl rfl (Nat.le_of_ble_eq_true rfl) dX0_evaluate_126 (SG.one (c8 K a V0) [] rfl rfl rfl) rfl ?_
            exact hj5 v13 hf
        · refine g_aload_n X dX0_evaluate_39 1 rfl rfl ?_
          refine g_aload X dX0_evaluate_40 4 rfl ?_
          refine g_get X (v := .ref (ash a 18 1)) 18 1 dX0_evaluate_42 rfl rfl iw_X0_evaluate_X6 (by decide) fl_X0_evaluate_30 rfl ?_
          refine g_iload X dX0_evaluate_45 5 rfl ?_
          refine g_iald X hf (by decide) 19 0 dX0_evaluate_47 rfl rfl (fun v15 hf => ?_)
          obtain ⟨v16, hc17, hf⟩ := Option.bind_eq_some_iff.mp hf
          refine g_callV X (As := [ii v15]) (st := []) (st1 := [.ref (tbA a v16)]) (ws' := c8 K a V0 ++ (c0 K b V1)) (X8_tableOf_ok K l a V0 v15 v16 hc17) gX0_evaluate_X8_tableOf rfl 1 (by decide +kernel) ⟨rfl, rfl⟩ ⟨Nat.le_of_ble_eq_true rfl, Nat.le_of_ble_eq_true rfl⟩ ⟨Nat.zero_le _, Nat.zero_le _⟩ 0 rfl rfl rfl rfl (Nat.le_of_ble_eq_true rfl) dX0_evaluate_48 (SG.one [] (c0 K b V1) rfl rfl rfl) rfl ?_
          replace hf := sel3_some hf
          rcases hf with ⟨hv, hf⟩ | ⟨hv, hf⟩ | ⟨hv, hf⟩
          · subst hv
            refine g_stk (st' := [.ref (ash a 1 0)]) rfl ?_
            refine g_astore X (lv' := [(6, .ref (ash a 1 0)), (0, .ref (b 0)), (1, .ref (a 0)), (2, ii x2), (3, ii x3), (4, .ref (ash a 18 0)), (5, ii y5)]) dX0_evaluate_51 (by decide) rfl ?_
            refine g_aload_n X dX0_evaluate_53 1 rfl rfl ?_
            refine g_aload_n X dX0_evaluate_54 1 rfl rfl ?_
            refine g_aload X dX0_evaluate_55 0 rfl ?_
            refine g_aload X dX0_evaluate_57 5 rfl ?_
            refine g_get X (v := .ref (ash a 18 2)) 18 2 dX0_evaluate_59 rfl rfl iw_X0_evaluate_X6 (by decide) fl_X0_evaluate_41 rfl ?_
            refine g_iload X dX0_evaluate_62 6 rfl ?_
            refine g_iald X hf (by decide) 20 0 dX0_evaluate_64 rfl rfl (fun v18 hf => ?_)
            refine g_aload X dX0_evaluate_65 5 rfl ?_
            refine g_get X (v := .ref (ash a 18 3)) 18 3 dX0_evaluate_67 rfl rfl iw_X0_evaluate_X6 (by decide) fl_X0_evaluate_44 rfl ?_
            refine g_iload X dX0_evaluate_70 6 rfl ?_
            refine g_iald X hf (by decide) 21 0 dX0_evaluate_72 rfl rfl (fun v19 hf => ?_)
            obtain ⟨w20, hc21, hf⟩ := Option.bind_eq_some_iff.mp hf
            refine g_callV X (As := [.ref (ash a 1 0), ii v18, ii v19]) (st := [.ref (b 0)]) (st1 := [ii w20.1, .ref (b 0)]) (ws' := c8 K a V0 ++ (c0 K b w20.2)) (X0_callResult_ok K l 6 (by decide) (ash a 1) b V0.1 V1 v18 v19 w20 hc21) gX0_evaluate_X0_callResult rfl 3 (by decide +kernel) ⟨rfl, rfl⟩ ⟨Nat.le_of_ble_eq_true rfl, Nat.le_of_ble_eq_true rfl⟩ ⟨Nat.zero_le _, Nat.zero_le _⟩ 23 rfl rfl rfl rfl (Nat.le_of_ble_eq_true rfl) dX0_evaluate_73 (SG.two ([(a 0, .inr (8, [.ref (ash a 1 0), .ref (ash a 5 0), .ref (ash a 9 0), ii V0.2.2.2.1, .ref (a 13), ii V0.2.2.2.2.2.1, .ref (ash a 14 0), .ref (ash a 18 0), .ref (a 22)]))]) (c1 K 6 (ash a 5) V0.2.1 ++ (c1 K 4 (ash a 9) V0.2.2.1 ++ ([(a 13, .inl (K.2.1, 6, .inl (arI V0.2.2.2.2.1)))] ++ (c4 K (ash a 14) V0.2.2.2.2.2.2.1 ++ (c6 K (ash a 18) V0.2.2.2.2.2.2.2.1 ++ ([(a 22, .inl (K.2.1, 8, .inl (arI V0.2.2.2.2.2.2.2.2)))])))))) [] rfl rfl rfl) rfl ?_
            obtain ⟨v22, hc23, hf⟩ := Option.bind_eq_some_iff.mp hf
            refine g_callV X (As := [ii w20.1]) (st := []) (st1 := []) (ws' := c8 K a V0 ++ (c0 K b v22)) (X0_push_ok K l b w20.2 w20.1 v22 hc23) gX0_evaluate_X0_push rfl 1 (by decide +kernel) ⟨rfl, rfl⟩ ⟨Nat.le_of_ble_eq_true rfl, Nat.le_of_ble_eq_true rfl⟩ ⟨Nat.zero_le _, Nat.zero_le _⟩ 23 rfl rfl rfl rfl (Nat.le_of_ble_eq_true rfl) dX0_evaluate_76 (SG.one (c8 K a V0) [] rfl rfl rfl) rfl ?_
            refine g_goto X 129 dX0_evaluate_79 (by decide) ?_
            refine g_sub (lv' := [(0, .ref (b 0)), (1, .ref (a 0)), (2, ii x2), (3, ii x3), (4, .ref (ash a 18 0)), (5, ii y5)]) [1, 2, 3, 4, 5, 6] rfl ?_
            exact hj5 v22 hf
          · subst hv
            refine g_stk (st' := [.ref (ash a 5 0)]) rfl ?_
            refine g_astore X (lv' := [(6, .ref (ash a 5 0)), (0, .ref (b 0)), (1, .ref (a 0)), (2, ii x2), (3, ii x3), (4, .ref (ash a 18 0)), (5, ii y5)]) dX0_evaluate_51 (by decide) rfl ?_
            refine g_aload_n X dX0_evaluate_53 1 rfl rfl ?_
            refine g_aload_n X dX0_evaluate_54 1 rfl rfl ?_
            refine g_aload X dX0_evaluate_55 0 rfl ?_
            refine g_aload X dX0_evaluate_57 5 rfl ?_
            refine g_get X (v := .ref (ash a 18 2)) 18 2 dX0_evaluate_59 rfl rfl iw_X0_evaluate_X6 (by decide) fl_X0_evaluate_41 rfl ?_
            refine g_iload X dX0_evaluate_62 6 rfl ?_
            refine g_iald X hf (by decide) 20 0 dX0_evaluate_64 rfl rfl (fun v24 hf => ?_)
            refine g_aload X dX0_evaluate_65 5 rfl ?_
            refine g_get X (v := .ref (ash a 18 3)) 18 3 dX0_evaluate_67 rfl rfl iw_X0_evaluate_X6 (by decide) fl_X0_evaluate_44 rfl ?_
            refine g_iload X dX0_evaluate_70 6 rfl ?_
            refine g_iald X hf (by decide) 21 0 dX0_evaluate_72 rfl rfl (fun v25 hf => ?_)
            obtain ⟨w26, hc27, hf⟩ := Option.bind_eq_some_iff.mp hf
            refine g_callV X (As := [.ref (ash a 5 0), ii v24, ii v25]) (st := [.ref (b 0)]) (st1 := [ii w26.1, .ref (b 0)]) (ws' := c8 K a V0 ++ (c0 K b w26.2)) (X0_callResult_ok K l 6 (by decide) (ash a 5) b V0.2.1 V1 v24 v25 w26 hc27) gX0_evaluate_X0_callResult rfl 3 (by decide +kernel) ⟨rfl, rfl⟩ ⟨Nat.le_of_ble_eq_true rfl, Nat.le_of_ble_eq_true rfl⟩ ⟨Nat.zero_le _, Nat.zero_le _⟩ 23 rfl rfl rfl rfl (Nat.le_of_ble_eq_true rfl) dX0_evaluate_73 (SG.two ([(a 0, .inr (8, [.ref (ash a 1 0), .ref (ash a 5 0), .ref (ash a 9 0), ii V0.2.2.2.1, .ref (a 13), ii V0.2.2.2.2.2.1, .ref (ash a 14 0), .ref (ash a 18 0), .ref (a 22)]))] ++ (c1 K 6 (ash a 1) V0.1)) (c1 K 4 (ash a 9) V0.2.2.1 ++ ([(a 13, .inl (K.2.1, 6, .inl (arI V0.2.2.2.2.1)))] ++ (c4 K (ash a 14) V0.2.2.2.2.2.2.1 ++ (c6 K (ash a 18) V0.2.2.2.2.2.2.2.1 ++ ([(a 22, .inl (K.2.1, 8, .inl (arI V0.2.2.2.2.2.2.2.2)))]))))) [] rfl rfl rfl) rfl ?_
            obtain ⟨v28, hc29, hf⟩ := Option.bind_eq_some_iff.mp hf
            refine g_callV X (As := [ii w26.1]) (st := []) (st1 := []) (ws' := c8 K a V0 ++ (c0 K b v28)) (X0_push_ok K l b w26.2 w26.1 v28 hc29) gX0_evaluate_X0_push rfl 1 (by decide +kernel) ⟨rfl, rfl⟩ ⟨Nat.le_of_ble_eq_true rfl, Nat.le_of_ble_eq_true rfl⟩ ⟨Nat.zero_le _, Nat.zero_le _⟩ 23 rfl rfl rfl rfl (Nat.le_of_ble_eq_true rfl) dX0_evaluate_76 (SG.one (c8 K a V0) [] rfl rfl rfl) rfl ?_
            refine g_goto X 129 dX0_evaluate_79 (by decide) ?_
            refine g_sub (lv' := [(0, .ref (b 0)), (1, .ref (a 0)), (2, ii x2), (3, ii x3), (4, .ref (ash a 18 0)), (5, ii y5)]) [1, 2, 3, 4, 5, 6] rfl ?_
            exact hj5 v28 hf
          · subst hv
            refine g_stk (st' := [.ref (ash a 9 0)]) rfl ?_
            refine g_astore X (lv' := [(6, .ref (ash a 9 0)), (0, .ref (b 0)), (1, .ref (a 0)), (2, ii x2), (3, ii x3), (4, .ref (ash a 18 0)), (5, ii y5)]) dX0_evaluate_51 (by decide) rfl ?_
            refine g_aload_n X dX0_evaluate_53 1 rfl rfl ?_
            refine g_aload_n X dX0_evaluate_54 1 rfl rfl ?_
            refine g_aload X dX0_evaluate_55 0 rfl ?_
            refine g_aload X dX0_evaluate_57 5 rfl ?_
            refine g_get X (v := .ref (ash a 18 2)) 18 2 dX0_evaluate_59 rfl rfl iw_X0_evaluate_X6 (by decide) fl_X0_evaluate_41 rfl ?_
            refine g_iload X dX0_evaluate_62 6 rfl ?_
            refine g_iald X hf (by decide) 20 0 dX0_evaluate_64 rfl rfl (fun v30 hf => ?_)
            refine g_aload X dX0_evaluate_65 5 rfl ?_
            refine g_get X (v := .ref (ash a 18 3)) 18 3 dX0_evaluate_67 rfl rfl iw_X0_evaluate_X6 (by decide) fl_X0_evaluate_44 rfl ?_
            refine g_iload X dX0_evaluate_70 6 rfl ?_
            refine g_iald X hf (by decide) 21 0 dX0_evaluate_72 rfl rfl (fun v31 hf => ?_)
            obtain ⟨w32, hc33, hf⟩ := Option.bind_eq_some_iff.mp hf
            refine g_callV X (As := [.ref (ash a 9 0), ii v30, ii v31]) (st := [.ref (b 0)]) (st1 := [ii w32.1, .ref (b 0)]) (ws' := c8 K a V0 ++ (c0 K b w32.2)) (X0_callResult_ok K l 4 (by decide) (ash a 9) b V0.2.2.1 V1 v30 v31 w32 hc33) gX0_evaluate_X0_callResult rfl 3 (by decide +kernel) ⟨rfl, rfl⟩ ⟨Nat.le_of_ble_eq_true rfl, Nat.le_of_ble_eq_true rfl⟩ ⟨Nat.zero_le _, Nat.zero_le _⟩ 23 rfl rfl rfl rfl (Nat.le_of_ble_eq_true rfl) dX0_evaluate_73 (SG.two ([(a 0, .inr (8, [.ref (ash a 1 0), .ref (ash a 5 0), .ref (ash a 9 0), ii V0.2.2.2.1, .ref (a 13), ii V0.2.2.2.2.2.1, .ref (ash a 14 0), .ref (ash a 18 0), .ref (a 22)]))] ++ (c1 K 6 (ash a 1) V0.1 ++ (c1 K 6 (ash a 5) V0.2.1))) ([(a 13, .inl (K.2.1, 6, .inl (arI V0.2.2.2.2.1)))] ++ (c4 K (ash a 14) V0.2.2.2.2.2.2.1 ++ (c6 K (ash a 18) V0.2.2.2.2.2.2.2.1 ++ ([(a 22, .inl (K.2.1, 8, .inl (arI V0.2.2.2.2.2.2.2.2)))])))) [] rfl rfl rfl) rfl ?_
            obtain ⟨v34, hc35, hf⟩ := Option.bind_eq_some_iff.mp hf
            refine g_callV X (As := [ii w32.1]) (st := []) (st1 := []) (ws' := c8 K a V0 ++ (c0 K b v34)) (X0_push_ok K l b w32.2 w32.1 v34 hc35) gX0_evaluate_X0_push rfl 1 (by decide +kernel) ⟨rfl, rfl⟩ ⟨Nat.le_of_ble_eq_true rfl, Nat.le_of_ble_eq_true rfl⟩ ⟨Nat.zero_le _, Nat.zero_le _⟩ 23 rfl rfl rfl rfl (Nat.le_of_ble_eq_true rfl) dX0_evaluate_76 (SG.one (c8 K a V0) [] rfl rfl rfl) rfl ?_
            refine g_goto X 129 dX0_evaluate_79 (by decide) ?_
            refine g_sub (lv' := [(0, .ref (b 0)), (1, .ref (a 0)), (2, ii x2), (3, ii x3), (4, .ref (ash a 18 0)), (5, ii y5)]) [1, 2, 3, 4, 5, 6] rfl ?_
            exact hj5 v34 hf
set_option maxHeartbeats 4000000 in
set_option maxRecDepth 100000 in
theorem X0_evaluate_go (K : KE) (l : Launch) (a : Nat → Nat) (b : Nat → Nat) (WC : va_W) {p : Program} {e : Env} {s : State} {m : MethodId} {args : Array Value} {below : List Frame} {meth : Method} {c : Code} (X : CX p s m args c K.1 vwCl (kT K) (va_A WC s.heap.size) cX0_evaluate 7 wsX0_evaluate RX0) (hr : meth.sig.returnType = (some .int)) (hlk : meth.locks = false) (V0 : St) (V1 : Ev) (p2 : Int) (p3 : Int) (res : Int × Ev) (hf : X0_evaluate V0 V1 p2 p3 = some res) : GO p l e rmX0_evaluate s m args below meth c K.1 vwCl (va_A WC s.heap.size) (MQ below (QC K.1 vwCl (some (ii res.1)) WC (c8 K a V0 ++ (c0 K b res.2)) s.heap.size) args s 0 0 (va_A WC s.heap.size)) 7 0 0 0 [(0, .ref (b 0)), (1, .ref (a 0)), (2, ii p2), (3, ii p3)] [] (c8 K a V0 ++ (c0 K b V1)) := by
  rw [X0_evaluate] at hf
  refine g_aload_n X dX0_evaluate_0 1 rfl rfl ?_
  refine g_get X (v := .ref (ash a 18 0)) 0 7 dX0_evaluate_1 rfl rfl iw_X0_evaluate_X8 (by decide) fl_X0_evaluate_19 rfl ?_
  refine g_astore X (lv' := [(4, .ref (ash a 18 0)), (0, .ref (b 0)), (1, .ref (a 0)), (2, ii p2), (3, ii p3)]) dX0_evaluate_4 (by decide) rfl ?_
  refine g_aload_n X dX0_evaluate_6 1 rfl rfl ?_
  refine g_iconst X dX0_evaluate_7 ?_
  refine g_puti X 23 1 dX0_evaluate_8 rfl rfl iw_X0_evaluate_X0 tyX0_ok nmX0 (by decide) fl_X0_evaluate_15 rfl rfl (Nat.le_of_ble_eq_true rfl) (ws' := c8 K a V0 ++ (c0 K b (V1.1, 0))) rfl ?_
  refine g_aload X dX0_evaluate_11 0 rfl ?_
  refine g_get X (v := ii V0.2.2.2.2.2.2.2.1.1) 18 0 dX0_evaluate_13 rfl rfl iw_X0_evaluate_X6 (by decide) fl_X0_evaluate_25 rfl ?_
  refine g_iconst X dX0_evaluate_16 ?_
  refine g_isub X dX0_evaluate_17 ?_
  refine g_istore X (lv' := [(5, ii (V0.2.2.2.2.2.2.2.1.1 - 1)), (4, .ref (ash a 18 0)), (0, .ref (b 0)), (1, .ref (a 0)), (2, ii p2), (3, ii p3)]) dX0_evaluate_18 (by decide) rfl ?_
  refine g_sub (lv' := [(0, .ref (b 0)), (1, .ref (a 0)), (2, ii p2), (3, ii p3), (4, .ref (ash a 18 0)), (5, ii (V0.2.2.2.2.2.2.2.1.1 - 1))]) [2, 3, 4, 5, 1, 0] rfl ?_
  refine X0_evaluate_L20_ok K l a b WC X hr hlk V0 p2 p3 res FU (V0.2.2.2.2.2.2.2.1.1 - 1) (V1.1, 0) hf (fun w36 hf => ?_)
  refine g_aload_n X dX0_evaluate_135 0 rfl rfl ?_
  obtain ⟨w37, hc38, hf⟩ := Option.bind_eq_some_iff.mp hf
  refine g_callV X (As := []) (st := []) (st1 := [ii w37.1]) (ws' := c8 K a V0 ++ (c0 K b w37.2)) (X0_pop_ok K l b w36 w37 hc38) gX0_evaluate_X0_pop rfl 0 (by decide +kernel) ⟨rfl, rfl⟩ ⟨Nat.le_of_ble_eq_true rfl, Nat.le_of_ble_eq_true rfl⟩ ⟨Nat.zero_le _, Nat.zero_le _⟩ 23 rfl rfl rfl rfl (Nat.le_of_ble_eq_true rfl) dX0_evaluate_136 (SG.one (c8 K a V0) [] rfl rfl rfl) rfl ?_
  cases hf
  exact g_iret X hr hlk dX0_evaluate_139
set_option maxHeartbeats 4000000 in
set_option maxRecDepth 100000 in
theorem X0_evaluate_ok (K : KE) (l : Launch) (a : Nat → Nat) (b : Nat → Nat) (V0 : St) (V1 : Ev) (p2 : Int) (p3 : Int) (res : Int × Ev) (hf : X0_evaluate V0 V1 p2 p3 = some res) : CT l K.1 vwCl (kT K) yX0_evaluate wsX0_evaluate rmX0_evaluate [.ref (b 0), .ref (a 0), ii p2, ii p3] (some (ii res.1)) (c8 K a V0 ++ (c0 K b V1)) (c8 K a V0 ++ (c0 K b res.2)) :=
  CT.mk (cc := cX0_evaluate) (maxL := 7) (ret := (some .int)) (by decide) rfl (Nat.le_of_ble_eq_true rfl) (fun p e s m below meth c X hr hlk => X0_evaluate_go K l a b _ X hr hlk V0 V1 p2 p3 res hf)
theorem iw_X1_arityOf_X1 : ∀ w ∈ u_ws RX1 TX1 4, w ∈ wsX1_arityOf := by decide +kernel
theorem fl_X1_arityOf_15 : Cond.fieldLink RX1 15 (TX1 0).1 (TX1 0).2.1 (TX1 0).2.2.1 ∈ wsX1_arityOf := by decide +kernel
theorem ne_X1_arityOf_37 : (RX1, 37, yX9_within) ∈ nestL := by decide +kernel
theorem wd_X1_arityOf_ini9 : Cond.initialized yX9_within.cls ∈ wsX1_arityOf := by decide +kernel
theorem wd_X1_arityOf_sta_X9_within : Cond.static yX9_within ∈ wsX1_arityOf := by decide +kernel
theorem fl_X1_arityOf_21 : Cond.fieldLink RX1 21 (TX1 1).1 (TX1 1).2.1 (TX1 1).2.2.1 ∈ wsX1_arityOf := by decide +kernel
def rmX1_arityOf : Room := { frames := 1, cells := 0, slots := 0, locals := 22 }
def X1_arityOf (cn0 : Nat) (V0 : FT) (p1 : Int) : Option (Int) := (X9_within p1 0 ((cn0 : Int) - 1)).bind (fun v1 => brEQ v1 0 (some 0) (rdK cn0 V0.1 p1 (fun v3 => some v3)))
set_option maxHeartbeats 4000000 in
set_option maxRecDepth 100000 in
theorem X1_arityOf_go (K : KE) (l : Launch) (cn0 : Nat) (hcn0 : cn0 ≤ 1000) (a : Nat → Nat) (WC : va_W) {p : Program} {e : Env} {s : State} {m : MethodId} {args : Array Value} {below : List Frame} {meth : Method} {c : Code} (X : CX p s m args c K.1 vwCl (kT K) (va_A WC s.heap.size) cX1_arityOf 2 wsX1_arityOf RX1) (hr : meth.sig.returnType = (some .int)) (hlk : meth.locks = false) (V0 : FT) (p1 : Int) (res : Int) (hf : X1_arityOf cn0 V0 p1 = some res) : GO p l e rmX1_arityOf s m args below meth c K.1 vwCl (va_A WC s.heap.size) (MQ below (QC K.1 vwCl (some (ii res)) WC (c1 K cn0 a V0) s.heap.size) args s 0 0 (va_A WC s.heap.size)) 2 0 0 0 [(0, .ref (a 0)), (1, ii p1)] [] (c1 K cn0 a V0) := by
  rw [X1_arityOf] at hf
  refine g_iload_n X dX1_arityOf_0 1 rfl rfl ?_
  refine g_iconst X dX1_arityOf_1 ?_
  refine g_aload_n X dX1_arityOf_2 0 rfl rfl ?_
  refine g_get X (v := ii (cn0 : Int)) 0 0 dX1_arityOf_3 rfl rfl iw_X1_arityOf_X1 (by decide) fl_X1_arityOf_15 rfl ?_
  refine g_iconst X dX1_arityOf_6 ?_
  refine g_isub X dX1_arityOf_7 ?_
  obtain ⟨v1, hc2, hf⟩ := Option.bind_eq_some_iff.mp hf
  refine g_callSN X (As := [ii p1, ii 0, ii ((cn0 : Int) - 1)]) (st := []) (st1 := [ii v1]) (ws' := c1 K cn0 a V0) (X9_within_ok K l p1 0 ((cn0 : Int) - 1) v1 hc2) ggX1_arityOf_X9_within ne_X1_arityOf_37 wd_X1_arityOf_ini9 wd_X1_arityOf_sta_X9_within rfl 3 (by decide +kernel) ⟨rfl, rfl⟩ ⟨Nat.le_of_ble_eq_true rfl, Nat.le_of_ble_eq_true rfl⟩ ⟨Nat.zero_le _, Nat.zero_le _⟩ rfl rfl (Nat.le_of_ble_eq_true rfl) dX1_arityOf_8 SG.none rfl ?_
  refine g_if_eq X hf 23 dX1_arityOf_11 (by decide) (fun hf => ?_) (fun hf => ?_)
  · refine g_iconst X dX1_arityOf_23 ?_
    cases hf
    exact g_iret X hr hlk dX1_arityOf_24
  · refine g_aload_n X dX1_arityOf_14 0 rfl rfl ?_
    refine g_get X (v := .ref (a 1)) 0 1 dX1_arityOf_15 rfl rfl iw_X1_arityOf_X1 (by decide) fl_X1_arityOf_21 rfl ?_
    refine g_iload_n X dX1_arityOf_18 1 rfl rfl ?_
    refine g_iald X hf (by omega) 1 0 dX1_arityOf_19 rfl rfl (fun v3 hf => ?_)
    refine g_goto X 24 dX1_arityOf_20 (by decide) ?_
    cases hf
    exact g_iret X hr hlk dX1_arityOf_24
set_option maxHeartbeats 4000000 in
set_option maxRecDepth 100000 in
theorem X1_arityOf_ok (K : KE) (l : Launch) (cn0 : Nat) (hcn0 : cn0 ≤ 1000) (a : Nat → Nat) (V0 : FT) (p1 : Int) (res : Int) (hf : X1_arityOf cn0 V0 p1 = some res) : CT l K.1 vwCl (kT K) yX1_arityOf wsX1_arityOf rmX1_arityOf [.ref (a 0), ii p1] (some (ii res)) (c1 K cn0 a V0) (c1 K cn0 a V0) :=
  CT.mk (cc := cX1_arityOf) (maxL := 2) (ret := (some .int)) (by decide) rfl (Nat.le_of_ble_eq_true rfl) (fun p e s m below meth c X hr hlk => X1_arityOf_go K l cn0 hcn0 a _ X hr hlk V0 p1 res hf)
theorem iw_X1_effectOf_X1 : ∀ w ∈ u_ws RX1 TX1 4, w ∈ wsX1_effectOf := by decide +kernel
theorem fl_X1_effectOf_15 : Cond.fieldLink RX1 15 (TX1 0).1 (TX1 0).2.1 (TX1 0).2.2.1 ∈ wsX1_effectOf := by decide +kernel
theorem ne_X1_effectOf_37 : (RX1, 37, yX9_within) ∈ nestL := by decide +kernel
theorem wd_X1_effectOf_ini9 : Cond.initialized yX9_within.cls ∈ wsX1_effectOf := by decide +kernel
theorem wd_X1_effectOf_sta_X9_within : Cond.static yX9_within ∈ wsX1_effectOf := by decide +kernel
theorem fl_X1_effectOf_25 : Cond.fieldLink RX1 25 (TX1 2).1 (TX1 2).2.1 (TX1 2).2.2.1 ∈ wsX1_effectOf := by decide +kernel
def rmX1_effectOf : Room := { frames := 1, cells := 0, slots := 0, locals := 22 }
def X1_effectOf (cn0 : Nat) (V0 : FT) (p1 : Int) : Option (Int) := (X9_within p1 0 ((cn0 : Int) - 1)).bind (fun v1 => brEQ v1 0 (some 0) (rdK cn0 V0.2.1 p1 (fun v3 => some v3)))
set_option maxHeartbeats 4000000 in
set_option maxRecDepth 100000 in
theorem X1_effectOf_go (K : KE) (l : Launch) (cn0 : Nat) (hcn0 : cn0 ≤ 1000) (a : Nat → Nat) (WC : va_W) {p : Program} {e : Env} {s : State} {m : MethodId} {args : Array Value} {below : List Frame} {meth : Method} {c : Code} (X : CX p s m args c K.1 vwCl (kT K) (va_A WC s.heap.size) cX1_effectOf 2 wsX1_effectOf RX1) (hr : meth.sig.returnType = (some .int)) (hlk : meth.locks = false) (V0 : FT) (p1 : Int) (res : Int) (hf : X1_effectOf cn0 V0 p1 = some res) : GO p l e rmX1_effectOf s m args below meth c K.1 vwCl (va_A WC s.heap.size) (MQ below (QC K.1 vwCl (some (ii res)) WC (c1 K cn0 a V0) s.heap.size) args s 0 0 (va_A WC s.heap.size)) 2 0 0 0 [(0, .ref (a 0)), (1, ii p1)] [] (c1 K cn0 a V0) := by
  rw [X1_effectOf] at hf
  refine g_iload_n X dX1_effectOf_0 1 rfl rfl ?_
  refine g_iconst X dX1_effectOf_1 ?_
  refine g_aload_n X dX1_effectOf_2 0 rfl rfl ?_
  refine g_get X (v := ii (cn0 : Int)) 0 0 dX1_effectOf_3 rfl rfl iw_X1_effectOf_X1 (by decide) fl_X1_effectOf_15 rfl ?_
  refine g_iconst X dX1_effectOf_6 ?_
  refine g_isub X dX1_effectOf_7 ?_
  obtain ⟨v1, hc2, hf⟩ := Option.bind_eq_some_iff.mp hf
  refine g_callSN X (As := [ii p1, ii 0, ii ((cn0 : Int) - 1)]) (st := []) (st1 := [ii v1]) (ws' := c1 K cn0 a V0) (X9_within_ok K l p1 0 ((cn0 : Int) - 1) v1 hc2) ggX1_effectOf_X9_within ne_X1_effectOf_37 wd_X1_effectOf_ini9 wd_X1_effectOf_sta_X9_within rfl 3 (by decide +kernel) ⟨rfl, rfl⟩ ⟨Nat.le_of_ble_eq_true rfl, Nat.le_of_ble_eq_true rfl⟩ ⟨Nat.zero_le _, Nat.zero_le _⟩ rfl rfl (Nat.le_of_ble_eq_true rfl) dX1_effectOf_8 SG.none rfl ?_
  refine g_if_eq X hf 23 dX1_effectOf_11 (by decide) (fun hf => ?_) (fun hf => ?_)
  · refine g_iconst X dX1_effectOf_23 ?_
    cases hf
    exact g_iret X hr hlk dX1_effectOf_24
  · refine g_aload_n X dX1_effectOf_14 0 rfl rfl ?_
    refine g_get X (v := .ref (a 2)) 0 2 dX1_effectOf_15 rfl rfl iw_X1_effectOf_X1 (by decide) fl_X1_effectOf_25 rfl ?_
    refine g_iload_n X dX1_effectOf_18 1 rfl rfl ?_
    refine g_iald X hf (by omega) 2 0 dX1_effectOf_19 rfl rfl (fun v3 hf => ?_)
    refine g_goto X 24 dX1_effectOf_20 (by decide) ?_
    cases hf
    exact g_iret X hr hlk dX1_effectOf_24
set_option maxHeartbeats 4000000 in
set_option maxRecDepth 100000 in
theorem X1_effectOf_ok (K : KE) (l : Launch) (cn0 : Nat) (hcn0 : cn0 ≤ 1000) (a : Nat → Nat) (V0 : FT) (p1 : Int) (res : Int) (hf : X1_effectOf cn0 V0 p1 = some res) : CT l K.1 vwCl (kT K) yX1_effectOf wsX1_effectOf rmX1_effectOf [.ref (a 0), ii p1] (some (ii res)) (c1 K cn0 a V0) (c1 K cn0 a V0) :=
  CT.mk (cc := cX1_effectOf) (maxL := 2) (ret := (some .int)) (by decide) rfl (Nat.le_of_ble_eq_true rfl) (fun p e s m below meth c X hr hlk => X1_effectOf_go K l cn0 hcn0 a _ X hr hlk V0 p1 res hf)
theorem iw_X1_putShape_X1 : ∀ w ∈ u_ws RX1 TX1 4, w ∈ wsX1_putShape := by decide +kernel
theorem fl_X1_putShape_15 : Cond.fieldLink RX1 15 (TX1 0).1 (TX1 0).2.1 (TX1 0).2.2.1 ∈ wsX1_putShape := by decide +kernel
theorem ne_X1_putShape_37 : (RX1, 37, yX9_within) ∈ nestL := by decide +kernel
theorem wd_X1_putShape_ini9 : Cond.initialized yX9_within.cls ∈ wsX1_putShape := by decide +kernel
theorem wd_X1_putShape_sta_X9_within : Cond.static yX9_within ∈ wsX1_putShape := by decide +kernel
theorem fl_X1_putShape_21 : Cond.fieldLink RX1 21 (TX1 1).1 (TX1 1).2.1 (TX1 1).2.2.1 ∈ wsX1_putShape := by decide +kernel
theorem fl_X1_putShape_25 : Cond.fieldLink RX1 25 (TX1 2).1 (TX1 2).2.1 (TX1 2).2.2.1 ∈ wsX1_putShape := by decide +kernel
def rmX1_putShape : Room := { frames := 1, cells := 0, slots := 0, locals := 22 }
def X1_putShape (cn0 : Nat) (V0 : FT) (p1 : Int) (p2 : Int) (p3 : Int) : Option (FT) := (X9_within p1 0 ((cn0 : Int) - 1)).bind (fun v1 => brEQ v1 0 (some V0) (wrK cn0 V0.1 p1 p2 (fun f3 => wrK cn0 V0.2.1 p1 p3 (fun f4 => some (f3, f4, V0.2.2)))))
set_option maxHeartbeats 4000000 in
set_option maxRecDepth 100000 in
theorem X1_putShape_go (K : KE) (l : Launch) (cn0 : Nat) (hcn0 : cn0 ≤ 1000) (a : Nat → Nat) (WC : va_W) {p : Program} {e : Env} {s : State} {m : MethodId} {args : Array Value} {below : List Frame} {meth : Method} {c : Code} (X : CX p s m args c K.1 vwCl (kT K) (va_A WC s.heap.size) cX1_putShape 4 wsX1_putShape RX1) (hr : meth.sig.returnType = none) (hlk : meth.locks = false) (V0 : FT) (p1 : Int) (p2 : Int) (p3 : Int) (res : FT) (hf : X1_putShape cn0 V0 p1 p2 p3 = some res) : GO p l e rmX1_putShape s m args below meth c K.1 vwCl (va_A WC s.heap.size) (MQ below (QC K.1 vwCl none WC (c1 K cn0 a res) s.heap.size) args s 0 0 (va_A WC s.heap.size)) 4 0 0 0 [(0, .ref (a 0)), (1, ii p1), (2, ii p2), (3, ii p3)] [] (c1 K cn0 a V0) := by
  rw [X1_putShape] at hf
  refine g_iload_n X dX1_putShape_0 1 rfl rfl ?_
  refine g_iconst X dX1_putShape_1 ?_
  refine g_aload_n X dX1_putShape_2 0 rfl rfl ?_
  refine g_get X (v := ii (cn0 : Int)) 0 0 dX1_putShape_3 rfl rfl iw_X1_putShape_X1 (by decide) fl_X1_putShape_15 rfl ?_
  refine g_iconst X dX1_putShape_6 ?_
  refine g_isub X dX1_putShape_7 ?_
  obtain ⟨v1, hc2, hf⟩ := Option.bind_eq_some_iff.mp hf
  refine g_callSN X (As := [ii p1, ii 0, ii ((cn0 : Int) - 1)]) (st := []) (st1 := [ii v1]) (ws' := c1 K cn0 a V0) (X9_within_ok K l p1 0 ((cn0 : Int) - 1) v1 hc2) ggX1_putShape_X9_within ne_X1_putShape_37 wd_X1_putShape_ini9 wd_X1_putShape_sta_X9_within rfl 3 (by decide +kernel) ⟨rfl, rfl⟩ ⟨Nat.le_of_ble_eq_true rfl, Nat.le_of_ble_eq_true rfl⟩ ⟨Nat.zero_le _, Nat.zero_le _⟩ rfl rfl (Nat.le_of_ble_eq_true rfl) dX1_putShape_8 SG.none rfl ?_
  refine g_if_eq X hf 28 dX1_putShape_11 (by decide) (fun hf => ?_) (fun hf => ?_)
  · cases hf
    exact g_vret X hr hlk dX1_putShape_28
  · refine g_aload_n X dX1_putShape_14 0 rfl rfl ?_
    refine g_get X (v := .ref (a 1)) 0 1 dX1_putShape_15 rfl rfl iw_X1_putShape_X1 (by decide) fl_X1_putShape_21 rfl ?_
    refine g_iload_n X dX1_putShape_18 1 rfl rfl ?_
    refine g_iload_n X dX1_putShape_19 2 rfl rfl ?_
    refine g_iast X hf (by omega) 1 0 dX1_putShape_20 rfl rfl (fun f3 => c1 K cn0 a (f3, V0.2.1, V0.2.2)) (fun _ => rfl) (fun f3 hf => ?_)
    refine g_aload_n X dX1_putShape_21 0 rfl rfl ?_
    refine g_get X (v := .ref (a 2)) 0 2 dX1_putShape_22 rfl rfl iw_X1_putShape_X1 (by decide) fl_X1_putShape_25 rfl ?_
    refine g_iload_n X dX1_putShape_25 1 rfl rfl ?_
    refine g_iload_n X dX1_putShape_26 3 rfl rfl ?_
    refine g_iast X hf (by omega) 2 0 dX1_putShape_27 rfl rfl (fun f4 => c1 K cn0 a (f3, f4, V0.2.2)) (fun _ => rfl) (fun f4 hf => ?_)
    cases hf
    exact g_vret X hr hlk dX1_putShape_28
set_option maxHeartbeats 4000000 in
set_option maxRecDepth 100000 in
theorem X1_putShape_ok (K : KE) (l : Launch) (cn0 : Nat) (hcn0 : cn0 ≤ 1000) (a : Nat → Nat) (V0 : FT) (p1 : Int) (p2 : Int) (p3 : Int) (res : FT) (hf : X1_putShape cn0 V0 p1 p2 p3 = some res) : CT l K.1 vwCl (kT K) yX1_putShape wsX1_putShape rmX1_putShape [.ref (a 0), ii p1, ii p2, ii p3] none (c1 K cn0 a V0) (c1 K cn0 a res) :=
  CT.mk (cc := cX1_putShape) (maxL := 4) (ret := none) (by decide) rfl (Nat.le_of_ble_eq_true rfl) (fun p e s m below meth c X hr hlk => X1_putShape_go K l cn0 hcn0 a _ X hr hlk V0 p1 p2 p3 res hf)
theorem iw_X1_putTerm_X1 : ∀ w ∈ u_ws RX1 TX1 4, w ∈ wsX1_putTerm := by decide +kernel
theorem fl_X1_putTerm_28 : Cond.fieldLink RX1 28 (TX1 3).1 (TX1 3).2.1 (TX1 3).2.2.1 ∈ wsX1_putTerm := by decide +kernel
theorem ne_X1_putTerm_37 : (RX1, 37, yX9_within) ∈ nestL := by decide +kernel
theorem wd_X1_putTerm_ini9 : Cond.initialized yX9_within.cls ∈ wsX1_putTerm := by decide +kernel
theorem wd_X1_putTerm_sta_X9_within : Cond.static yX9_within ∈ wsX1_putTerm := by decide +kernel
def rmX1_putTerm : Room := { frames := 1, cells := 0, slots := 0, locals := 22 }
def X1_putTerm (cn0 : Nat) (V0 : FT) (p1 : Int) (p2 : Int) (p3 : Int) : Option (FT) := (X1_slotOf p1 p2).bind (fun v1 => (X9_within v1 0 ((((5 * cn0) : Nat) : Int) - 1)).bind (fun v3 => brEQ v3 0 (some V0) (wrK (5 * cn0) V0.2.2 v1 p3 (fun f5 => some (V0.1, V0.2.1, f5)))))
set_option maxHeartbeats 4000000 in
set_option maxRecDepth 100000 in
theorem X1_putTerm_go (K : KE) (l : Launch) (cn0 : Nat) (hcn0 : cn0 ≤ 1000) (a : Nat → Nat) (WC : va_W) {p : Program} {e : Env} {s : State} {m : MethodId} {args : Array Value} {below : List Frame} {meth : Method} {c : Code} (X : CX p s m args c K.1 vwCl (kT K) (va_A WC s.heap.size) cX1_putTerm 5 wsX1_putTerm RX1) (hr : meth.sig.returnType = none) (hlk : meth.locks = false) (V0 : FT) (p1 : Int) (p2 : Int) (p3 : Int) (res : FT) (hf : X1_putTerm cn0 V0 p1 p2 p3 = some res) : GO p l e rmX1_putTerm s m args below meth c K.1 vwCl (va_A WC s.heap.size) (MQ below (QC K.1 vwCl none WC (c1 K cn0 a res) s.heap.size) args s 0 0 (va_A WC s.heap.size)) 5 0 0 0 [(0, .ref (a 0)), (1, ii p1), (2, ii p2), (3, ii p3)] [] (c1 K cn0 a V0) := by
  rw [X1_putTerm] at hf
  refine g_iload_n X dX1_putTerm_0 1 rfl rfl ?_
  refine g_iload_n X dX1_putTerm_1 2 rfl rfl ?_
  obtain ⟨v1, hc2, hf⟩ := Option.bind_eq_some_iff.mp hf
  refine g_callS X (As := [ii p1, ii p2]) (st := []) (st1 := [ii v1]) (ws' := c1 K cn0 a V0) (X1_slotOf_ok K l p1 p2 v1 hc2) gX1_putTerm_X1_slotOf rfl 2 (by decide +kernel) ⟨rfl, rfl⟩ ⟨Nat.le_of_ble_eq_true rfl, Nat.le_of_ble_eq_true rfl⟩ ⟨Nat.zero_le _, Nat.zero_le _⟩ rfl rfl (Nat.le_of_ble_eq_true rfl) dX1_putTerm_2 SG.none rfl ?_
  refine g_istore X (lv' := [(4, ii v1), (0, .ref (a 0)), (1, ii p1), (2, ii p2), (3, ii p3)]) dX1_putTerm_5 (by decide) rfl ?_
  refine g_iload X dX1_putTerm_7 0 rfl ?_
  refine g_iconst X dX1_putTerm_9 ?_
  refine g_aload_n X dX1_putTerm_10 1 rfl rfl ?_
  refine g_get X (v := .ref (a 3)) 0 3 dX1_putTerm_11 rfl rfl iw_X1_putTerm_X1 (by decide) fl_X1_putTerm_28 rfl ?_
  refine g_alen X (n := (5 * cn0)) 3 0 dX1_putTerm_14 rfl rfl ?_
  refine g_iconst X dX1_putTerm_15 ?_
  refine g_isub X dX1_putTerm_16 ?_
  obtain ⟨v3, hc4, hf⟩ := Option.bind_eq_some_iff.mp hf
  refine g_callSN X (As := [ii v1, ii 0, ii ((((5 * cn0) : Nat) : Int) - 1)]) (st := []) (st1 := [ii v3]) (ws' := c1 K cn0 a V0) (X9_within_ok K l v1 0 ((((5 * cn0) : Nat) : Int) - 1) v3 hc4) ggX1_putTerm_X9_within ne_X1_putTerm_37 wd_X1_putTerm_ini9 wd_X1_putTerm_sta_X9_within rfl 3 (by decide +kernel) ⟨rfl, rfl⟩ ⟨Nat.le_of_ble_eq_true rfl, Nat.le_of_ble_eq_true rfl⟩ ⟨Nat.zero_le _, Nat.zero_le _⟩ rfl rfl (Nat.le_of_ble_eq_true rfl) dX1_putTerm_17 SG.none rfl ?_
  refine g_if_eq X hf 31 dX1_putTerm_20 (by decide) (fun hf => ?_) (fun hf => ?_)
  · cases hf
    exact g_vret X hr hlk dX1_putTerm_31
  · refine g_aload_n X dX1_putTerm_23 1 rfl rfl ?_
    refine g_get X (v := .ref (a 3)) 0 3 dX1_putTerm_24 rfl rfl iw_X1_putTerm_X1 (by decide) fl_X1_putTerm_28 rfl ?_
    refine g_iload X dX1_putTerm_27 0 rfl ?_
    refine g_iload_n X dX1_putTerm_29 4 rfl rfl ?_
    refine g_iast X hf (by omega) 3 0 dX1_putTerm_30 rfl rfl (fun f5 => c1 K cn0 a (V0.1, V0.2.1, f5)) (fun _ => rfl) (fun f5 hf => ?_)
    cases hf
    exact g_vret X hr hlk dX1_putTerm_31
set_option maxHeartbeats 4000000 in
set_option maxRecDepth 100000 in
theorem X1_putTerm_ok (K : KE) (l : Launch) (cn0 : Nat) (hcn0 : cn0 ≤ 1000) (a : Nat → Nat) (V0 : FT) (p1 : Int) (p2 : Int) (p3 : Int) (res : FT) (hf : X1_putTerm cn0 V0 p1 p2 p3 = some res) : CT l K.1 vwCl (kT K) yX1_putTerm wsX1_putTerm rmX1_putTerm [.ref (a 0), ii p1, ii p2, ii p3] none (c1 K cn0 a V0) (c1 K cn0 a res) :=
  CT.mk (cc := cX1_putTerm) (maxL := 5) (ret := none) (by decide) rfl (Nat.le_of_ble_eq_true rfl) (fun p e s m below meth c X hr hlk => X1_putTerm_go K l cn0 hcn0 a _ X hr hlk V0 p1 p2 p3 res hf)
theorem iw_X1_copyFunction_X1 : ∀ w ∈ u_ws RX1 TX1 4, w ∈ wsX1_copyFunction := by decide +kernel
theorem fl_X1_copyFunction_15 : Cond.fieldLink RX1 15 (TX1 0).1 (TX1 0).2.1 (TX1 0).2.2.1 ∈ wsX1_copyFunction := by decide +kernel
theorem ne_X1_copyFunction_37 : (RX1, 37, yX9_within) ∈ nestL := by decide +kernel
theorem wd_X1_copyFunction_ini9 : Cond.initialized yX9_within.cls ∈ wsX1_copyFunction := by decide +kernel
theorem wd_X1_copyFunction_sta_X9_within : Cond.static yX9_within ∈ wsX1_copyFunction := by decide +kernel
theorem fl_X1_copyFunction_21 : Cond.fieldLink RX1 21 (TX1 1).1 (TX1 1).2.1 (TX1 1).2.2.1 ∈ wsX1_copyFunction := by decide +kernel
theorem fl_X1_copyFunction_25 : Cond.fieldLink RX1 25 (TX1 2).1 (TX1 2).2.1 (TX1 2).2.2.1 ∈ wsX1_copyFunction := by decide +kernel
theorem fl_X1_copyFunction_28 : Cond.fieldLink RX1 28 (TX1 3).1 (TX1 3).2.1 (TX1 3).2.2.1 ∈ wsX1_copyFunction := by decide +kernel
theorem wd_X1_copyFunction_ac44 : Cond.methodLink RX1 44 arraycopyName ∈ wsX1_copyFunction := by decide +kernel
theorem wd_X1_copyFunction_an : Cond.native arraycopyName ∈ wsX1_copyFunction := by decide +kernel
theorem wd_X1_copyFunction_as : Cond.static arraycopyName ∈ wsX1_copyFunction := by decide +kernel
theorem wd_X1_copyFunction_ai : Cond.initialized "java/lang/System" ∈ wsX1_copyFunction := by decide +kernel
def rmX1_copyFunction : Room := { frames := 1, cells := 0, slots := 0, locals := 26 }
def X1_copyFunction (cn0 : Nat) (cn1 : Nat) (V0 : FT) (V1 : FT) (p1 : Int) (p3 : Int) : Option (FT) := (X9_within p1 0 ((cn0 : Int) - 1)).bind (fun v1 => brEQ v1 0 (some V0) ((X9_within p3 0 ((cn1 : Int) - 1)).bind (fun v3 => brEQ v3 0 (some V0) (rdK cn1 V1.1 p3 (fun v5 => wrK cn0 V0.1 p1 v5 (fun f6 => rdK cn1 V1.2.1 p3 (fun v7 => wrK cn0 V0.2.1 p1 v7 (fun f8 => cpK (5 * cn1) (5 * cn0) V1.2.2 V0.2.2 (p3 * 5) (p1 * 5) 5 (fun f9 => some (f6, f8, f9))))))))))
set_option maxHeartbeats 4000000 in
set_option maxRecDepth 100000 in
theorem X1_copyFunction_go (K : KE) (l : Launch) (cn0 : Nat) (cn1 : Nat) (hcn0 : cn0 ≤ 1000) (hcn1 : cn1 ≤ 1000) (a : Nat → Nat) (b : Nat → Nat) (WC : va_W) {p : Program} {e : Env} {s : State} {m : MethodId} {args : Array Value} {below : List Frame} {meth : Method} {c : Code} (X : CX p s m args c K.1 vwCl (kT K) (va_A WC s.heap.size) cX1_copyFunction 4 wsX1_copyFunction RX1) (hr : meth.sig.returnType = none) (hlk : meth.locks = false) (V0 : FT) (V1 : FT) (p1 : Int) (p3 : Int) (res : FT) (hf : X1_copyFunction cn0 cn1 V0 V1 p1 p3 = some res) : GO p l e rmX1_copyFunction s m args below meth c K.1 vwCl (va_A WC s.heap.size) (MQ below (QC K.1 vwCl none WC (c1 K cn0 a res ++ (c1 K cn1 b V1)) s.heap.size) args s 0 0 (va_A WC s.heap.size)) 4 0 0 0 [(0, .ref (a 0)), (1, ii p1), (2, .ref (b 0)), (3, ii p3)] [] (c1 K cn0 a V0 ++ (c1 K cn1 b V1)) := by
  rw [X1_copyFunction] at hf
  refine g_iload_n X dX1_copyFunction_0 1 rfl rfl ?_
  refine g_iconst X dX1_copyFunction_1 ?_
  refine g_aload_n X dX1_copyFunction_2 0 rfl rfl ?_
  refine g_get X (v := ii (cn0 : Int)) 0 0 dX1_copyFunction_3 rfl rfl iw_X1_copyFunction_X1 (by decide) fl_X1_copyFunction_15 rfl ?_
  refine g_iconst X dX1_copyFunction_6 ?_
  refine g_isub X dX1_copyFunction_7 ?_
  obtain ⟨v1, hc2, hf⟩ := Option.bind_eq_some_iff.mp hf
  refine g_callSN X (As := [ii p1, ii 0, ii ((cn0 : Int) - 1)]) (st := []) (st1 := [ii v1]) (ws' := c1 K cn0 a V0 ++ (c1 K cn1 b V1)) (X9_within_ok K l p1 0 ((cn0 : Int) - 1) v1 hc2) ggX1_copyFunction_X9_within ne_X1_copyFunction_37 wd_X1_copyFunction_ini9 wd_X1_copyFunction_sta_X9_within rfl 3 (by decide +kernel) ⟨rfl, rfl⟩ ⟨Nat.le_of_ble_eq_true rfl, Nat.le_of_ble_eq_true rfl⟩ ⟨Nat.zero_le _, Nat.zero_le _⟩ rfl rfl (Nat.le_of_ble_eq_true rfl) dX1_copyFunction_8 SG.none rfl ?_
  refine g_if_eq X hf 28 dX1_copyFunction_11 (by decide) (fun hf => ?_) (fun hf => ?_)
  · cases hf
    exact g_vret X hr hlk dX1_copyFunction_28
  · refine g_iload_n X dX1_copyFunction_14 3 rfl rfl ?_
    refine g_iconst X dX1_copyFunction_15 ?_
    refine g_aload_n X dX1_copyFunction_16 2 rfl rfl ?_
    refine g_get X (v := ii (cn1 : Int)) 4 0 dX1_copyFunction_17 rfl rfl iw_X1_copyFunction_X1 (by decide) fl_X1_copyFunction_15 rfl ?_
    refine g_iconst X dX1_copyFunction_20 ?_
    refine g_isub X dX1_copyFunction_21 ?_
    obtain ⟨v3, hc4, hf⟩ := Option.bind_eq_some_iff.mp hf
    refine g_callSN X (As := [ii p3, ii 0, ii ((cn1 : Int) - 1)]) (st := []) (st1 := [ii v3]) (ws' := c1 K cn0 a V0 ++ (c1 K cn1 b V1)) (X9_within_ok K l p3 0 ((cn1 : Int) - 1) v3 hc4) ggX1_copyFunction_X9_within ne_X1_copyFunction_37 wd_X1_copyFunction_ini9 wd_X1_copyFunction_sta_X9_within rfl 3 (by decide +kernel) ⟨rfl, rfl⟩ ⟨Nat.le_of_ble_eq_true rfl, Nat.le_of_ble_eq_true rfl⟩ ⟨Nat.zero_le _, Nat.zero_le _⟩ rfl rfl (Nat.le_of_ble_eq_true rfl) dX1_copyFunction_22 SG.none rfl ?_
    refine g_if_ne X hf 29 dX1_copyFunction_25 (by decide) (fun hf => ?_) (fun hf => ?_)
    · cases hf
      exact g_vret X hr hlk dX1_copyFunction_28
    · refine g_aload_n X dX1_copyFunction_29 0 rfl rfl ?_
      refine g_get X (v := .ref (a 1)) 0 1 dX1_copyFunction_30 rfl rfl iw_X1_copyFunction_X1 (by decide) fl_X1_copyFunction_21 rfl ?_
      refine g_iload_n X dX1_copyFunction_33 1 rfl rfl ?_
      refine g_aload_n X dX1_copyFunction_34 2 rfl rfl ?_
      refine g_get X (v := .ref (b 1)) 4 1 dX1_copyFunction_35 rfl rfl iw_X1_copyFunction_X1 (by decide) fl_X1_copyFunction_21 rfl ?_
      refine g_iload_n X dX1_copyFunction_38 3 rfl rfl ?_
      refine g_iald X hf (by omega) 5 0 dX1_copyFunction_39 rfl rfl (fun v5 hf => ?_)
      refine g_iast X hf (by omega) 1 0 dX1_copyFunction_40 rfl rfl (fun f6 => c1 K cn0 a (f6, V0.2.1, V0.2.2) ++ (c1 K cn1 b V1)) (fun _ => rfl) (fun f6 hf => ?_)
      refine g_aload_n X dX1_copyFunction_41 0 rfl rfl ?_
      refine g_get X (v := .ref (a 2)) 0 2 dX1_copyFunction_42 rfl rfl iw_X1_copyFunction_X1 (by decide) fl_X1_copyFunction_25 rfl ?_
      refine g_iload_n X dX1_copyFunction_45 1 rfl rfl ?_
      refine g_aload_n X dX1_copyFunction_46 2 rfl rfl ?_
      refine g_get X (v := .ref (b 2)) 4 2 dX1_copyFunction_47 rfl rfl iw_X1_copyFunction_X1 (by decide) fl_X1_copyFunction_25 rfl ?_
      refine g_iload_n X dX1_copyFunction_50 3 rfl rfl ?_
      refine g_iald X hf (by omega) 6 0 dX1_copyFunction_51 rfl rfl (fun v7 hf => ?_)
      refine g_iast X hf (by omega) 2 0 dX1_copyFunction_52 rfl rfl (fun f8 => c1 K cn0 a (f6, f8, V0.2.2) ++ (c1 K cn1 b V1)) (fun _ => rfl) (fun f8 hf => ?_)
      refine g_aload_n X dX1_copyFunction_53 2 rfl rfl ?_
      refine g_get X (v := .ref (b 3)) 4 3 dX1_copyFunction_54 rfl rfl iw_X1_copyFunction_X1 (by decide) fl_X1_copyFunction_28 rfl ?_
      refine g_iload_n X dX1_copyFunction_57 3 rfl rfl ?_
      refine g_iconst X dX1_copyFunction_58 ?_
      refine g_imul X dX1_copyFunction_59 ?_
      refine g_aload_n X dX1_copyFunction_60 0 rfl rfl ?_
      refine g_get X (v := .ref (a 3)) 0 3 dX1_copyFunction_61 rfl rfl iw_X1_copyFunction_X1 (by decide) fl_X1_copyFunction_28 rfl ?_
      refine g_iload_n X dX1_copyFunction_64 1 rfl rfl ?_
      refine g_iconst X dX1_copyFunction_65 ?_
      refine g_imul X dX1_copyFunction_66 ?_
      refine g_iconst X dX1_copyFunction_67 ?_
      refine g_copy X hf (by omega) (by omega) wd_X1_copyFunction_ac44 wd_X1_copyFunction_an wd_X1_copyFunction_as wd_X1_copyFunction_ai 7 3 0 0 rfl rfl rfl rfl ⟨Nat.le_of_ble_eq_true rfl, Nat.le_of_ble_eq_true rfl⟩ dX1_copyFunction_68 (fun f9 => c1 K cn0 a (f6, f8, f9) ++ (c1 K cn1 b V1)) (fun _ => rfl) (fun f9 hf => ?_)
      cases hf
      exact g_vret X hr hlk dX1_copyFunction_71
set_option maxHeartbeats 4000000 in
set_option maxRecDepth 100000 in
theorem X1_copyFunction_ok (K : KE) (l : Launch) (cn0 : Nat) (cn1 : Nat) (hcn0 : cn0 ≤ 1000) (hcn1 : cn1 ≤ 1000) (a : Nat → Nat) (b : Nat → Nat) (V0 : FT) (V1 : FT) (p1 : Int) (p3 : Int) (res : FT) (hf : X1_copyFunction cn0 cn1 V0 V1 p1 p3 = some res) : CT l K.1 vwCl (kT K) yX1_copyFunction wsX1_copyFunction rmX1_copyFunction [.ref (a 0), ii p1, .ref (b 0), ii p3] none (c1 K cn0 a V0 ++ (c1 K cn1 b V1)) (c1 K cn0 a res ++ (c1 K cn1 b V1)) :=
  CT.mk (cc := cX1_copyFunction) (maxL := 4) (ret := none) (by decide) rfl (Nat.le_of_ble_eq_true rfl) (fun p e s m below meth c X hr hlk => X1_copyFunction_go K l cn0 cn1 hcn0 hcn1 a b _ X hr hlk V0 V1 p1 p3 res hf)
theorem iw_X1_copyFrom_X1 : ∀ w ∈ u_ws RX1 TX1 4, w ∈ wsX1_copyFrom := by decide +kernel
theorem fl_X1_copyFrom_15 : Cond.fieldLink RX1 15 (TX1 0).1 (TX1 0).2.1 (TX1 0).2.2.1 ∈ wsX1_copyFrom := by decide +kernel
def rmX1_copyFrom : Room := { frames := 2, cells := 0, slots := 0, locals := 49 }
def X1_copyFrom_L2 (kx : FT → Option (FT)) (cn0 : Nat) (cn1 : Nat) (V1 : FT) : Nat → Int → FT → Option (FT)
  | 0, _, _ => none
  | n + 1, y2, V0 => brLT y2 (cn0 : Int) ((X1_copyFunction cn0 cn1 V0 V1 y2 y2).bind (fun v1 => X1_copyFrom_L2 kx cn0 cn1 V1 n (y2 + 1) v1)) (kx V0)
def X1_copyFrom (cn0 : Nat) (cn1 : Nat) (V0 : FT) (V1 : FT) : Option (FT) := X1_copyFrom_L2 (fun w3 => some w3) cn0 cn1 V1 FU 0 V0
set_option maxHeartbeats 4000000 in
set_option maxRecDepth 100000 in
theorem X1_copyFrom_L2_ok (K : KE) (l : Launch) (cn0 : Nat) (cn1 : Nat) (hcn0 : cn0 ≤ 1000) (hcn1 : cn1 ≤ 1000) (a : Nat → Nat) (b : Nat → Nat) (WC : va_W) {p : Program} {e : Env} {s : State} {m : MethodId} {args : Array Value} {below : List Frame} {meth : Method} {c : Code} (X : CX p s m args c K.1 vwCl (kT K) (va_A WC s.heap.size) cX1_copyFrom 3 wsX1_copyFrom RX1) (hr : meth.sig.returnType = none) (hlk : meth.locks = false) (V1 : FT)  (res : FT) {kx : FT → Option (FT)} : ∀ (n : Nat) (y2 : Int) (V0 : FT), X1_copyFrom_L2 kx cn0 cn1 V1 n y2 V0 = some res → (∀ (V0z : FT), kx V0z = some res → GO p l e rmX1_copyFrom s m args below meth c K.1 vwCl (va_A WC s.heap.size) (MQ below (QC K.1 vwCl none WC (c1 K cn0 a res ++ (c1 K cn1 b V1)) s.heap.size) args s 0 0 (va_A WC s.heap.size)) 3 0 0 23 [] [] (c1 K cn0 a V0z ++ (c1 K cn1 b V1))) → GO p l e rmX1_copyFrom s m args below meth c K.1 vwCl (va_A WC s.heap.size) (MQ below (QC K.1 vwCl none WC (c1 K cn0 a res ++ (c1 K cn1 b V1)) s.heap.size) args s 0 0 (va_A WC s.heap.size)) 3 0 0 2 [(0, .ref (a 0)), (1, .ref (b 0)), (2, ii y2)] [] (c1 K cn0 a V0 ++ (c1 K cn1 b V1)) := by
  intro n
  induction n with
  | zero =>
    intro y2 V0 hf _
    rw [X1_copyFrom_L2] at hf
    cases hf
  | succ n ih =>
    intro y2 V0 hf hk
    rw [X1_copyFrom_L2] at hf
    refine g_iload_n X dX1_copyFrom_2 2 rfl rfl ?_
    refine g_aload_n X dX1_copyFrom_3 0 rfl rfl ?_
    refine g_get X (v := ii (cn0 : Int)) 0 0 dX1_copyFrom_4 rfl rfl iw_X1_copyFrom_X1 (by decide) fl_X1_copyFrom_15 rfl ?_
    refine g_icmp_ge X hf 23 dX1_copyFrom_7 (by decide) (fun hf => ?_) (fun hf => ?_)
    · refine g_aload_n X dX1_copyFrom_10 0 rfl rfl ?_
      refine g_iload_n X dX1_copyFrom_11 2 rfl rfl ?_
      refine g_aload_n X dX1_copyFrom_12 1 rfl rfl ?_
      refine g_iload_n X dX1_copyFrom_13 2 rfl rfl ?_
      obtain ⟨v1, hc2, hf⟩ := Option.bind_eq_some_iff.mp hf
      refine g_callV X (As := [ii y2, .ref (b 0), ii y2]) (st := []) (st1 := []) (ws' := c1 K cn0 a v1 ++ (c1 K cn1 b V1)) (X1_copyFunction_ok K l cn0 cn1 hcn0 hcn1 a b V0 V1 y2 y2 v1 hc2) gX1_copyFrom_X1_copyFunction rfl 3 (by decide +kernel) ⟨rfl, rfl⟩ ⟨Nat.le_of_ble_eq_true rfl, Nat.le_of_ble_eq_true rfl⟩ ⟨Nat.zero_le _, Nat.zero_le _⟩ 0 rfl rfl rfl rfl (Nat.le_of_ble_eq_true rfl) dX1_copyFrom_14 (SG.all rfl) rfl ?_
      refine g_iinc X (lv' := [(2, ii (y2 + 1)), (0, .ref (a 0)), (1, .ref (b 0))]) dX1_copyFrom_17 2 rfl (by decide) rfl ?_
      refine g_goto X 2 dX1_copyFrom_20 (by decide) ?_
      refine g_sub (lv' := [(0, .ref (a 0)), (1, .ref (b 0)), (2, ii (y2 + 1))]) [1, 2, 0] rfl ?_
      exact ih (y2 + 1) v1 hf hk
    · refine g_sub (lv' := []) [] rfl ?_
      exact hk V0 hf
set_option maxHeartbeats 4000000 in
set_option maxRecDepth 100000 in
theorem X1_copyFrom_go (K : KE) (l : Launch) (cn0 : Nat) (cn1 : Nat) (hcn0 : cn0 ≤ 1000) (hcn1 : cn1 ≤ 1000) (a : Nat → Nat) (b : Nat → Nat) (WC : va_W) {p : Program} {e : Env} {s : State} {m : MethodId} {args : Array Value} {below : List Frame} {meth : Method} {c : Code} (X : CX p s m args c K.1 vwCl (kT K) (va_A WC s.heap.size) cX1_copyFrom 3 wsX1_copyFrom RX1) (hr : meth.sig.returnType = none) (hlk : meth.locks = false) (V0 : FT) (V1 : FT) (res : FT) (hf : X1_copyFrom cn0 cn1 V0 V1 = some res) : GO p l e rmX1_copyFrom s m args below meth c K.1 vwCl (va_A WC s.heap.size) (MQ below (QC K.1 vwCl none WC (c1 K cn0 a res ++ (c1 K cn1 b V1)) s.heap.size) args s 0 0 (va_A WC s.heap.size)) 3 0 0 0 [(0, .ref (a 0)), (1, .ref (b 0))] [] (c1 K cn0 a V0 ++ (c1 K cn1 b V1)) := by
  rw [X1_copyFrom] at hf
  refine g_iconst X dX1_copyFrom_0 ?_
  refine g_istore_n X (lv' := [(2, ii 0), (0, .ref (a 0)), (1, .ref (b 0))]) dX1_copyFrom_1 rfl (by decide) rfl ?_
  refine g_sub (lv' := [(0, .ref (a 0)), (1, .ref (b 0)), (2, ii 0)]) [1, 2, 0] rfl ?_
  refine X1_copyFrom_L2_ok K l cn0 cn1 hcn0 hcn1 a b WC X hr hlk V1 res FU 0 V0 hf (fun w3 hf => ?_)
  cases hf
  exact g_vret X hr hlk dX1_copyFrom_23
set_option maxHeartbeats 4000000 in
set_option maxRecDepth 100000 in
theorem X1_copyFrom_ok (K : KE) (l : Launch) (cn0 : Nat) (cn1 : Nat) (hcn0 : cn0 ≤ 1000) (hcn1 : cn1 ≤ 1000) (a : Nat → Nat) (b : Nat → Nat) (V0 : FT) (V1 : FT) (res : FT) (hf : X1_copyFrom cn0 cn1 V0 V1 = some res) : CT l K.1 vwCl (kT K) yX1_copyFrom wsX1_copyFrom rmX1_copyFrom [.ref (a 0), .ref (b 0)] none (c1 K cn0 a V0 ++ (c1 K cn1 b V1)) (c1 K cn0 a res ++ (c1 K cn1 b V1)) :=
  CT.mk (cc := cX1_copyFrom) (maxL := 3) (ret := none) (by decide) rfl (Nat.le_of_ble_eq_true rfl) (fun p e s m below meth c X hr hlk => X1_copyFrom_go K l cn0 cn1 hcn0 hcn1 a b _ X hr hlk V0 V1 res hf)
theorem iw_X3_add_X3 : ∀ w ∈ u_ws RX3 TX3 3, w ∈ wsX3_add := by decide +kernel
theorem fl_X3_add_15 : Cond.fieldLink RX3 15 (TX3 1).1 (TX3 1).2.1 (TX3 1).2.2.1 ∈ wsX3_add := by decide +kernel
theorem fl_X3_add_9 : Cond.fieldLink RX3 9 (TX3 0).1 (TX3 0).2.1 (TX3 0).2.2.1 ∈ wsX3_add := by decide +kernel
def rmX3_add : Room := { frames := 0, cells := 0, slots := 0, locals := 0 }
def X3_add (V0 : In) (p1 : Int) : Option (Int × In) := brLT V0.2.1 120 (wrK 120 V0.1 V0.2.1 p1 (fun f1 => some (1, (f1, (V0.2.1 + 1), V0.2.2)))) (some (0, V0))
set_option maxHeartbeats 4000000 in
set_option maxRecDepth 100000 in
theorem X3_add_go (K : KE) (l : Launch) (a : Nat → Nat) (WC : va_W) {p : Program} {e : Env} {s : State} {m : MethodId} {args : Array Value} {below : List Frame} {meth : Method} {c : Code} (X : CX p s m args c K.1 vwCl (kT K) (va_A WC s.heap.size) cX3_add 2 wsX3_add RX3) (hr : meth.sig.returnType = (some .boolean)) (hlk : meth.locks = false) (V0 : In) (p1 : Int) (res : Int × In) (hf : X3_add V0 p1 = some res) : GO p l e rmX3_add s m args below meth c K.1 vwCl (va_A WC s.heap.size) (MQ below (QC K.1 vwCl (some (ii res.1)) WC (c3 K a res.2) s.heap.size) args s 0 0 (va_A WC s.heap.size)) 2 0 0 0 [(0, .ref (a 0)), (1, ii p1)] [] (c3 K a V0) := by
  rw [X3_add] at hf
  refine g_aload_n X dX3_add_0 0 rfl rfl ?_
  refine g_get X (v := ii V0.2.1) 0 1 dX3_add_1 rfl rfl iw_X3_add_X3 (by decide) fl_X3_add_15 rfl ?_
  refine g_bipush X dX3_add_4 (by decide +kernel) ?_
  refine g_icmp_lt X hf 11 dX3_add_6 (by decide) (fun hf => ?_) (fun hf => ?_)
  · refine g_aload_n X dX3_add_11 0 rfl rfl ?_
    refine g_get X (v := .ref (a 1)) 0 0 dX3_add_12 rfl rfl iw_X3_add_X3 (by decide) fl_X3_add_9 rfl ?_
    refine g_aload_n X dX3_add_15 0 rfl rfl ?_
    refine g_get X (v := ii V0.2.1) 0 1 dX3_add_16 rfl rfl iw_X3_add_X3 (by decide) fl_X3_add_15 rfl ?_
    refine g_iload_n X dX3_add_19 1 rfl rfl ?_
    refine g_iast X hf (by decide) 1 0 dX3_add_20 rfl rfl (fun f1 => c3 K a (f1, V0.2.1, V0.2.2)) (fun _ => rfl) (fun f1 hf => ?_)
    refine g_aload_n X dX3_add_21 0 rfl rfl ?_
    refine g_dup X dX3_add_22 rfl ?_
    refine g_get X (v := ii V0.2.1) 0 1 dX3_add_23 rfl rfl iw_X3_add_X3 (by decide) fl_X3_add_15 rfl ?_
    refine g_iconst X dX3_add_26 ?_
    refine g_iadd X dX3_add_27 ?_
    refine g_puti X 0 1 dX3_add_28 rfl rfl iw_X3_add_X3 tyX3_ok nmX3 (by decide) fl_X3_add_15 rfl rfl (Nat.le_of_ble_eq_true rfl) (ws' := c3 K a (f1, (V0.2.1 + 1), V0.2.2)) rfl ?_
    refine g_iconst X dX3_add_31 ?_
    cases hf
    exact g_zret X (Or.inr rfl) hr hlk dX3_add_32
  · refine g_iconst X dX3_add_9 ?_
    cases hf
    exact g_zret X (Or.inl rfl) hr hlk dX3_add_10
set_option maxHeartbeats 4000000 in
set_option maxRecDepth 100000 in
theorem X3_add_ok (K : KE) (l : Launch) (a : Nat → Nat) (V0 : In) (p1 : Int) (res : Int × In) (hf : X3_add V0 p1 = some res) : CT l K.1 vwCl (kT K) yX3_add wsX3_add rmX3_add [.ref (a 0), ii p1] (some (ii res.1)) (c3 K a V0) (c3 K a res.2) :=
  CT.mk (cc := cX3_add) (maxL := 2) (ret := (some .boolean)) (by decide) rfl (Nat.le_of_ble_eq_true rfl) (fun p e s m below meth c X hr hlk => X3_add_go K l a _ X hr hlk V0 p1 res hf)
theorem iw_X3_digitFollows_X3 : ∀ w ∈ u_ws RX3 TX3 3, w ∈ wsX3_digitFollows := by decide +kernel
theorem fl_X3_digitFollows_19 : Cond.fieldLink RX3 19 (TX3 2).1 (TX3 2).2.1 (TX3 2).2.2.1 ∈ wsX3_digitFollows := by decide +kernel
theorem fl_X3_digitFollows_15 : Cond.fieldLink RX3 15 (TX3 1).1 (TX3 1).2.1 (TX3 1).2.2.1 ∈ wsX3_digitFollows := by decide +kernel
theorem fl_X3_digitFollows_9 : Cond.fieldLink RX3 9 (TX3 0).1 (TX3 0).2.1 (TX3 0).2.2.1 ∈ wsX3_digitFollows := by decide +kernel
theorem ne_X3_digitFollows_31 : (RX3, 31, yX9_within) ∈ nestL := by decide +kernel
theorem wd_X3_digitFollows_ini9 : Cond.initialized yX9_within.cls ∈ wsX3_digitFollows := by decide +kernel
theorem wd_X3_digitFollows_sta_X9_within : Cond.static yX9_within ∈ wsX3_digitFollows := by decide +kernel
def rmX3_digitFollows : Room := { frames := 1, cells := 0, slots := 0, locals := 22 }
def X3_digitFollows (V0 : In) : Option (Int) := brLT V0.2.2 V0.2.1 (rdK 120 V0.1 V0.2.2 (fun v1 => (X9_within v1 48 57).bind (fun v2 => brEQ v2 0 (some 0) (some 1)))) (some 0)
set_option maxHeartbeats 4000000 in
set_option maxRecDepth 100000 in
theorem X3_digitFollows_go (K : KE) (l : Launch) (a : Nat → Nat) (WC : va_W) {p : Program} {e : Env} {s : State} {m : MethodId} {args : Array Value} {below : List Frame} {meth : Method} {c : Code} (X : CX p s m args c K.1 vwCl (kT K) (va_A WC s.heap.size) cX3_digitFollows 1 wsX3_digitFollows RX3) (hr : meth.sig.returnType = (some .boolean)) (hlk : meth.locks = false) (V0 : In) (res : Int) (hf : X3_digitFollows V0 = some res) : GO p l e rmX3_digitFollows s m args below meth c K.1 vwCl (va_A WC s.heap.size) (MQ below (QC K.1 vwCl (some (ii res)) WC (c3 K a V0) s.heap.size) args s 0 0 (va_A WC s.heap.size)) 1 0 0 0 [(0, .ref (a 0))] [] (c3 K a V0) := by
  rw [X3_digitFollows] at hf
  refine g_aload_n X dX3_digitFollows_0 0 rfl rfl ?_
  refine g_get X (v := ii V0.2.2) 0 2 dX3_digitFollows_1 rfl rfl iw_X3_digitFollows_X3 (by decide) fl_X3_digitFollows_19 rfl ?_
  refine g_aload_n X dX3_digitFollows_4 0 rfl rfl ?_
  refine g_get X (v := ii V0.2.1) 0 1 dX3_digitFollows_5 rfl rfl iw_X3_digitFollows_X3 (by decide) fl_X3_digitFollows_15 rfl ?_
  refine g_icmp_ge X hf 34 dX3_digitFollows_8 (by decide) (fun hf => ?_) (fun hf => ?_)
  · refine g_aload_n X dX3_digitFollows_11 0 rfl rfl ?_
    refine g_get X (v := .ref (a 1)) 0 0 dX3_digitFollows_12 rfl rfl iw_X3_digitFollows_X3 (by decide) fl_X3_digitFollows_9 rfl ?_
    refine g_aload_n X dX3_digitFollows_15 0 rfl rfl ?_
    refine g_get X (v := ii V0.2.2) 0 2 dX3_digitFollows_16 rfl rfl iw_X3_digitFollows_X3 (by decide) fl_X3_digitFollows_19 rfl ?_
    refine g_iald X hf (by decide) 1 0 dX3_digitFollows_19 rfl rfl (fun v1 hf => ?_)
    refine g_bipush X dX3_digitFollows_20 (by decide +kernel) ?_
    refine g_bipush X dX3_digitFollows_22 (by decide +kernel) ?_
    obtain ⟨v2, hc3, hf⟩ := Option.bind_eq_some_iff.mp hf
    refine g_callSN X (As := [ii v1, ii 48, ii 57]) (st := []) (st1 := [ii v2]) (ws' := c3 K a V0) (X9_within_ok K l v1 48 57 v2 hc3) ggX3_digitFollows_X9_within ne_X3_digitFollows_31 wd_X3_digitFollows_ini9 wd_X3_digitFollows_sta_X9_within rfl 3 (by decide +kernel) ⟨rfl, rfl⟩ ⟨Nat.le_of_ble_eq_true rfl, Nat.le_of_ble_eq_true rfl⟩ ⟨Nat.zero_le _, Nat.zero_le _⟩ rfl rfl (Nat.le_of_ble_eq_true rfl) dX3_digitFollows_24 SG.none rfl ?_
    refine g_if_eq X hf 34 dX3_digitFollows_27 (by decide) (fun hf => ?_) (fun hf => ?_)
    · refine g_iconst X dX3_digitFollows_34 ?_
      cases hf
      exact g_zret X (Or.inl rfl) hr hlk dX3_digitFollows_35
    · refine g_iconst X dX3_digitFollows_30 ?_
      refine g_goto X 35 dX3_digitFollows_31 (by decide) ?_
      cases hf
      exact g_zret X (Or.inr rfl) hr hlk dX3_digitFollows_35
  · refine g_iconst X dX3_digitFollows_34 ?_
    cases hf
    exact g_zret X (Or.inl rfl) hr hlk dX3_digitFollows_35
set_option maxHeartbeats 4000000 in
set_option maxRecDepth 100000 in
theorem X3_digitFollows_ok (K : KE) (l : Launch) (a : Nat → Nat) (V0 : In) (res : Int) (hf : X3_digitFollows V0 = some res) : CT l K.1 vwCl (kT K) yX3_digitFollows wsX3_digitFollows rmX3_digitFollows [.ref (a 0)] (some (ii res)) (c3 K a V0) (c3 K a V0) :=
  CT.mk (cc := cX3_digitFollows) (maxL := 1) (ret := (some .boolean)) (by decide) rfl (Nat.le_of_ble_eq_true rfl) (fun p e s m below meth c X hr hlk => X3_digitFollows_go K l a _ X hr hlk V0 res hf)
theorem iw_X6_add_X6 : ∀ w ∈ u_ws RX6 TX6 4, w ∈ wsX6_add := by decide +kernel
theorem fl_X6_add_9 : Cond.fieldLink RX6 9 (TX6 0).1 (TX6 0).2.1 (TX6 0).2.2.1 ∈ wsX6_add := by decide +kernel
theorem fl_X6_add_15 : Cond.fieldLink RX6 15 (TX6 1).1 (TX6 1).2.1 (TX6 1).2.2.1 ∈ wsX6_add := by decide +kernel
theorem fl_X6_add_19 : Cond.fieldLink RX6 19 (TX6 2).1 (TX6 2).2.1 (TX6 2).2.2.1 ∈ wsX6_add := by decide +kernel
theorem fl_X6_add_22 : Cond.fieldLink RX6 22 (TX6 3).1 (TX6 3).2.1 (TX6 3).2.2.1 ∈ wsX6_add := by decide +kernel
def rmX6_add : Room := { frames := 0, cells := 0, slots := 0, locals := 0 }
def X6_add (V0 : Pg) (p1 : Int) (p2 : Int) (p3 : Int) : Option (Int × Pg) := brLT V0.1 30 (wrK 30 V0.2.1 V0.1 p1 (fun f1 => wrK 30 V0.2.2.1 V0.1 p2 (fun f2 => wrK 30 V0.2.2.2 V0.1 p3 (fun f3 => some (1, ((V0.1 + 1), f1, f2, f3)))))) (some (0, V0))
set_option maxHeartbeats 4000000 in
set_option maxRecDepth 100000 in
theorem X6_add_go (K : KE) (l : Launch) (a : Nat → Nat) (WC : va_W) {p : Program} {e : Env} {s : State} {m : MethodId} {args : Array Value} {below : List Frame} {meth : Method} {c : Code} (X : CX p s m args c K.1 vwCl (kT K) (va_A WC s.heap.size) cX6_add 4 wsX6_add RX6) (hr : meth.sig.returnType = (some .boolean)) (hlk : meth.locks = false) (V0 : Pg) (p1 : Int) (p2 : Int) (p3 : Int) (res : Int × Pg) (hf : X6_add V0 p1 p2 p3 = some res) : GO p l e rmX6_add s m args below meth c K.1 vwCl (va_A WC s.heap.size) (MQ below (QC K.1 vwCl (some (ii res.1)) WC (c6 K a res.2) s.heap.size) args s 0 0 (va_A WC s.heap.size)) 4 0 0 0 [(0, .ref (a 0)), (1, ii p1), (2, ii p2), (3, ii p3)] [] (c6 K a V0) := by
  rw [X6_add] at hf
  refine g_aload_n X dX6_add_0 0 rfl rfl ?_
  refine g_get X (v := ii V0.1) 0 0 dX6_add_1 rfl rfl iw_X6_add_X6 (by decide) fl_X6_add_9 rfl ?_
  refine g_bipush X dX6_add_4 (by decide +kernel) ?_
  refine g_icmp_lt X hf 11 dX6_add_6 (by decide) (fun hf => ?_) (fun hf => ?_)
  · refine g_aload_n X dX6_add_11 0 rfl rfl ?_
    refine g_get X (v := .ref (a 1)) 0 1 dX6_add_12 rfl rfl iw_X6_add_X6 (by decide) fl_X6_add_15 rfl ?_
    refine g_aload_n X dX6_add_15 0 rfl rfl ?_
    refine g_get X (v := ii V0.1) 0 0 dX6_add_16 rfl rfl iw_X6_add_X6 (by decide) fl_X6_add_9 rfl ?_
    refine g_iload_n X dX6_add_19 1 rfl rfl ?_
    refine g_iast X hf (by decide) 1 0 dX6_add_20 rfl rfl (fun f1 => c6 K a (V0.1, f1, V0.2.2.1, V0.2.2.2)) (fun _ => rfl) (fun f1 hf => ?_)
    refine g_aload_n X dX6_add_21 0 rfl rfl ?_
    refine g_get X (v := .ref (a 2)) 0 2 dX6_add_22 rfl rfl iw_X6_add_X6 (by decide) fl_X6_add_19 rfl ?_
    refine g_aload_n X dX6_add_25 0 rfl rfl ?_
    refine g_get X (v := ii V0.1) 0 0 dX6_add_26 rfl rfl iw_X6_add_X6 (by decide) fl_X6_add_9 rfl ?_
    refine g_iload_n X dX6_add_29 2 rfl rfl ?_
    refine g_iast X hf (by decide) 2 0 dX6_add_30 rfl rfl (fun f2 => c6 K a (V0.1, f1, f2, V0.2.2.2)) (fun _ => rfl) (fun f2 hf => ?_)
    refine g_aload_n X dX6_add_31 0 rfl rfl ?_
    refine g_get X (v := .ref (a 3)) 0 3 dX6_add_32 rfl rfl iw_X6_add_X6 (by decide) fl_X6_add_22 rfl ?_
    refine g_aload_n X dX6_add_35 0 rfl rfl ?_
    refine g_get X (v := ii V0.1) 0 0 dX6_add_36 rfl rfl iw_X6_add_X6 (by decide) fl_X6_add_9 rfl ?_
    refine g_iload_n X dX6_add_39 3 rfl rfl ?_
    refine g_iast X hf (by decide) 3 0 dX6_add_40 rfl rfl (fun f3 => c6 K a (V0.1, f1, f2, f3)) (fun _ => rfl) (fun f3 hf => ?_)
    refine g_aload_n X dX6_add_41 0 rfl rfl ?_
    refine g_dup X dX6_add_42 rfl ?_
    refine g_get X (v := ii V0.1) 0 0 dX6_add_43 rfl rfl iw_X6_add_X6 (by decide) fl_X6_add_9 rfl ?_
    refine g_iconst X dX6_add_46 ?_
    refine g_iadd X dX6_add_47 ?_
    refine g_puti X 0 0 dX6_add_48 rfl rfl iw_X6_add_X6 tyX6_ok nmX6 (by decide) fl_X6_add_9 rfl rfl (Nat.le_of_ble_eq_true rfl) (ws' := c6 K a ((V0.1 + 1), f1, f2, f3)) rfl ?_
    refine g_iconst X dX6_add_51 ?_
    cases hf
    exact g_zret X (Or.inr rfl) hr hlk dX6_add_52
  · refine g_iconst X dX6_add_9 ?_
    cases hf
    exact g_zret X (Or.inl rfl) hr hlk dX6_add_10
set_option maxHeartbeats 4000000 in
set_option maxRecDepth 100000 in
theorem X6_add_ok (K : KE) (l : Launch) (a : Nat → Nat) (V0 : Pg) (p1 : Int) (p2 : Int) (p3 : Int) (res : Int × Pg) (hf : X6_add V0 p1 p2 p3 = some res) : CT l K.1 vwCl (kT K) yX6_add wsX6_add rmX6_add [.ref (a 0), ii p1, ii p2, ii p3] (some (ii res.1)) (c6 K a V0) (c6 K a res.2) :=
  CT.mk (cc := cX6_add) (maxL := 4) (ret := (some .boolean)) (by decide) rfl (Nat.le_of_ble_eq_true rfl) (fun p e s m below meth c X hr hlk => X6_add_go K l a _ X hr hlk V0 p1 p2 p3 res hf)
theorem iw_X3_readNumber_X3 : ∀ w ∈ u_ws RX3 TX3 3, w ∈ wsX3_readNumber := by decide +kernel
theorem fl_X3_readNumber_9 : Cond.fieldLink RX3 9 (TX3 0).1 (TX3 0).2.1 (TX3 0).2.2.1 ∈ wsX3_readNumber := by decide +kernel
theorem fl_X3_readNumber_19 : Cond.fieldLink RX3 19 (TX3 2).1 (TX3 2).2.1 (TX3 2).2.2.1 ∈ wsX3_readNumber := by decide +kernel
def rmX3_readNumber : Room := { frames := 2, cells := 0, slots := 0, locals := 42 }
def X3_readNumber_L4 (kx : Int → In → Option (Int × In × Pg)) (V1 : Pg) : Nat → Int → Int → In → Option (Int × In × Pg)
  | 0, _, _, _ => none
  | n + 1, y2, y3, V0 => brLT y3 2 ((X3_digitFollows V0).bind (fun v1 => brEQ v1 0 (kx y2 V0) (rdK 120 V0.1 V0.2.2 (fun v3 => X3_readNumber_L4 kx V1 n (((y2 * 10) + v3) - 48) (y3 + 1) (V0.1, V0.2.1, (V0.2.2 + 1)))))) (kx y2 V0)
def X3_readNumber (V0 : In) (V1 : Pg) : Option (Int × In × Pg) := X3_readNumber_L4 (fun w4 w5 => (X6_add V1 0 w4 0).bind (fun w6 => boK w6.1 (some (w6.1, w5, w6.2)))) V1 FU 0 0 V0
set_option maxHeartbeats 4000000 in
set_option maxRecDepth 100000 in
theorem X3_readNumber_L4_ok (K : KE) (l : Launch) (a : Nat → Nat) (b : Nat → Nat) (WC : va_W) {p : Program} {e : Env} {s : State} {m : MethodId} {args : Array Value} {below : List Frame} {meth : Method} {c : Code} (X : CX p s m args c K.1 vwCl (kT K) (va_A WC s.heap.size) cX3_readNumber 4 wsX3_readNumber RX3) (hr : meth.sig.returnType = (some .boolean)) (hlk : meth.locks = false) (V1 : Pg)  (res : Int × In × Pg) {kx : Int → In → Option (Int × In × Pg)} : ∀ (n : Nat) (y2 : Int) (y3 : Int) (V0 : In), X3_readNumber_L4 kx V1 n y2 y3 V0 = some res → (∀ (z2 : Int) (V0z : In), kx z2 V0z = some res → GO p l e rmX3_readNumber s m args below meth c K.1 vwCl (va_A WC s.heap.size) (MQ below (QC K.1 vwCl (some (ii res.1)) WC (c3 K a res.2.1 ++ (c6 K b res.2.2)) s.heap.size) args s 0 0 (va_A WC s.heap.size)) 4 0 0 50 [(1, .ref (b 0)), (2, ii z2)] [] (c3 K a V0z ++ (c6 K b V1))) → GO p l e rmX3_readNumber s m args below meth c K.1 vwCl (va_A WC s.heap.size) (MQ below (QC K.1 vwCl (some (ii res.1)) WC (c3 K a res.2.1 ++ (c6 K b res.2.2)) s.heap.size) args s 0 0 (va_A WC s.heap.size)) 4 0 0 4 [(0, .ref (a 0)), (1, .ref (b 0)), (2, ii y2), (3, ii y3)] [] (c3 K a V0 ++ (c6 K b V1)) := by
  intro n
  induction n with
  | zero =>
    intro y2 y3 V0 hf _
    rw [X3_readNumber_L4] at hf
    cases hf
  | succ n ih =>
    intro y2 y3 V0 hf hk
    rw [X3_readNumber_L4] at hf
    refine g_iload_n X dX3_readNumber_4 3 rfl rfl ?_
    refine g_iconst X dX3_readNumber_5 ?_
    refine g_icmp_ge X hf 50 dX3_readNumber_6 (by decide) (fun hf => ?_) (fun hf => ?_)
    · refine g_aload_n X dX3_readNumber_9 0 rfl rfl ?_
      obtain ⟨v1, hc2, hf⟩ := Option.bind_eq_some_iff.mp hf
      refine g_callV X (As := []) (st := []) (st1 := [ii v1]) (ws' := c3 K a V0 ++ (c6 K b V1)) (X3_digitFollows_ok K l a V0 v1 hc2) gX3_readNumber_X3_digitFollows rfl 0 (by decide +kernel) ⟨rfl, rfl⟩ ⟨Nat.le_of_ble_eq_true rfl, Nat.le_of_ble_eq_true rfl⟩ ⟨Nat.zero_le _, Nat.zero_le _⟩ 0 rfl rfl rfl rfl (Nat.le_of_ble_eq_true rfl) dX3_readNumber_10 (SG.one [] (c6 K b V1) rfl rfl rfl) rfl ?_
      refine g_if_eq X hf 50 dX3_readNumber_13 (by decide) (fun hf => ?_) (fun hf => ?_)
      · refine g_sub (lv' := [(1, .ref (b 0)), (2, ii y2)]) [1, 2] rfl ?_
        exact hk y2 V0 hf
      · refine g_iload_n X dX3_readNumber_16 2 rfl rfl ?_
        refine g_bipush X dX3_readNumber_17 (by decide +kernel) ?_
        refine g_imul X dX3_readNumber_19 ?_
        refine g_aload_n X dX3_readNumber_20 0 rfl rfl ?_
        refine g_get X (v := .ref (a 1)) 0 0 dX3_readNumber_21 rfl rfl iw_X3_readNumber_X3 (by decide) fl_X3_readNumber_9 rfl ?_
        refine g_aload_n X dX3_readNumber_24 0 rfl rfl ?_
        refine g_get X (v := ii V0.2.2) 0 2 dX3_readNumber_25 rfl rfl iw_X3_readNumber_X3 (by decide) fl_X3_readNumber_19 rfl ?_
        refine g_iald X hf (by decide) 1 0 dX3_readNumber_28 rfl rfl (fun v3 hf => ?_)
        refine g_iadd X dX3_readNumber_29 ?_
        refine g_bipush X dX3_readNumber_30 (by decide +kernel) ?_
        refine g_isub X dX3_readNumber_32 ?_
        refine g_istore_n X (lv' := [(2, ii (((y2 * 10) + v3) - 48)), (0, .ref (a 0)), (1, .ref (b 0)), (3, ii y3)]) dX3_readNumber_33 rfl (by decide) rfl ?_
        refine g_aload_n X dX3_readNumber_34 1 rfl rfl ?_
        refine g_dup X dX3_readNumber_35 rfl ?_
        refine g_get X (v := ii V0.2.2) 0 2 dX3_readNumber_36 rfl rfl iw_X3_readNumber_X3 (by decide) fl_X3_readNumber_19 rfl ?_
        refine g_iconst X dX3_readNumber_39 ?_
        refine g_iadd X dX3_readNumber_40 ?_
        refine g_puti X 0 2 dX3_readNumber_41 rfl rfl iw_X3_readNumber_X3 tyX3_ok nmX3 (by decide) fl_X3_readNumber_19 rfl rfl (Nat.le_of_ble_eq_true rfl) (ws' := c3 K a (V0.1, V0.2.1, (V0.2.2 + 1)) ++ (c6 K b V1)) rfl ?_
        refine g_iinc X (lv' := [(3, ii (y3 + 1)), (2, ii (((y2 * 10) + v3) - 48)), (0, .ref (a 0)), (1, .ref (b 0))]) dX3_readNumber_44 3 rfl (by decide) rfl ?_
        refine g_goto X 4 dX3_readNumber_47 (by decide) ?_
        refine g_sub (lv' := [(0, .ref (a 0)), (1, .ref (b 0)), (2, ii (((y2 * 10) + v3) - 48)), (3, ii (y3 + 1))]) [2, 3, 1, 0] rfl ?_
        exact ih (((y2 * 10) + v3) - 48) (y3 + 1) (V0.1, V0.2.1, (V0.2.2 + 1)) hf hk
    · refine g_sub (lv' := [(1, .ref (b 0)), (2, ii y2)]) [1, 2] rfl ?_
      exact hk y2 V0 hf
set_option maxHeartbeats 4000000 in
set_option maxRecDepth 100000 in
theorem X3_readNumber_go (K : KE) (l : Launch) (a : Nat → Nat) (b : Nat → Nat) (WC : va_W) {p : Program} {e : Env} {s : State} {m : MethodId} {args : Array Value} {below : List Frame} {meth : Method} {c : Code} (X : CX p s m args c K.1 vwCl (kT K) (va_A WC s.heap.size) cX3_readNumber 4 wsX3_readNumber RX3) (hr : meth.sig.returnType = (some .boolean)) (hlk : meth.locks = false) (V0 : In) (V1 : Pg) (res : Int × In × Pg) (hf : X3_readNumber V0 V1 = some res) : GO p l e rmX3_readNumber s m args below meth c K.1 vwCl (va_A WC s.heap.size) (MQ below (QC K.1 vwCl (some (ii res.1)) WC (c3 K a res.2.1 ++ (c6 K b res.2.2)) s.heap.size) args s 0 0 (va_A WC s.heap.size)) 4 0 0 0 [(0, .ref (a 0)), (1, .ref (b 0))] [] (c3 K a V0 ++ (c6 K b V1)) := by
  rw [X3_readNumber] at hf
  refine g_iconst X dX3_readNumber_0 ?_
  refine g_istore_n X (lv' := [(2, ii 0), (0, .ref (a 0)), (1, .ref (b 0))]) dX3_readNumber_1 rfl (by decide) rfl ?_
  refine g_iconst X dX3_readNumber_2 ?_
  refine g_istore_n X (lv' := [(3, ii 0), (2, ii 0), (0, .ref (a 0)), (1, .ref (b 0))]) dX3_readNumber_3 rfl (by decide) rfl ?_
  refine g_sub (lv' := [(0, .ref (a 0)), (1, .ref (b 0)), (2, ii 0), (3, ii 0)]) [2, 3, 1, 0] rfl ?_
  refine X3_readNumber_L4_ok K l a b WC X hr hlk V1 res FU 0 0 V0 hf (fun w4 w5 hf => ?_)
  refine g_aload_n X dX3_readNumber_50 0 rfl rfl ?_
  refine g_iconst X dX3_readNumber_51 ?_
  refine g_iload_n X dX3_readNumber_52 1 rfl rfl ?_
  refine g_iconst X dX3_readNumber_53 ?_
  obtain ⟨w6, hc7, hf⟩ := Option.bind_eq_some_iff.mp hf
  refine g_callV X (As := [ii 0, ii w4, ii 0]) (st := []) (st1 := [ii w6.1]) (ws' := c3 K a w5 ++ (c6 K b w6.2)) (X6_add_ok K l b V1 0 w4 0 w6 hc7) gX3_readNumber_X6_add rfl 3 (by decide +kernel) ⟨rfl, rfl⟩ ⟨Nat.le_of_ble_eq_true rfl, Nat.le_of_ble_eq_true rfl⟩ ⟨Nat.zero_le _, Nat.zero_le _⟩ 2 rfl rfl rfl rfl (Nat.le_of_ble_eq_true rfl) dX3_readNumber_54 (SG.one (c3 K a w5) [] rfl rfl rfl) rfl ?_
  obtain ⟨hb8, hf⟩ := boK_some hf
  cases hf
  exact g_zret X hb8 hr hlk dX3_readNumber_57
set_option maxHeartbeats 4000000 in
set_option maxRecDepth 100000 in
theorem X3_readNumber_ok (K : KE) (l : Launch) (a : Nat → Nat) (b : Nat → Nat) (V0 : In) (V1 : Pg) (res : Int × In × Pg) (hf : X3_readNumber V0 V1 = some res) : CT l K.1 vwCl (kT K) yX3_readNumber wsX3_readNumber rmX3_readNumber [.ref (a 0), .ref (b 0)] (some (ii res.1)) (c3 K a V0 ++ (c6 K b V1)) (c3 K a res.2.1 ++ (c6 K b res.2.2)) :=
  CT.mk (cc := cX3_readNumber) (maxL := 4) (ret := (some .boolean)) (by decide) rfl (Nat.le_of_ble_eq_true rfl) (fun p e s m below meth c X hr hlk => X3_readNumber_go K l a b _ X hr hlk V0 V1 res hf)
theorem iw_X3_take_X3 : ∀ w ∈ u_ws RX3 TX3 3, w ∈ wsX3_take := by decide +kernel
theorem fl_X3_take_19 : Cond.fieldLink RX3 19 (TX3 2).1 (TX3 2).2.1 (TX3 2).2.2.1 ∈ wsX3_take := by decide +kernel
theorem fl_X3_take_15 : Cond.fieldLink RX3 15 (TX3 1).1 (TX3 1).2.1 (TX3 1).2.2.1 ∈ wsX3_take := by decide +kernel
theorem fl_X3_take_9 : Cond.fieldLink RX3 9 (TX3 0).1 (TX3 0).2.1 (TX3 0).2.2.1 ∈ wsX3_take := by decide +kernel
def rmX3_take : Room := { frames := 0, cells := 0, slots := 0, locals := 0 }
def X3_take (V0 : In) (p1 : Int) : Option (Int × In) := brLT V0.2.2 V0.2.1 (rdK 120 V0.1 V0.2.2 (fun v1 => brEQ v1 p1 (some (1, (V0.1, V0.2.1, (V0.2.2 + 1)))) (some (0, V0)))) (some (0, V0))
set_option maxHeartbeats 4000000 in
set_option maxRecDepth 100000 in
theorem X3_take_go (K : KE) (l : Launch) (a : Nat → Nat) (WC : va_W) {p : Program} {e : Env} {s : State} {m : MethodId} {args : Array Value} {below : List Frame} {meth : Method} {c : Code} (X : CX p s m args c K.1 vwCl (kT K) (va_A WC s.heap.size) cX3_take 2 wsX3_take RX3) (hr : meth.sig.returnType = (some .boolean)) (hlk : meth.locks = false) (V0 : In) (p1 : Int) (res : Int × In) (hf : X3_take V0 p1 = some res) : GO p l e rmX3_take s m args below meth c K.1 vwCl (va_A WC s.heap.size) (MQ below (QC K.1 vwCl (some (ii res.1)) WC (c3 K a res.2) s.heap.size) args s 0 0 (va_A WC s.heap.size)) 2 0 0 0 [(0, .ref (a 0)), (1, ii p1)] [] (c3 K a V0) := by
  rw [X3_take] at hf
  refine g_aload_n X dX3_take_0 0 rfl rfl ?_
  refine g_get X (v := ii V0.2.2) 0 2 dX3_take_1 rfl rfl iw_X3_take_X3 (by decide) fl_X3_take_19 rfl ?_
  refine g_aload_n X dX3_take_4 0 rfl rfl ?_
  refine g_get X (v := ii V0.2.1) 0 1 dX3_take_5 rfl rfl iw_X3_take_X3 (by decide) fl_X3_take_15 rfl ?_
  refine g_icmp_ge X hf 24 dX3_take_8 (by decide) (fun hf => ?_) (fun hf => ?_)
  · refine g_aload_n X dX3_take_11 0 rfl rfl ?_
    refine g_get X (v := .ref (a 1)) 0 0 dX3_take_12 rfl rfl iw_X3_take_X3 (by decide) fl_X3_take_9 rfl ?_
    refine g_aload_n X dX3_take_15 0 rfl rfl ?_
    refine g_get X (v := ii V0.2.2) 0 2 dX3_take_16 rfl rfl iw_X3_take_X3 (by decide) fl_X3_take_19 rfl ?_
    refine g_iald X hf (by decide) 1 0 dX3_take_19 rfl rfl (fun v1 hf => ?_)
    refine g_iload_n X dX3_take_20 1 rfl rfl ?_
    refine g_icmp_eq X hf 26 dX3_take_21 (by decide) (fun hf => ?_) (fun hf => ?_)
    · refine g_aload_n X dX3_take_26 0 rfl rfl ?_
      refine g_dup X dX3_take_27 rfl ?_
      refine g_get X (v := ii V0.2.2) 0 2 dX3_take_28 rfl rfl iw_X3_take_X3 (by decide) fl_X3_take_19 rfl ?_
      refine g_iconst X dX3_take_31 ?_
      refine g_iadd X dX3_take_32 ?_
      refine g_puti X 0 2 dX3_take_33 rfl rfl iw_X3_take_X3 tyX3_ok nmX3 (by decide) fl_X3_take_19 rfl rfl (Nat.le_of_ble_eq_true rfl) (ws' := c3 K a (V0.1, V0.2.1, (V0.2.2 + 1))) rfl ?_
      refine g_iconst X dX3_take_36 ?_
      cases hf
      exact g_zret X (Or.inr rfl) hr hlk dX3_take_37
    · refine g_iconst X dX3_take_24 ?_
      cases hf
      exact g_zret X (Or.inl rfl) hr hlk dX3_take_25
  · refine g_iconst X dX3_take_24 ?_
    cases hf
    exact g_zret X (Or.inl rfl) hr hlk dX3_take_25
set_option maxHeartbeats 4000000 in
set_option maxRecDepth 100000 in
theorem X3_take_ok (K : KE) (l : Launch) (a : Nat → Nat) (V0 : In) (p1 : Int) (res : Int × In) (hf : X3_take V0 p1 = some res) : CT l K.1 vwCl (kT K) yX3_take wsX3_take rmX3_take [.ref (a 0), ii p1] (some (ii res.1)) (c3 K a V0) (c3 K a res.2) :=
  CT.mk (cc := cX3_take) (maxL := 2) (ret := (some .boolean)) (by decide) rfl (Nat.le_of_ble_eq_true rfl) (fun p e s m below meth c X hr hlk => X3_take_go K l a _ X hr hlk V0 p1 res hf)
theorem ne_X4_targetOf_27 : (RX4, 27, yX9_within) ∈ nestL := by decide +kernel
theorem wd_X4_targetOf_ini9 : Cond.initialized yX9_within.cls ∈ wsX4_targetOf := by decide +kernel
theorem wd_X4_targetOf_sta_X9_within : Cond.static yX9_within ∈ wsX4_targetOf := by decide +kernel
theorem iw_X4_targetOf_X4 : ∀ w ∈ u_ws RX4 TX4 3, w ∈ wsX4_targetOf := by decide +kernel
theorem fl_X4_targetOf_9 : Cond.fieldLink RX4 9 (TX4 0).1 (TX4 0).2.1 (TX4 0).2.2.1 ∈ wsX4_targetOf := by decide +kernel
def rmX4_targetOf : Room := { frames := 1, cells := 0, slots := 0, locals := 22 }
def X4_targetOf (V0 : Mp) (p1 : Int) : Option (Int) := (X9_within p1 0 5).bind (fun v1 => brEQ v1 0 (some (-1)) (rdK 6 V0.1 p1 (fun v3 => some v3)))
set_option maxHeartbeats 4000000 in
set_option maxRecDepth 100000 in
theorem X4_targetOf_go (K : KE) (l : Launch) (a : Nat → Nat) (WC : va_W) {p : Program} {e : Env} {s : State} {m : MethodId} {args : Array Value} {below : List Frame} {meth : Method} {c : Code} (X : CX p s m args c K.1 vwCl (kT K) (va_A WC s.heap.size) cX4_targetOf 2 wsX4_targetOf RX4) (hr : meth.sig.returnType = (some .int)) (hlk : meth.locks = false) (V0 : Mp) (p1 : Int) (res : Int) (hf : X4_targetOf V0 p1 = some res) : GO p l e rmX4_targetOf s m args below meth c K.1 vwCl (va_A WC s.heap.size) (MQ below (QC K.1 vwCl (some (ii res)) WC (c4 K a V0) s.heap.size) args s 0 0 (va_A WC s.heap.size)) 2 0 0 0 [(0, .ref (a 0)), (1, ii p1)] [] (c4 K a V0) := by
  rw [X4_targetOf] at hf
  refine g_iload_n X dX4_targetOf_0 1 rfl rfl ?_
  refine g_iconst X dX4_targetOf_1 ?_
  refine g_iconst X dX4_targetOf_2 ?_
  obtain ⟨v1, hc2, hf⟩ := Option.bind_eq_some_iff.mp hf
  refine g_callSN X (As := [ii p1, ii 0, ii 5]) (st := []) (st1 := [ii v1]) (ws' := c4 K a V0) (X9_within_ok K l p1 0 5 v1 hc2) ggX4_targetOf_X9_within ne_X4_targetOf_27 wd_X4_targetOf_ini9 wd_X4_targetOf_sta_X9_within rfl 3 (by decide +kernel) ⟨rfl, rfl⟩ ⟨Nat.le_of_ble_eq_true rfl, Nat.le_of_ble_eq_true rfl⟩ ⟨Nat.zero_le _, Nat.zero_le _⟩ rfl rfl (Nat.le_of_ble_eq_true rfl) dX4_targetOf_3 SG.none rfl ?_
  refine g_if_eq X hf 18 dX4_targetOf_6 (by decide) (fun hf => ?_) (fun hf => ?_)
  · refine g_iconst X dX4_targetOf_18 ?_
    cases hf
    exact g_iret X hr hlk dX4_targetOf_19
  · refine g_aload_n X dX4_targetOf_9 0 rfl rfl ?_
    refine g_get X (v := .ref (a 1)) 0 0 dX4_targetOf_10 rfl rfl iw_X4_targetOf_X4 (by decide) fl_X4_targetOf_9 rfl ?_
    refine g_iload_n X dX4_targetOf_13 1 rfl rfl ?_
    refine g_iald X hf (by decide) 1 0 dX4_targetOf_14 rfl rfl (fun v3 hf => ?_)
    refine g_goto X 19 dX4_targetOf_15 (by decide) ?_
    cases hf
    exact g_iret X hr hlk dX4_targetOf_19
set_option maxHeartbeats 4000000 in
set_option maxRecDepth 100000 in
theorem X4_targetOf_ok (K : KE) (l : Launch) (a : Nat → Nat) (V0 : Mp) (p1 : Int) (res : Int) (hf : X4_targetOf V0 p1 = some res) : CT l K.1 vwCl (kT K) yX4_targetOf wsX4_targetOf rmX4_targetOf [.ref (a 0), ii p1] (some (ii res)) (c4 K a V0) (c4 K a V0) :=
  CT.mk (cc := cX4_targetOf) (maxL := 2) (ret := (some .int)) (by decide) rfl (Nat.le_of_ble_eq_true rfl) (fun p e s m below meth c X hr hlk => X4_targetOf_go K l a _ X hr hlk V0 p1 res hf)
theorem ne_X4_putTarget_27 : (RX4, 27, yX9_within) ∈ nestL := by decide +kernel
theorem wd_X4_putTarget_ini9 : Cond.initialized yX9_within.cls ∈ wsX4_putTarget := by decide +kernel
theorem wd_X4_putTarget_sta_X9_within : Cond.static yX9_within ∈ wsX4_putTarget := by decide +kernel
theorem iw_X4_putTarget_X4 : ∀ w ∈ u_ws RX4 TX4 3, w ∈ wsX4_putTarget := by decide +kernel
theorem fl_X4_putTarget_9 : Cond.fieldLink RX4 9 (TX4 0).1 (TX4 0).2.1 (TX4 0).2.2.1 ∈ wsX4_putTarget := by decide +kernel
def rmX4_putTarget : Room := { frames := 1, cells := 0, slots := 0, locals := 22 }
def X4_putTarget (V0 : Mp) (p1 : Int) (p2 : Int) : Option (Mp) := (X9_within p1 0 5).bind (fun v1 => brEQ v1 0 (some V0) (wrK 6 V0.1 p1 p2 (fun f3 => some (f3, V0.2.1, V0.2.2))))
set_option maxHeartbeats 4000000 in
set_option maxRecDepth 100000 in
theorem X4_putTarget_go (K : KE) (l : Launch) (a : Nat → Nat) (WC : va_W) {p : Program} {e : Env} {s : State} {m : MethodId} {args : Array Value} {below : List Frame} {meth : Method} {c : Code} (X : CX p s m args c K.1 vwCl (kT K) (va_A WC s.heap.size) cX4_putTarget 3 wsX4_putTarget RX4) (hr : meth.sig.returnType = none) (hlk : meth.locks = false) (V0 : Mp) (p1 : Int) (p2 : Int) (res : Mp) (hf : X4_putTarget V0 p1 p2 = some res) : GO p l e rmX4_putTarget s m args below meth c K.1 vwCl (va_A WC s.heap.size) (MQ below (QC K.1 vwCl none WC (c4 K a res) s.heap.size) args s 0 0 (va_A WC s.heap.size)) 3 0 0 0 [(0, .ref (a 0)), (1, ii p1), (2, ii p2)] [] (c4 K a V0) := by
  rw [X4_putTarget] at hf
  refine g_iload_n X dX4_putTarget_0 1 rfl rfl ?_
  refine g_iconst X dX4_putTarget_1 ?_
  refine g_iconst X dX4_putTarget_2 ?_
  obtain ⟨v1, hc2, hf⟩ := Option.bind_eq_some_iff.mp hf
  refine g_callSN X (As := [ii p1, ii 0, ii 5]) (st := []) (st1 := [ii v1]) (ws' := c4 K a V0) (X9_within_ok K l p1 0 5 v1 hc2) ggX4_putTarget_X9_within ne_X4_putTarget_27 wd_X4_putTarget_ini9 wd_X4_putTarget_sta_X9_within rfl 3 (by decide +kernel) ⟨rfl, rfl⟩ ⟨Nat.le_of_ble_eq_true rfl, Nat.le_of_ble_eq_true rfl⟩ ⟨Nat.zero_le _, Nat.zero_le _⟩ rfl rfl (Nat.le_of_ble_eq_true rfl) dX4_putTarget_3 SG.none rfl ?_
  refine g_if_eq X hf 16 dX4_putTarget_6 (by decide) (fun hf => ?_) (fun hf => ?_)
  · cases hf
    exact g_vret X hr hlk dX4_putTarget_16
  · refine g_aload_n X dX4_putTarget_9 0 rfl rfl ?_
    refine g_get X (v := .ref (a 1)) 0 0 dX4_putTarget_10 rfl rfl iw_X4_putTarget_X4 (by decide) fl_X4_putTarget_9 rfl ?_
    refine g_iload_n X dX4_putTarget_13 1 rfl rfl ?_
    refine g_iload_n X dX4_putTarget_14 2 rfl rfl ?_
    refine g_iast X hf (by decide) 1 0 dX4_putTarget_15 rfl rfl (fun f3 => c4 K a (f3, V0.2.1, V0.2.2)) (fun _ => rfl) (fun f3 hf => ?_)
    cases hf
    exact g_vret X hr hlk dX4_putTarget_16
set_option maxHeartbeats 4000000 in
set_option maxRecDepth 100000 in
theorem X4_putTarget_ok (K : KE) (l : Launch) (a : Nat → Nat) (V0 : Mp) (p1 : Int) (p2 : Int) (res : Mp) (hf : X4_putTarget V0 p1 p2 = some res) : CT l K.1 vwCl (kT K) yX4_putTarget wsX4_putTarget rmX4_putTarget [.ref (a 0), ii p1, ii p2] none (c4 K a V0) (c4 K a res) :=
  CT.mk (cc := cX4_putTarget) (maxL := 3) (ret := none) (by decide) rfl (Nat.le_of_ble_eq_true rfl) (fun p e s m below meth c X hr hlk => X4_putTarget_go K l a _ X hr hlk V0 p1 p2 res hf)
theorem ne_X4_putEntry_27 : (RX4, 27, yX9_within) ∈ nestL := by decide +kernel
theorem wd_X4_putEntry_ini9 : Cond.initialized yX9_within.cls ∈ wsX4_putEntry := by decide +kernel
theorem wd_X4_putEntry_sta_X9_within : Cond.static yX9_within ∈ wsX4_putEntry := by decide +kernel
theorem iw_X4_putEntry_X4 : ∀ w ∈ u_ws RX4 TX4 3, w ∈ wsX4_putEntry := by decide +kernel
theorem fl_X4_putEntry_15 : Cond.fieldLink RX4 15 (TX4 1).1 (TX4 1).2.1 (TX4 1).2.2.1 ∈ wsX4_putEntry := by decide +kernel
theorem fl_X4_putEntry_18 : Cond.fieldLink RX4 18 (TX4 2).1 (TX4 2).2.1 (TX4 2).2.2.1 ∈ wsX4_putEntry := by decide +kernel
def rmX4_putEntry : Room := { frames := 1, cells := 0, slots := 0, locals := 22 }
def X4_putEntry (V0 : Mp) (p1 : Int) (p2 : Int) (p3 : Int) (p4 : Int) : Option (Mp) := (X9_within ((p1 * 4) + p2) 0 23).bind (fun v1 => brEQ v1 0 (some V0) (wrK 24 V0.2.1 ((p1 * 4) + p2) p3 (fun f3 => wrK 24 V0.2.2 ((p1 * 4) + p2) p4 (fun f4 => some (V0.1, f3, f4)))))
set_option maxHeartbeats 4000000 in
set_option maxRecDepth 100000 in
theorem X4_putEntry_go (K : KE) (l : Launch) (a : Nat → Nat) (WC : va_W) {p : Program} {e : Env} {s : State} {m : MethodId} {args : Array Value} {below : List Frame} {meth : Method} {c : Code} (X : CX p s m args c K.1 vwCl (kT K) (va_A WC s.heap.size) cX4_putEntry 6 wsX4_putEntry RX4) (hr : meth.sig.returnType = none) (hlk : meth.locks = false) (V0 : Mp) (p1 : Int) (p2 : Int) (p3 : Int) (p4 : Int) (res : Mp) (hf : X4_putEntry V0 p1 p2 p3 p4 = some res) : GO p l e rmX4_putEntry s m args below meth c K.1 vwCl (va_A WC s.heap.size) (MQ below (QC K.1 vwCl none WC (c4 K a res) s.heap.size) args s 0 0 (va_A WC s.heap.size)) 6 0 0 0 [(0, .ref (a 0)), (1, ii p1), (2, ii p2), (3, ii p3), (4, ii p4)] [] (c4 K a V0) := by
  rw [X4_putEntry] at hf
  refine g_iload_n X dX4_putEntry_0 1 rfl rfl ?_
  refine g_iconst X dX4_putEntry_1 ?_
  refine g_imul X dX4_putEntry_2 ?_
  refine g_iload_n X dX4_putEntry_3 2 rfl rfl ?_
  refine g_iadd X dX4_putEntry_4 ?_
  refine g_istore X (lv' := [(5, ii ((p1 * 4) + p2)), (0, .ref (a 0)), (1, ii p1), (2, ii p2), (3, ii p3), (4, ii p4)]) dX4_putEntry_5 (by decide) rfl ?_
  refine g_iload X dX4_putEntry_7 0 rfl ?_
  refine g_iconst X dX4_putEntry_9 ?_
  refine g_bipush X dX4_putEntry_10 (by decide +kernel) ?_
  obtain ⟨v1, hc2, hf⟩ := Option.bind_eq_some_iff.mp hf
  refine g_callSN X (As := [ii ((p1 * 4) + p2), ii 0, ii 23]) (st := []) (st1 := [ii v1]) (ws' := c4 K a V0) (X9_within_ok K l ((p1 * 4) + p2) 0 23 v1 hc2) ggX4_putEntry_X9_within ne_X4_putEntry_27 wd_X4_putEntry_ini9 wd_X4_putEntry_sta_X9_within rfl 3 (by decide +kernel) ⟨rfl, rfl⟩ ⟨Nat.le_of_ble_eq_true rfl, Nat.le_of_ble_eq_true rfl⟩ ⟨Nat.zero_le _, Nat.zero_le _⟩ rfl rfl (Nat.le_of_ble_eq_true rfl) dX4_putEntry_12 SG.none rfl ?_
  refine g_if_eq X hf 35 dX4_putEntry_15 (by decide) (fun hf => ?_) (fun hf => ?_)
  · cases hf
    exact g_vret X hr hlk dX4_putEntry_35
  · refine g_aload_n X dX4_putEntry_18 1 rfl rfl ?_
    refine g_get X (v := .ref (a 2)) 0 1 dX4_putEntry_19 rfl rfl iw_X4_putEntry_X4 (by decide) fl_X4_putEntry_15 rfl ?_
    refine g_iload X dX4_putEntry_22 0 rfl ?_
    refine g_iload_n X dX4_putEntry_24 4 rfl rfl ?_
    refine g_iast X hf (by decide) 2 0 dX4_putEntry_25 rfl rfl (fun f3 => c4 K a (V0.1, f3, V0.2.2)) (fun _ => rfl) (fun f3 hf => ?_)
    refine g_aload_n X dX4_putEntry_26 1 rfl rfl ?_
    refine g_get X (v := .ref (a 3)) 0 2 dX4_putEntry_27 rfl rfl iw_X4_putEntry_X4 (by decide) fl_X4_putEntry_18 rfl ?_
    refine g_iload X dX4_putEntry_30 0 rfl ?_
    refine g_iload X dX4_putEntry_32 5 rfl ?_
    refine g_iast X hf (by decide) 3 0 dX4_putEntry_34 rfl rfl (fun f4 => c4 K a (V0.1, f3, f4)) (fun _ => rfl) (fun f4 hf => ?_)
    cases hf
    exact g_vret X hr hlk dX4_putEntry_35
set_option maxHeartbeats 4000000 in
set_option maxRecDepth 100000 in
theorem X4_putEntry_ok (K : KE) (l : Launch) (a : Nat → Nat) (V0 : Mp) (p1 : Int) (p2 : Int) (p3 : Int) (p4 : Int) (res : Mp) (hf : X4_putEntry V0 p1 p2 p3 p4 = some res) : CT l K.1 vwCl (kT K) yX4_putEntry wsX4_putEntry rmX4_putEntry [.ref (a 0), ii p1, ii p2, ii p3, ii p4] none (c4 K a V0) (c4 K a res) :=
  CT.mk (cc := cX4_putEntry) (maxL := 6) (ret := none) (by decide) rfl (Nat.le_of_ble_eq_true rfl) (fun p e s m below meth c X hr hlk => X4_putEntry_go K l a _ X hr hlk V0 p1 p2 p3 p4 res hf)
def rmX4_resetEntries : Room := { frames := 2, cells := 0, slots := 0, locals := 47 }
def X4_resetEntries_L2 (kx : Mp → Option (Mp)) (x1 : Int) : Nat → Int → Mp → Option (Mp)
  | 0, _, _ => none
  | n + 1, y2, V0 => brLT y2 4 (ltK (fun q1 : Int => (X4_putEntry V0 x1 y2 q1 0).bind (fun v3 => X4_resetEntries_L2 kx x1 n (y2 + 1) v3)) (fun j2 => brLE y2 2 (j2 y2) (j2 (-1)))) (kx V0)
def X4_resetEntries (V0 : Mp) (p1 : Int) : Option (Mp) := X4_resetEntries_L2 (fun w5 => some w5) p1 FU 0 V0
set_option maxHeartbeats 4000000 in
set_option maxRecDepth 100000 in
theorem X4_resetEntries_L2_ok (K : KE) (l : Launch) (a : Nat → Nat) (WC : va_W) {p : Program} {e : Env} {s : State} {m : MethodId} {args : Array Value} {below : List Frame} {meth : Method} {c : Code} (X : CX p s m args c K.1 vwCl (kT K) (va_A WC s.heap.size) cX4_resetEntries 3 wsX4_resetEntries RX4) (hr : meth.sig.returnType = none) (hlk : meth.locks = false)  (x1 : Int) (res : Mp) {kx : Mp → Option (Mp)} : ∀ (n : Nat) (y2 : Int) (V0 : Mp), X4_resetEntries_L2 kx x1 n y2 V0 = some res → (∀ (V0z : Mp), kx V0z = some res → GO p l e rmX4_resetEntries s m args below meth c K.1 vwCl (va_A WC s.heap.size) (MQ below (QC K.1 vwCl none WC (c4 K a res) s.heap.size) args s 0 0 (va_A WC s.heap.size)) 3 0 0 30 [] [] (c4 K a V0z)) → GO p l e rmX4_resetEntries s m args below meth c K.1 vwCl (va_A WC s.heap.size) (MQ below (QC K.1 vwCl none WC (c4 K a res) s.heap.size) args s 0 0 (va_A WC s.heap.size)) 3 0 0 2 [(0, .ref (a 0)), (1, ii x1), (2, ii y2)] [] (c4 K a V0) := by
  intro n
  induction n with
  | zero =>
    intro y2 V0 hf _
    rw [X4_resetEntries_L2] at hf
    cases hf
  | succ n ih =>
    intro y2 V0 hf hk
    rw [X4_resetEntries_L2] at hf
    refine g_iload_n X dX4_resetEntries_2 2 rfl rfl ?_
    refine g_iconst X dX4_resetEntries_3 ?_
    refine g_icmp_ge X hf 30 dX4_resetEntries_4 (by decide) (fun hf => ?_) (fun hf => ?_)
    · refine g_aload_n X dX4_resetEntries_7 0 rfl rfl ?_
      refine g_iload_n X dX4_resetEntries_8 1 rfl rfl ?_
      refine g_iload_n X dX4_resetEntries_9 2 rfl rfl ?_
      refine g_iload_n X dX4_resetEntries_10 2 rfl rfl ?_
      refine g_iconst X dX4_resetEntries_11 ?_
      refine g_let (G := fun q1 : Int => GO p l e rmX4_resetEntries s m args below meth c K.1 vwCl (va_A WC s.heap.size) (MQ below (QC K.1 vwCl none WC (c4 K a res) s.heap.size) args s 0 0 (va_A WC s.heap.size)) 3 0 0 20 [(0, .ref (a 0)), (1, ii x1), (2, ii y2)] [ii q1, ii y2, ii x1, .ref (a 0)] (c4 K a V0)) hf (fun q1 hf => ?_) (fun j2 hj2 hf => ?_)
      · refine g_iconst X dX4_resetEntries_20 ?_
        obtain ⟨v3, hc4, hf⟩ := Option.bind_eq_some_iff.mp hf
        refine g_callV X (As := [ii x1, ii y2, ii q1, ii 0]) (st := []) (st1 := []) (ws' := c4 K a v3) (X4_putEntry_ok K l a V0 x1 y2 q1 0 v3 hc4) gX4_resetEntries_X4_putEntry rfl 4 (by decide +kernel) ⟨rfl, rfl⟩ ⟨Nat.le_of_ble_eq_true rfl, Nat.le_of_ble_eq_true rfl⟩ ⟨Nat.zero_le _, Nat.zero_le _⟩ 0 rfl rfl rfl rfl (Nat.le_of_ble_eq_true rfl) dX4_resetEntries_21 (SG.all rfl) rfl ?_
        refine g_iinc X (lv' := [(2, ii (y2 + 1)), (0, .ref (a 0)), (1, ii x1)]) dX4_resetEntries_24 2 rfl (by decide) rfl ?_
        refine g_goto X 2 dX4_resetEntries_27 (by decide) ?_
        refine g_sub (lv' := [(0, .ref (a 0)), (1, ii x1), (2, ii (y2 + 1))]) [1, 2, 0] rfl ?_
        exact ih (y2 + 1) v3 hf hk
      · refine g_icmp_gt X hf 19 dX4_resetEntries_12 (by decide) (fun hf => ?_) (fun hf => ?_)
        · refine g_iload_n X dX4_resetEntries_15 2 rfl rfl ?_
          refine g_goto X 20 dX4_resetEntries_16 (by decide) ?_
          exact hj2 y2 hf
        · refine g_iconst X dX4_resetEntries_19 ?_
          exact hj2 (-1) hf
    · refine g_sub (lv' := []) [] rfl ?_
      exact hk V0 hf
set_option maxHeartbeats 4000000 in
set_option maxRecDepth 100000 in
theorem X4_resetEntries_go (K : KE) (l : Launch) (a : Nat → Nat) (WC : va_W) {p : Program} {e : Env} {s : State} {m : MethodId} {args : Array Value} {below : List Frame} {meth : Method} {c : Code} (X : CX p s m args c K.1 vwCl (kT K) (va_A WC s.heap.size) cX4_resetEntries 3 wsX4_resetEntries RX4) (hr : meth.sig.returnType = none) (hlk : meth.locks = false) (V0 : Mp) (p1 : Int) (res : Mp) (hf : X4_resetEntries V0 p1 = some res) : GO p l e rmX4_resetEntries s m args below meth c K.1 vwCl (va_A WC s.heap.size) (MQ below (QC K.1 vwCl none WC (c4 K a res) s.heap.size) args s 0 0 (va_A WC s.heap.size)) 3 0 0 0 [(0, .ref (a 0)), (1, ii p1)] [] (c4 K a V0) := by
  rw [X4_resetEntries] at hf
  refine g_iconst X dX4_resetEntries_0 ?_
  refine g_istore_n X (lv' := [(2, ii 0), (0, .ref (a 0)), (1, ii p1)]) dX4_resetEntries_1 rfl (by decide) rfl ?_
  refine g_sub (lv' := [(0, .ref (a 0)), (1, ii p1), (2, ii 0)]) [1, 2, 0] rfl ?_
  refine X4_resetEntries_L2_ok K l a WC X hr hlk p1 res FU 0 V0 hf (fun w5 hf => ?_)
  cases hf
  exact g_vret X hr hlk dX4_resetEntries_30
set_option maxHeartbeats 4000000 in
set_option maxRecDepth 100000 in
theorem X4_resetEntries_ok (K : KE) (l : Launch) (a : Nat → Nat) (V0 : Mp) (p1 : Int) (res : Mp) (hf : X4_resetEntries V0 p1 = some res) : CT l K.1 vwCl (kT K) yX4_resetEntries wsX4_resetEntries rmX4_resetEntries [.ref (a 0), ii p1] none (c4 K a V0) (c4 K a res) :=
  CT.mk (cc := cX4_resetEntries) (maxL := 3) (ret := none) (by decide) rfl (Nat.le_of_ble_eq_true rfl) (fun p e s m below meth c X hr hlk => X4_resetEntries_go K l a _ X hr hlk V0 p1 res hf)
theorem ne_X4_sourceAt_27 : (RX4, 27, yX9_within) ∈ nestL := by decide +kernel
theorem wd_X4_sourceAt_ini9 : Cond.initialized yX9_within.cls ∈ wsX4_sourceAt := by decide +kernel
theorem wd_X4_sourceAt_sta_X9_within : Cond.static yX9_within ∈ wsX4_sourceAt := by decide +kernel
theorem iw_X4_sourceAt_X4 : ∀ w ∈ u_ws RX4 TX4 3, w ∈ wsX4_sourceAt := by decide +kernel
theorem fl_X4_sourceAt_15 : Cond.fieldLink RX4 15 (TX4 1).1 (TX4 1).2.1 (TX4 1).2.2.1 ∈ wsX4_sourceAt := by decide +kernel
def rmX4_sourceAt : Room := { frames := 1, cells := 0, slots := 0, locals := 22 }
def X4_sourceAt (V0 : Mp) (p1 : Int) (p2 : Int) : Option (Int) := (X9_within ((p1 * 4) + p2) 0 23).bind (fun v1 => brEQ v1 0 (some (-1)) (rdK 24 V0.2.1 ((p1 * 4) + p2) (fun v3 => some v3)))
set_option maxHeartbeats 4000000 in
set_option maxRecDepth 100000 in
theorem X4_sourceAt_go (K : KE) (l : Launch) (a : Nat → Nat) (WC : va_W) {p : Program} {e : Env} {s : State} {m : MethodId} {args : Array Value} {below : List Frame} {meth : Method} {c : Code} (X : CX p s m args c K.1 vwCl (kT K) (va_A WC s.heap.size) cX4_sourceAt 4 wsX4_sourceAt RX4) (hr : meth.sig.returnType = (some .int)) (hlk : meth.locks = false) (V0 : Mp) (p1 : Int) (p2 : Int) (res : Int) (hf : X4_sourceAt V0 p1 p2 = some res) : GO p l e rmX4_sourceAt s m args below meth c K.1 vwCl (va_A WC s.heap.size) (MQ below (QC K.1 vwCl (some (ii res)) WC (c4 K a V0) s.heap.size) args s 0 0 (va_A WC s.heap.size)) 4 0 0 0 [(0, .ref (a 0)), (1, ii p1), (2, ii p2)] [] (c4 K a V0) := by
  rw [X4_sourceAt] at hf
  refine g_iload_n X dX4_sourceAt_0 1 rfl rfl ?_
  refine g_iconst X dX4_sourceAt_1 ?_
  refine g_imul X dX4_sourceAt_2 ?_
  refine g_iload_n X dX4_sourceAt_3 2 rfl rfl ?_
  refine g_iadd X dX4_sourceAt_4 ?_
  refine g_istore_n X (lv' := [(3, ii ((p1 * 4) + p2)), (0, .ref (a 0)), (1, ii p1), (2, ii p2)]) dX4_sourceAt_5 rfl (by decide) rfl ?_
  refine g_iload_n X dX4_sourceAt_6 0 rfl rfl ?_
  refine g_iconst X dX4_sourceAt_7 ?_
  refine g_bipush X dX4_sourceAt_8 (by decide +kernel) ?_
  obtain ⟨v1, hc2, hf⟩ := Option.bind_eq_some_iff.mp hf
  refine g_callSN X (As := [ii ((p1 * 4) + p2), ii 0, ii 23]) (st := []) (st1 := [ii v1]) (ws' := c4 K a V0) (X9_within_ok K l ((p1 * 4) + p2) 0 23 v1 hc2) ggX4_sourceAt_X9_within ne_X4_sourceAt_27 wd_X4_sourceAt_ini9 wd_X4_sourceAt_sta_X9_within rfl 3 (by decide +kernel) ⟨rfl, rfl⟩ ⟨Nat.le_of_ble_eq_true rfl, Nat.le_of_ble_eq_true rfl⟩ ⟨Nat.zero_le _, Nat.zero_le _⟩ rfl rfl (Nat.le_of_ble_eq_true rfl) dX4_sourceAt_10 SG.none rfl ?_
  refine g_if_eq X hf 25 dX4_sourceAt_13 (by decide) (fun hf => ?_) (fun hf => ?_)
  · refine g_iconst X dX4_sourceAt_25 ?_
    cases hf
    exact g_iret X hr hlk dX4_sourceAt_26
  · refine g_aload_n X dX4_sourceAt_16 1 rfl rfl ?_
    refine g_get X (v := .ref (a 2)) 0 1 dX4_sourceAt_17 rfl rfl iw_X4_sourceAt_X4 (by decide) fl_X4_sourceAt_15 rfl ?_
    refine g_iload_n X dX4_sourceAt_20 0 rfl rfl ?_
    refine g_iald X hf (by decide) 2 0 dX4_sourceAt_21 rfl rfl (fun v3 hf => ?_)
    refine g_goto X 26 dX4_sourceAt_22 (by decide) ?_
    cases hf
    exact g_iret X hr hlk dX4_sourceAt_26
set_option maxHeartbeats 4000000 in
set_option maxRecDepth 100000 in
theorem X4_sourceAt_ok (K : KE) (l : Launch) (a : Nat → Nat) (V0 : Mp) (p1 : Int) (p2 : Int) (res : Int) (hf : X4_sourceAt V0 p1 p2 = some res) : CT l K.1 vwCl (kT K) yX4_sourceAt wsX4_sourceAt rmX4_sourceAt [.ref (a 0), ii p1, ii p2] (some (ii res)) (c4 K a V0) (c4 K a V0) :=
  CT.mk (cc := cX4_sourceAt) (maxL := 4) (ret := (some .int)) (by decide) rfl (Nat.le_of_ble_eq_true rfl) (fun p e s m below meth c X hr hlk => X4_sourceAt_go K l a _ X hr hlk V0 p1 p2 res hf)
theorem ne_X4_constantAt_27 : (RX4, 27, yX9_within) ∈ nestL := by decide +kernel
theorem wd_X4_constantAt_ini9 : Cond.initialized yX9_within.cls ∈ wsX4_constantAt := by decide +kernel
theorem wd_X4_constantAt_sta_X9_within : Cond.static yX9_within ∈ wsX4_constantAt := by decide +kernel
theorem iw_X4_constantAt_X4 : ∀ w ∈ u_ws RX4 TX4 3, w ∈ wsX4_constantAt := by decide +kernel
theorem fl_X4_constantAt_18 : Cond.fieldLink RX4 18 (TX4 2).1 (TX4 2).2.1 (TX4 2).2.2.1 ∈ wsX4_constantAt := by decide +kernel
def rmX4_constantAt : Room := { frames := 1, cells := 0, slots := 0, locals := 22 }
def X4_constantAt (V0 : Mp) (p1 : Int) (p2 : Int) : Option (Int) := (X9_within ((p1 * 4) + p2) 0 23).bind (fun v1 => brEQ v1 0 (some 0) (rdK 24 V0.2.2 ((p1 * 4) + p2) (fun v3 => some v3)))
set_option maxHeartbeats 4000000 in
set_option maxRecDepth 100000 in
theorem X4_constantAt_go (K : KE) (l : Launch) (a : Nat → Nat) (WC : va_W) {p : Program} {e : Env} {s : State} {m : MethodId} {args : Array Value} {below : List Frame} {meth : Method} {c : Code} (X : CX p s m args c K.1 vwCl (kT K) (va_A WC s.heap.size) cX4_constantAt 4 wsX4_constantAt RX4) (hr : meth.sig.returnType = (some .int)) (hlk : meth.locks = false) (V0 : Mp) (p1 : Int) (p2 : Int) (res : Int) (hf : X4_constantAt V0 p1 p2 = some res) : GO p l e rmX4_constantAt s m args below meth c K.1 vwCl (va_A WC s.heap.size) (MQ below (QC K.1 vwCl (some (ii res)) WC (c4 K a V0) s.heap.size) args s 0 0 (va_A WC s.heap.size)) 4 0 0 0 [(0, .ref (a 0)), (1, ii p1), (2, ii p2)] [] (c4 K a V0) := by
  rw [X4_constantAt] at hf
  refine g_iload_n X dX4_constantAt_0 1 rfl rfl ?_
  refine g_iconst X dX4_constantAt_1 ?_
  refine g_imul X dX4_constantAt_2 ?_
  refine g_iload_n X dX4_constantAt_3 2 rfl rfl ?_
  refine g_iadd X dX4_constantAt_4 ?_
  refine g_istore_n X (lv' := [(3, ii ((p1 * 4) + p2)), (0, .ref (a 0)), (1, ii p1), (2, ii p2)]) dX4_constantAt_5 rfl (by decide) rfl ?_
  refine g_iload_n X dX4_constantAt_6 0 rfl rfl ?_
  refine g_iconst X dX4_constantAt_7 ?_
  refine g_bipush X dX4_constantAt_8 (by decide +kernel) ?_
  obtain ⟨v1, hc2, hf⟩ := Option.bind_eq_some_iff.mp hf
  refine g_callSN X (As := [ii ((p1 * 4) + p2), ii 0, ii 23]) (st := []) (st1 := [ii v1]) (ws' := c4 K a V0) (X9_within_ok K l ((p1 * 4) + p2) 0 23 v1 hc2) ggX4_constantAt_X9_within ne_X4_constantAt_27 wd_X4_constantAt_ini9 wd_X4_constantAt_sta_X9_within rfl 3 (by decide +kernel) ⟨rfl, rfl⟩ ⟨Nat.le_of_ble_eq_true rfl, Nat.le_of_ble_eq_true rfl⟩ ⟨Nat.zero_le _, Nat.zero_le _⟩ rfl rfl (Nat.le_of_ble_eq_true rfl) dX4_constantAt_10 SG.none rfl ?_
  refine g_if_eq X hf 25 dX4_constantAt_13 (by decide) (fun hf => ?_) (fun hf => ?_)
  · refine g_iconst X dX4_constantAt_25 ?_
    cases hf
    exact g_iret X hr hlk dX4_constantAt_26
  · refine g_aload_n X dX4_constantAt_16 1 rfl rfl ?_
    refine g_get X (v := .ref (a 3)) 0 2 dX4_constantAt_17 rfl rfl iw_X4_constantAt_X4 (by decide) fl_X4_constantAt_18 rfl ?_
    refine g_iload_n X dX4_constantAt_20 0 rfl rfl ?_
    refine g_iald X hf (by decide) 3 0 dX4_constantAt_21 rfl rfl (fun v3 hf => ?_)
    refine g_goto X 26 dX4_constantAt_22 (by decide) ?_
    cases hf
    exact g_iret X hr hlk dX4_constantAt_26
set_option maxHeartbeats 4000000 in
set_option maxRecDepth 100000 in
theorem X4_constantAt_ok (K : KE) (l : Launch) (a : Nat → Nat) (V0 : Mp) (p1 : Int) (p2 : Int) (res : Int) (hf : X4_constantAt V0 p1 p2 = some res) : CT l K.1 vwCl (kT K) yX4_constantAt wsX4_constantAt rmX4_constantAt [.ref (a 0), ii p1, ii p2] (some (ii res)) (c4 K a V0) (c4 K a V0) :=
  CT.mk (cc := cX4_constantAt) (maxL := 4) (ret := (some .int)) (by decide) rfl (Nat.le_of_ble_eq_true rfl) (fun p e s m below meth c X hr hlk => X4_constantAt_go K l a _ X hr hlk V0 p1 p2 res hf)
theorem iw_X4_copyFrom_X4 : ∀ w ∈ u_ws RX4 TX4 3, w ∈ wsX4_copyFrom := by decide +kernel
theorem fl_X4_copyFrom_9 : Cond.fieldLink RX4 9 (TX4 0).1 (TX4 0).2.1 (TX4 0).2.2.1 ∈ wsX4_copyFrom := by decide +kernel
theorem wd_X4_copyFrom_ac35 : Cond.methodLink RX4 35 arraycopyName ∈ wsX4_copyFrom := by decide +kernel
theorem wd_X4_copyFrom_an : Cond.native arraycopyName ∈ wsX4_copyFrom := by decide +kernel
theorem wd_X4_copyFrom_as : Cond.static arraycopyName ∈ wsX4_copyFrom := by decide +kernel
theorem wd_X4_copyFrom_ai : Cond.initialized "java/lang/System" ∈ wsX4_copyFrom := by decide +kernel
theorem fl_X4_copyFrom_15 : Cond.fieldLink RX4 15 (TX4 1).1 (TX4 1).2.1 (TX4 1).2.2.1 ∈ wsX4_copyFrom := by decide +kernel
theorem fl_X4_copyFrom_18 : Cond.fieldLink RX4 18 (TX4 2).1 (TX4 2).2.1 (TX4 2).2.2.1 ∈ wsX4_copyFrom := by decide +kernel
def rmX4_copyFrom : Room := { frames := 1, cells := 0, slots := 0, locals := 26 }
def X4_copyFrom (V0 : Mp) (V1 : Mp) : Option (Mp) := cpK 6 6 V1.1 V0.1 0 0 6 (fun f1 => cpK 24 24 V1.2.1 V0.2.1 0 0 24 (fun f2 => cpK 24 24 V1.2.2 V0.2.2 0 0 24 (fun f3 => some (f1, f2, f3))))
set_option maxHeartbeats 4000000 in
set_option maxRecDepth 100000 in
theorem X4_copyFrom_go (K : KE) (l : Launch) (a : Nat → Nat) (b : Nat → Nat) (WC : va_W) {p : Program} {e : Env} {s : State} {m : MethodId} {args : Array Value} {below : List Frame} {meth : Method} {c : Code} (X : CX p s m args c K.1 vwCl (kT K) (va_A WC s.heap.size) cX4_copyFrom 2 wsX4_copyFrom RX4) (hr : meth.sig.returnType = none) (hlk : meth.locks = false) (V0 : Mp) (V1 : Mp) (res : Mp) (hf : X4_copyFrom V0 V1 = some res) : GO p l e rmX4_copyFrom s m args below meth c K.1 vwCl (va_A WC s.heap.size) (MQ below (QC K.1 vwCl none WC (c4 K a res ++ (c4 K b V1)) s.heap.size) args s 0 0 (va_A WC s.heap.size)) 2 0 0 0 [(0, .ref (a 0)), (1, .ref (b 0))] [] (c4 K a V0 ++ (c4 K b V1)) := by
  rw [X4_copyFrom] at hf
  refine g_aload_n X dX4_copyFrom_0 1 rfl rfl ?_
  refine g_get X (v := .ref (b 1)) 4 0 dX4_copyFrom_1 rfl rfl iw_X4_copyFrom_X4 (by decide) fl_X4_copyFrom_9 rfl ?_
  refine g_iconst X dX4_copyFrom_4 ?_
  refine g_aload_n X dX4_copyFrom_5 0 rfl rfl ?_
  refine g_get X (v := .ref (a 1)) 0 0 dX4_copyFrom_6 rfl rfl iw_X4_copyFrom_X4 (by decide) fl_X4_copyFrom_9 rfl ?_
  refine g_iconst X dX4_copyFrom_9 ?_
  refine g_bipush X dX4_copyFrom_10 (by decide +kernel) ?_
  refine g_copy X hf (by decide) (by decide) wd_X4_copyFrom_ac35 wd_X4_copyFrom_an wd_X4_copyFrom_as wd_X4_copyFrom_ai 5 1 0 0 rfl rfl rfl rfl ⟨Nat.le_of_ble_eq_true rfl, Nat.le_of_ble_eq_true rfl⟩ dX4_copyFrom_12 (fun f1 => c4 K a (f1, V0.2.1, V0.2.2) ++ (c4 K b V1)) (fun _ => rfl) (fun f1 hf => ?_)
  refine g_aload_n X dX4_copyFrom_15 1 rfl rfl ?_
  refine g_get X (v := .ref (b 2)) 4 1 dX4_copyFrom_16 rfl rfl iw_X4_copyFrom_X4 (by decide) fl_X4_copyFrom_15 rfl ?_
  refine g_iconst X dX4_copyFrom_19 ?_
  refine g_aload_n X dX4_copyFrom_20 0 rfl rfl ?_
  refine g_get X (v := .ref (a 2)) 0 1 dX4_copyFrom_21 rfl rfl iw_X4_copyFrom_X4 (by decide) fl_X4_copyFrom_15 rfl ?_
  refine g_iconst X dX4_copyFrom_24 ?_
  refine g_bipush X dX4_copyFrom_25 (by decide +kernel) ?_
  refine g_copy X hf (by decide) (by decide) wd_X4_copyFrom_ac35 wd_X4_copyFrom_an wd_X4_copyFrom_as wd_X4_copyFrom_ai 6 2 0 0 rfl rfl rfl rfl ⟨Nat.le_of_ble_eq_true rfl, Nat.le_of_ble_eq_true rfl⟩ dX4_copyFrom_27 (fun f2 => c4 K a (f1, f2, V0.2.2) ++ (c4 K b V1)) (fun _ => rfl) (fun f2 hf => ?_)
  refine g_aload_n X dX4_copyFrom_30 1 rfl rfl ?_
  refine g_get X (v := .ref (b 3)) 4 2 dX4_copyFrom_31 rfl rfl iw_X4_copyFrom_X4 (by decide) fl_X4_copyFrom_18 rfl ?_
  refine g_iconst X dX4_copyFrom_34 ?_
  refine g_aload_n X dX4_copyFrom_35 0 rfl rfl ?_
  refine g_get X (v := .ref (a 3)) 0 2 dX4_copyFrom_36 rfl rfl iw_X4_copyFrom_X4 (by decide) fl_X4_copyFrom_18 rfl ?_
  refine g_iconst X dX4_copyFrom_39 ?_
  refine g_bipush X dX4_copyFrom_40 (by decide +kernel) ?_
  refine g_copy X hf (by decide) (by decide) wd_X4_copyFrom_ac35 wd_X4_copyFrom_an wd_X4_copyFrom_as wd_X4_copyFrom_ai 7 3 0 0 rfl rfl rfl rfl ⟨Nat.le_of_ble_eq_true rfl, Nat.le_of_ble_eq_true rfl⟩ dX4_copyFrom_42 (fun f3 => c4 K a (f1, f2, f3) ++ (c4 K b V1)) (fun _ => rfl) (fun f3 hf => ?_)
  cases hf
  exact g_vret X hr hlk dX4_copyFrom_45
set_option maxHeartbeats 4000000 in
set_option maxRecDepth 100000 in
theorem X4_copyFrom_ok (K : KE) (l : Launch) (a : Nat → Nat) (b : Nat → Nat) (V0 : Mp) (V1 : Mp) (res : Mp) (hf : X4_copyFrom V0 V1 = some res) : CT l K.1 vwCl (kT K) yX4_copyFrom wsX4_copyFrom rmX4_copyFrom [.ref (a 0), .ref (b 0)] none (c4 K a V0 ++ (c4 K b V1)) (c4 K a res ++ (c4 K b V1)) :=
  CT.mk (cc := cX4_copyFrom) (maxL := 2) (ret := none) (by decide) rfl (Nat.le_of_ble_eq_true rfl) (fun p e s m below meth c X hr hlk => X4_copyFrom_go K l a b _ X hr hlk V0 V1 res hf)
theorem iw_X8_usedEntries_X8 : ∀ w ∈ u_ws RX8 TX8 9, w ∈ wsX8_usedEntries := by decide +kernel
theorem fl_X8_usedEntries_20 : Cond.fieldLink RX8 20 (TX8 1).1 (TX8 1).2.1 (TX8 1).2.2.1 ∈ wsX8_usedEntries := by decide +kernel
theorem fl_X8_usedEntries_40 : Cond.fieldLink RX8 40 (TX8 6).1 (TX8 6).2.1 (TX8 6).2.2.1 ∈ wsX8_usedEntries := by decide +kernel
def rmX8_usedEntries : Room := { frames := 2, cells := 0, slots := 0, locals := 43 }
def X8_usedEntries (V0 : St) (p1 : Int) : Option (Int) := (X4_targetOf V0.2.2.2.2.2.2.1 p1).bind (fun v1 => (X1_arityOf 6 V0.2.1 v1).bind (fun v3 => some v3))
set_option maxHeartbeats 4000000 in
set_option maxRecDepth 100000 in
theorem X8_usedEntries_go (K : KE) (l : Launch) (a : Nat → Nat) (WC : va_W) {p : Program} {e : Env} {s : State} {m : MethodId} {args : Array Value} {below : List Frame} {meth : Method} {c : Code} (X : CX p s m args c K.1 vwCl (kT K) (va_A WC s.heap.size) cX8_usedEntries 2 wsX8_usedEntries RX8) (hr : meth.sig.returnType = (some .int)) (hlk : meth.locks = false) (V0 : St) (p1 : Int) (res : Int) (hf : X8_usedEntries V0 p1 = some res) : GO p l e rmX8_usedEntries s m args below meth c K.1 vwCl (va_A WC s.heap.size) (MQ below (QC K.1 vwCl (some (ii res)) WC (c8 K a V0) s.heap.size) args s 0 0 (va_A WC s.heap.size)) 2 0 0 0 [(0, .ref (a 0)), (1, ii p1)] [] (c8 K a V0) := by
  rw [X8_usedEntries] at hf
  refine g_aload_n X dX8_usedEntries_0 0 rfl rfl ?_
  refine g_get X (v := .ref (ash a 5 0)) 0 1 dX8_usedEntries_1 rfl rfl iw_X8_usedEntries_X8 (by decide) fl_X8_usedEntries_20 rfl ?_
  refine g_aload_n X dX8_usedEntries_4 0 rfl rfl ?_
  refine g_get X (v := .ref (ash a 14 0)) 0 6 dX8_usedEntries_5 rfl rfl iw_X8_usedEntries_X8 (by decide) fl_X8_usedEntries_40 rfl ?_
  refine g_iload_n X dX8_usedEntries_8 1 rfl rfl ?_
  obtain ⟨v1, hc2, hf⟩ := Option.bind_eq_some_iff.mp hf
  refine g_callV X (As := [ii p1]) (st := [.ref (ash a 5 0)]) (st1 := [ii v1, .ref (ash a 5 0)]) (ws' := c8 K a V0) (X4_targetOf_ok K l (ash a 14) V0.2.2.2.2.2.2.1 p1 v1 hc2) gX8_usedEntries_X4_targetOf rfl 1 (by decide +kernel) ⟨rfl, rfl⟩ ⟨Nat.le_of_ble_eq_true rfl, Nat.le_of_ble_eq_true rfl⟩ ⟨Nat.zero_le _, Nat.zero_le _⟩ 14 rfl rfl rfl rfl (Nat.le_of_ble_eq_true rfl) dX8_usedEntries_9 (SG.one ([(a 0, .inr (8, [.ref (ash a 1 0), .ref (ash a 5 0), .ref (ash a 9 0), ii V0.2.2.2.1, .ref (a 13), ii V0.2.2.2.2.2.1, .ref (ash a 14 0), .ref (ash a 18 0), .ref (a 22)]))] ++ (c1 K 6 (ash a 1) V0.1 ++ (c1 K 6 (ash a 5) V0.2.1 ++ (c1 K 4 (ash a 9) V0.2.2.1 ++ ([(a 13, .inl (K.2.1, 6, .inl (arI V0.2.2.2.2.1)))]))))) (c6 K (ash a 18) V0.2.2.2.2.2.2.2.1 ++ ([(a 22, .inl (K.2.1, 8, .inl (arI V0.2.2.2.2.2.2.2.2)))])) rfl rfl rfl) rfl ?_
  obtain ⟨v3, hc4, hf⟩ := Option.bind_eq_some_iff.mp hf
  refine g_callV X (As := [ii v1]) (st := []) (st1 := [ii v3]) (ws' := c8 K a V0) (X1_arityOf_ok K l 6 (by decide) (ash a 5) V0.2.1 v1 v3 hc4) gX8_usedEntries_X1_arityOf rfl 1 (by decide +kernel) ⟨rfl, rfl⟩ ⟨Nat.le_of_ble_eq_true rfl, Nat.le_of_ble_eq_true rfl⟩ ⟨Nat.zero_le _, Nat.zero_le _⟩ 5 rfl rfl rfl rfl (Nat.le_of_ble_eq_true rfl) dX8_usedEntries_12 (SG.one ([(a 0, .inr (8, [.ref (ash a 1 0), .ref (ash a 5 0), .ref (ash a 9 0), ii V0.2.2.2.1, .ref (a 13), ii V0.2.2.2.2.2.1, .ref (ash a 14 0), .ref (ash a 18 0), .ref (a 22)]))] ++ (c1 K 6 (ash a 1) V0.1)) (c1 K 4 (ash a 9) V0.2.2.1 ++ ([(a 13, .inl (K.2.1, 6, .inl (arI V0.2.2.2.2.1)))] ++ (c4 K (ash a 14) V0.2.2.2.2.2.2.1 ++ (c6 K (ash a 18) V0.2.2.2.2.2.2.2.1 ++ ([(a 22, .inl (K.2.1, 8, .inl (arI V0.2.2.2.2.2.2.2.2)))]))))) rfl rfl rfl) rfl ?_
  cases hf
  exact g_iret X hr hlk dX8_usedEntries_15
set_option maxHeartbeats 4000000 in
set_option maxRecDepth 100000 in
theorem X8_usedEntries_ok (K : KE) (l : Launch) (a : Nat → Nat) (V0 : St) (p1 : Int) (res : Int) (hf : X8_usedEntries V0 p1 = some res) : CT l K.1 vwCl (kT K) yX8_usedEntries wsX8_usedEntries rmX8_usedEntries [.ref (a 0), ii p1] (some (ii res)) (c8 K a V0) (c8 K a V0) :=
  CT.mk (cc := cX8_usedEntries) (maxL := 2) (ret := (some .int)) (by decide) rfl (Nat.le_of_ble_eq_true rfl) (fun p e s m below meth c X hr hlk => X8_usedEntries_go K l a _ X hr hlk V0 p1 res hf)
theorem iw_X8_isWellFormed_X8 : ∀ w ∈ u_ws RX8 TX8 9, w ∈ wsX8_isWellFormed := by decide +kernel
theorem fl_X8_isWellFormed_40 : Cond.fieldLink RX8 40 (TX8 6).1 (TX8 6).2.1 (TX8 6).2.2.1 ∈ wsX8_isWellFormed := by decide +kernel
theorem fl_X8_isWellFormed_14 : Cond.fieldLink RX8 14 (TX8 0).1 (TX8 0).2.1 (TX8 0).2.2.1 ∈ wsX8_isWellFormed := by decide +kernel
def rmX8_isWellFormed : Room := { frames := 2, cells := 0, slots := 0, locals := 45 }
def X8_isWellFormed_L2 (kx : Option (Int)) (V0 : St) (x1 : Int) (x2 : Int) : Nat → Int → Option (Int)
  | 0, _ => none
  | n + 1, y3 => brLT y3 x2 ((X4_sourceAt V0.2.2.2.2.2.2.1 x1 y3).bind (fun v1 => (X1_arityOf 6 V0.1 x1).bind (fun v3 => brLT v1 v3 (X8_isWellFormed_L2 kx V0 x1 x2 n (y3 + 1)) (kx)))) (some 1)
def X8_isWellFormed (V0 : St) (p1 : Int) (p2 : Int) : Option (Int) := X8_isWellFormed_L2 (some 0) V0 p1 p2 FU 0
set_option maxHeartbeats 4000000 in
set_option maxRecDepth 100000 in
theorem X8_isWellFormed_L2_ok (K : KE) (l : Launch) (a : Nat → Nat) (WC : va_W) {p : Program} {e : Env} {s : State} {m : MethodId} {args : Array Value} {below : List Frame} {meth : Method} {c : Code} (X : CX p s m args c K.1 vwCl (kT K) (va_A WC s.heap.size) cX8_isWellFormed 4 wsX8_isWellFormed RX8) (hr : meth.sig.returnType = (some .boolean)) (hlk : meth.locks = false) (V0 : St) (x1 : Int) (x2 : Int) (res : Int) {kx : Option (Int)} : ∀ (n : Nat) (y3 : Int), X8_isWellFormed_L2 kx V0 x1 x2 n y3 = some res → (kx = some res → GO p l e rmX8_isWellFormed s m args below meth c K.1 vwCl (va_A WC s.heap.size) (MQ below (QC K.1 vwCl (some (ii res)) WC (c8 K a V0) s.heap.size) args s 0 0 (va_A WC s.heap.size)) 4 0 0 27 [] [] (c8 K a V0)) → GO p l e rmX8_isWellFormed s m args below meth c K.1 vwCl (va_A WC s.heap.size) (MQ below (QC K.1 vwCl (some (ii res)) WC (c8 K a V0) s.heap.size) args s 0 0 (va_A WC s.heap.size)) 4 0 0 2 [(0, .ref (a 0)), (1, ii x1), (2, ii x2), (3, ii y3)] [] (c8 K a V0) := by
  intro n
  induction n with
  | zero =>
    intro y3 hf _
    rw [X8_isWellFormed_L2] at hf
    cases hf
  | succ n ih =>
    intro y3 hf hk
    rw [X8_isWellFormed_L2] at hf
    refine g_iload_n X dX8_isWellFormed_2 3 rfl rfl ?_
    refine g_iload_n X dX8_isWellFormed_3 2 rfl rfl ?_
    refine g_icmp_ge X hf 35 dX8_isWellFormed_4 (by decide) (fun hf => ?_) (fun hf => ?_)
    · refine g_aload_n X dX8_isWellFormed_7 0 rfl rfl ?_
      refine g_get X (v := .ref (ash a 14 0)) 0 6 dX8_isWellFormed_8 rfl rfl iw_X8_isWellFormed_X8 (by decide) fl_X8_isWellFormed_40 rfl ?_
      refine g_iload_n X dX8_isWellFormed_11 1 rfl rfl ?_
      refine g_iload_n X dX8_isWellFormed_12 3 rfl rfl ?_
      obtain ⟨v1, hc2, hf⟩ := Option.bind_eq_some_iff.mp hf
      refine g_callV X (As := [ii x1, ii y3]) (st := []) (st1 := [ii v1]) (ws' := c8 K a V0) (X4_sourceAt_ok K l (ash a 14) V0.2.2.2.2.2.2.1 x1 y3 v1 hc2) gX8_isWellFormed_X4_sourceAt rfl 2 (by decide +kernel) ⟨rfl, rfl⟩ ⟨Nat.le_of_ble_eq_true rfl, Nat.le_of_ble_eq_true rfl⟩ ⟨Nat.zero_le _, Nat.zero_le _⟩ 14 rfl rfl rfl rfl (Nat.le_of_ble_eq_true rfl) dX8_isWellFormed_13 (SG.one ([(a 0, .inr (8, [.ref (ash a 1 0), .ref (ash a 5 0), .ref (ash a 9 0), ii V0.2.2.2.1, .ref (a 13), ii V0.2.2.2.2.2.1, .ref (ash a 14 0), .ref (ash a 18 0), .ref (a 22)]))] ++ (c1 K 6 (ash a 1) V0.1 ++ (c1 K 6 (ash a 5) V0.2.1 ++ (c1 K 4 (ash a 9) V0.2.2.1 ++ ([(a 13, .inl (K.2.1, 6, .inl (arI V0.2.2.2.2.1)))]))))) (c6 K (ash a 18) V0.2.2.2.2.2.2.2.1 ++ ([(a 22, .inl (K.2.1, 8, .inl (arI V0.2.2.2.2.2.2.2.2)))])) rfl rfl rfl) rfl ?_
      refine g_aload_n X dX8_isWellFormed_16 0 rfl rfl ?_
      refine g_get X (v := .ref (ash a 1 0)) 0 0 dX8_isWellFormed_17 rfl rfl iw_X8_isWellFormed_X8 (by decide) fl_X8_isWellFormed_14 rfl ?_
      refine g_iload_n X dX8_isWellFormed_20 1 rfl rfl ?_
      obtain ⟨v3, hc4, hf⟩ := Option.bind_eq_some_iff.mp hf
      refine g_callV X (As := [ii x1]) (st := [ii v1]) (st1 := [ii v3, ii v1]) (ws' := c8 K a V0) (X1_arityOf_ok K l 6 (by decide) (ash a 1) V0.1 x1 v3 hc4) gX8_isWellFormed_X1_arityOf rfl 1 (by decide +kernel) ⟨rfl, rfl⟩ ⟨Nat.le_of_ble_eq_true rfl, Nat.le_of_ble_eq_true rfl⟩ ⟨Nat.zero_le _, Nat.zero_le _⟩ 1 rfl rfl rfl rfl (Nat.le_of_ble_eq_true rfl) dX8_isWellFormed_21 (SG.one ([(a 0, .inr (8, [.ref (ash a 1 0), .ref (ash a 5 0), .ref (ash a 9 0), ii V0.2.2.2.1, .ref (a 13), ii V0.2.2.2.2.2.1, .ref (ash a 14 0), .ref (ash a 18 0), .ref (a 22)]))]) (c1 K 6 (ash a 5) V0.2.1 ++ (c1 K 4 (ash a 9) V0.2.2.1 ++ ([(a 13, .inl (K.2.1, 6, .inl (arI V0.2.2.2.2.1)))] ++ (c4 K (ash a 14) V0.2.2.2.2.2.2.1 ++ (c6 K (ash a 18) V0.2.2.2.2.2.2.2.1 ++ ([(a 22, .inl (K.2.1, 8, .inl (arI V0.2.2.2.2.2.2.2.2)))])))))) rfl rfl rfl) rfl ?_
      refine g_icmp_lt X hf 29 dX8_isWellFormed_24 (by decide) (fun hf => ?_) (fun hf => ?_)
      · refine g_iinc X (lv' := [(3, ii (y3 + 1)), (0, .ref (a 0)), (1, ii x1), (2, ii x2)]) dX8_isWellFormed_29 3 rfl (by decide) rfl ?_
        refine g_goto X 2 dX8_isWellFormed_32 (by decide) ?_
        refine g_sub (lv' := [(0, .ref (a 0)), (1, ii x1), (2, ii x2), (3, ii (y3 + 1))]) [1, 2, 3, 0] rfl ?_
        exact ih (y3 + 1) hf hk
      · refine g_sub (lv' := []) [] rfl ?_
        exact hk hf
    · refine g_iconst X dX8_isWellFormed_35 ?_
      cases hf
      exact g_zret X (Or.inr rfl) hr hlk dX8_isWellFormed_36
set_option maxHeartbeats 4000000 in
set_option maxRecDepth 100000 in
theorem X8_isWellFormed_go (K : KE) (l : Launch) (a : Nat → Nat) (WC : va_W) {p : Program} {e : Env} {s : State} {m : MethodId} {args : Array Value} {below : List Frame} {meth : Method} {c : Code} (X : CX p s m args c K.1 vwCl (kT K) (va_A WC s.heap.size) cX8_isWellFormed 4 wsX8_isWellFormed RX8) (hr : meth.sig.returnType = (some .boolean)) (hlk : meth.locks = false) (V0 : St) (p1 : Int) (p2 : Int) (res : Int) (hf : X8_isWellFormed V0 p1 p2 = some res) : GO p l e rmX8_isWellFormed s m args below meth c K.1 vwCl (va_A WC s.heap.size) (MQ below (QC K.1 vwCl (some (ii res)) WC (c8 K a V0) s.heap.size) args s 0 0 (va_A WC s.heap.size)) 4 0 0 0 [(0, .ref (a 0)), (1, ii p1), (2, ii p2)] [] (c8 K a V0) := by
  rw [X8_isWellFormed] at hf
  refine g_iconst X dX8_isWellFormed_0 ?_
  refine g_istore_n X (lv' := [(3, ii 0), (0, .ref (a 0)), (1, ii p1), (2, ii p2)]) dX8_isWellFormed_1 rfl (by decide) rfl ?_
  refine g_sub (lv' := [(0, .ref (a 0)), (1, ii p1), (2, ii p2), (3, ii 0)]) [1, 2, 3, 0] rfl ?_
  refine X8_isWellFormed_L2_ok K l a WC X hr hlk V0 p1 p2 res FU 0 hf (fun hf => ?_)
  refine g_iconst X dX8_isWellFormed_27 ?_
  cases hf
  exact g_zret X (Or.inl rfl) hr hlk dX8_isWellFormed_28
set_option maxHeartbeats 4000000 in
set_option maxRecDepth 100000 in
theorem X8_isWellFormed_ok (K : KE) (l : Launch) (a : Nat → Nat) (V0 : St) (p1 : Int) (p2 : Int) (res : Int) (hf : X8_isWellFormed V0 p1 p2 = some res) : CT l K.1 vwCl (kT K) yX8_isWellFormed wsX8_isWellFormed rmX8_isWellFormed [.ref (a 0), ii p1, ii p2] (some (ii res)) (c8 K a V0) (c8 K a V0) :=
  CT.mk (cc := cX8_isWellFormed) (maxL := 4) (ret := (some .boolean)) (by decide) rfl (Nat.le_of_ble_eq_true rfl) (fun p e s m below meth c X hr hlk => X8_isWellFormed_go K l a _ X hr hlk V0 p1 p2 res hf)
