def rmX9_within : Room := { frames := 0, cells := 0, slots := 0, locals := 0 }
def X9_within (p0 : Int) (p1 : Int) (p2 : Int) : Option (Int) := brLT p0 p1 (some 0) (brLE p0 p2 (some 1) (some 0))
set_option maxHeartbeats 4000000 in
set_option maxRecDepth 100000 in
theorem X9_within_go (K : KE) (l : Launch) (WC : va_W) {p : Program} {e : Env} {s : State} {m : MethodId} {args : Array Value} {below : List Frame} {meth : Method} {c : Code} (X : CX p s m args c K.1 vwCl (kT K) (va_A WC s.heap.size) cX9_within 3 wsX9_within RX9) (hr : meth.sig.returnType = (some .boolean)) (hlk : meth.locks = false) (p0 : Int) (p1 : Int) (p2 : Int) (res : Int) (hf : X9_within p0 p1 p2 = some res) : GO p l e rmX9_within s m args below meth c K.1 vwCl (va_A WC s.heap.size) (MQ below (QC K.1 vwCl (some (ii res)) WC ([]) s.heap.size) args s 0 0 (va_A WC s.heap.size)) 3 0 0 0 [(0, ii p0), (1, ii p1), (2, ii p2)] [] ([]) := by
  rw [X9_within] at hf
  refine g_iload_n X dX9_within_0 0 rfl rfl ?_
  refine g_iload_n X dX9_within_1 1 rfl rfl ?_
  refine g_icmp_lt X hf 14 dX9_within_2 (by decide) (fun hf => ?_) (fun hf => ?_)
  · refine g_iconst X dX9_within_14 ?_
    cases hf
    exact g_zret X (Or.inl rfl) hr hlk dX9_within_15
  · refine g_iload_n X dX9_within_5 0 rfl rfl ?_
    refine g_iload_n X dX9_within_6 2 rfl rfl ?_
    refine g_icmp_gt X hf 14 dX9_within_7 (by decide) (fun hf => ?_) (fun hf => ?_)
    · refine g_iconst X dX9_within_10 ?_
      refine g_goto X 15 dX9_within_11 (by decide) ?_
      cases hf
      exact g_zret X (Or.inr rfl) hr hlk dX9_within_15
    · refine g_iconst X dX9_within_14 ?_
      cases hf
      exact g_zret X (Or.inl rfl) hr hlk dX9_within_15
set_option maxHeartbeats 4000000 in
set_option maxRecDepth 100000 in
theorem X9_within_ok (K : KE) (l : Launch) (p0 : Int) (p1 : Int) (p2 : Int) (res : Int) (hf : X9_within p0 p1 p2 = some res) : CT l K.1 vwCl (kT K) yX9_within wsX9_within rmX9_within [ii p0, ii p1, ii p2] (some (ii res)) ([]) ([]) :=
  CT.mk (cc := cX9_within) (maxL := 3) (ret := (some .boolean)) (by decide) rfl (Nat.le_of_ble_eq_true rfl) (fun p e s m below meth c X hr hlk => X9_within_go K l  _ X hr hlk p0 p1 p2 res hf)
def rmX9_isOld : Room := { frames := 1, cells := 0, slots := 0, locals := 22 }
def X9_isOld (p0 : Int) : Option (Int) := (X9_within p0 0 5).bind (fun v1 => boK v1 (some v1))
set_option maxHeartbeats 4000000 in
set_option maxRecDepth 100000 in
theorem X9_isOld_go (K : KE) (l : Launch) (WC : va_W) {p : Program} {e : Env} {s : State} {m : MethodId} {args : Array Value} {below : List Frame} {meth : Method} {c : Code} (X : CX p s m args c K.1 vwCl (kT K) (va_A WC s.heap.size) cX9_isOld 1 wsX9_isOld RX9) (hr : meth.sig.returnType = (some .boolean)) (hlk : meth.locks = false) (p0 : Int) (res : Int) (hf : X9_isOld p0 = some res) : GO p l e rmX9_isOld s m args below meth c K.1 vwCl (va_A WC s.heap.size) (MQ below (QC K.1 vwCl (some (ii res)) WC ([]) s.heap.size) args s 0 0 (va_A WC s.heap.size)) 1 0 0 0 [(0, ii p0)] [] ([]) := by
  rw [X9_isOld] at hf
  refine g_iload_n X dX9_isOld_0 0 rfl rfl ?_
  refine g_iconst X dX9_isOld_1 ?_
  refine g_iconst X dX9_isOld_2 ?_
  obtain ⟨v1, hc2, hf⟩ := Option.bind_eq_some_iff.mp hf
  refine g_callS X (As := [ii p0, ii 0, ii 5]) (st := []) (st1 := [ii v1]) (ws' := []) (X9_within_ok K l p0 0 5 v1 hc2) gX9_isOld_X9_within rfl 3 (by decide +kernel) ⟨rfl, rfl⟩ ⟨Nat.le_of_ble_eq_true rfl, Nat.le_of_ble_eq_true rfl⟩ ⟨Nat.zero_le _, Nat.zero_le _⟩ rfl rfl (Nat.le_of_ble_eq_true rfl) dX9_isOld_3 SG.none rfl ?_
  obtain ⟨hb3, hf⟩ := boK_some hf
  cases hf
  exact g_zret X hb3 hr hlk dX9_isOld_6
set_option maxHeartbeats 4000000 in
set_option maxRecDepth 100000 in
theorem X9_isOld_ok (K : KE) (l : Launch) (p0 : Int) (res : Int) (hf : X9_isOld p0 = some res) : CT l K.1 vwCl (kT K) yX9_isOld wsX9_isOld rmX9_isOld [ii p0] (some (ii res)) ([]) ([]) :=
  CT.mk (cc := cX9_isOld) (maxL := 1) (ret := (some .boolean)) (by decide) rfl (Nat.le_of_ble_eq_true rfl) (fun p e s m below meth c X hr hlk => X9_isOld_go K l  _ X hr hlk p0 res hf)
theorem iw_X1_arityOf_X1 : ∀ w ∈ u_ws RX1 TX1 4, w ∈ wsX1_arityOf := by decide +kernel
theorem fl_X1_arityOf_15 : Cond.fieldLink RX1 15 (TX1 0).1 (TX1 0).2.1 (TX1 0).2.2.1 ∈ wsX1_arityOf := by decide +kernel
theorem ne_X1_arityOf_37 : (RX1, 37, yX9_within) ∈ nestL := by decide +kernel
theorem wd_X1_arityOf_ini9 : Cond.initialized yX9_within.cls ∈ wsX1_arityOf := by decide +kernel
theorem wd_X1_arityOf_sta_X9_within : Cond.static yX9_within ∈ wsX1_arityOf := by decide +kernel
theorem fl_X1_arityOf_21 : Cond.fieldLink RX1 21 (TX1 1).1 (TX1 1).2.1 (TX1 1).2.2.1 ∈ wsX1_arityOf := by decide +kernel
def rmX1_arityOf : Room := { frames := 1, cells := 0, slots := 0, locals := 22 }
def X1_arityOf (cn0 : Nat) (V0 : FT) (p1 : Int) : Option (Int) := (X9_within p1 0 ((cn0 : Int) - 1)).bind (fun v1 => brEQ v1 0 (some 0) (rdK cn0 V0.1 p1 (fun v3 => some v3)))
set_option maxHeartbeats 4000000 in
set_option maxRecDepth 100000 in
theorem X1_arityOf_go (K : KE) (l : Launch) (cn0 : Nat) (hcn0 : cn0 ≤ 1000) (a : Nat → Nat) (WC : va_W) {p : Program} {e : Env} {s : State} {m : MethodId} {args : Array Value} {below : List Frame} {meth : Method} {c : Code} (X : CX p s m args c K.1 vwCl (kT K) (va_A WC s.heap.size) cX1_arityOf 2 wsX1_arityOf RX1) (hr : meth.sig.returnType = (some .int)) (hlk : meth.locks = false) (V0 : FT) (p1 : Int) (res : Int) (hf : X1_arityOf cn0 V0 p1 = some res) : GO p l e rmX1_arityOf s m args below meth c K.1 vwCl (va_A WC s.heap.size) (MQ below (QC K.1 vwCl (some (ii res)) WC (c1 K cn0 a V0) s.heap.size) args s 0 0 (va_A WC s.heap.size)) 2 0 0 0 [(0, .ref (a 0)), (1, ii p1)] [] (c1 K cn0 a V0) := by
  rw [X1_arityOf] at hf
  refine g_iload_n X dX1_arityOf_0 1 rfl rfl ?_
  refine g_iconst X dX1_arityOf_1 ?_
  refine g_aload_n X dX1_arityOf_2 0 rfl rfl ?_
  refine g_get X (v := ii (cn0 : Int)) 0 0 dX1_arityOf_3 rfl rfl iw_X1_arityOf_X1 (by decide) fl_X1_arityOf_15 rfl ?_
  refine g_iconst X dX1_arityOf_6 ?_
  refine g_isub X dX1_arityOf_7 ?_
  obtain ⟨v1, hc2, hf⟩ := Option.bind_eq_some_iff.mp hf
  refine g_callSN X (As := [ii p1, ii 0, ii ((cn0 : Int) - 1)]) (st := []) (st1 := [ii v1]) (ws' := c1 K cn0 a V0) (X9_within_ok K l p1 0 ((cn0 : Int) - 1) v1 hc2) ggX1_arityOf_X9_within ne_X1_arityOf_37 wd_X1_arityOf_ini9 wd_X1_arityOf_sta_X9_within rfl 3 (by decide +kernel) ⟨rfl, rfl⟩ ⟨Nat.le_of_ble_eq_true rfl, Nat.le_of_ble_eq_true rfl⟩ ⟨Nat.zero_le _, Nat.zero_le _⟩ rfl rfl (Nat.le_of_ble_eq_true rfl) dX1_arityOf_8 SG.none rfl ?_
  refine g_if_eq X hf 23 dX1_arityOf_11 (by decide) (fun hf => ?_) (fun hf => ?_)
  · refine g_iconst X dX1_arityOf_23 ?_
    cases hf
    exact g_iret X hr hlk dX1_arityOf_24
  · refine g_aload_n X dX1_arityOf_14 0 rfl rfl ?_
    refine g_get X (v := .ref (a 1)) 0 1 dX1_arityOf_15 rfl rfl iw_X1_arityOf_X1 (by decide) fl_X1_arityOf_21 rfl ?_
    refine g_iload_n X dX1_arityOf_18 1 rfl rfl ?_
    refine g_iald X hf (by omega) 1 0 dX1_arityOf_19 rfl rfl (fun v3 hf => ?_)
    refine g_goto X 24 dX1_arityOf_20 (by decide) ?_
    cases hf
    exact g_iret X hr hlk dX1_arityOf_24
set_option maxHeartbeats 4000000 in
set_option maxRecDepth 100000 in
theorem X1_arityOf_ok (K : KE) (l : Launch) (cn0 : Nat) (hcn0 : cn0 ≤ 1000) (a : Nat → Nat) (V0 : FT) (p1 : Int) (res : Int) (hf : X1_arityOf cn0 V0 p1 = some res) : CT l K.1 vwCl (kT K) yX1_arityOf wsX1_arityOf rmX1_arityOf [.ref (a 0), ii p1] (some (ii res)) (c1 K cn0 a V0) (c1 K cn0 a V0) :=
  CT.mk (cc := cX1_arityOf) (maxL := 2) (ret := (some .int)) (by decide) rfl (Nat.le_of_ble_eq_true rfl) (fun p e s m below meth c X hr hlk => X1_arityOf_go K l cn0 hcn0 a _ X hr hlk V0 p1 res hf)
theorem iw_X1_putShape_X1 : ∀ w ∈ u_ws RX1 TX1 4, w ∈ wsX1_putShape := by decide +kernel
theorem fl_X1_putShape_15 : Cond.fieldLink RX1 15 (TX1 0).1 (TX1 0).2.1 (TX1 0).2.2.1 ∈ wsX1_putShape := by decide +kernel
theorem ne_X1_putShape_37 : (RX1, 37, yX9_within) ∈ nestL := by decide +kernel
theorem wd_X1_putShape_ini9 : Cond.initialized yX9_within.cls ∈ wsX1_putShape := by decide +kernel
theorem wd_X1_putShape_sta_X9_within : Cond.static yX9_within ∈ wsX1_putShape := by decide +kernel
theorem fl_X1_putShape_21 : Cond.fieldLink RX1 21 (TX1 1).1 (TX1 1).2.1 (TX1 1).2.2.1 ∈ wsX1_putShape := by decide +kernel
theorem fl_X1_putShape_25 : Cond.fieldLink RX1 25 (TX1 2).1 (TX1 2).2.1 (TX1 2).2.2.1 ∈ wsX1_putShape := by decide +kernel
def rmX1_putShape : Room := { frames := 1, cells := 0, slots := 0, locals := 22 }
def X1_putShape (cn0 : Nat) (V0 : FT) (p1 : Int) (p2 : Int) (p3 : Int) : Option (FT) := (X9_within p1 0 ((cn0 : Int) - 1)).bind (fun v1 => brEQ v1 0 (some V0) (wrK cn0 V0.1 p1 p2 (fun f3 => wrK cn0 V0.2.1 p1 p3 (fun f4 => some (f3, f4, V0.2.2)))))
set_option maxHeartbeats 4000000 in
set_option maxRecDepth 100000 in
theorem X1_putShape_go (K : KE) (l : Launch) (cn0 : Nat) (hcn0 : cn0 ≤ 1000) (a : Nat → Nat) (WC : va_W) {p : Program} {e : Env} {s : State} {m : MethodId} {args : Array Value} {below : List Frame} {meth : Method} {c : Code} (X : CX p s m args c K.1 vwCl (kT K) (va_A WC s.heap.size) cX1_putShape 4 wsX1_putShape RX1) (hr : meth.sig.returnType = none) (hlk : meth.locks = false) (V0 : FT) (p1 : Int) (p2 : Int) (p3 : Int) (res : FT) (hf : X1_putShape cn0 V0 p1 p2 p3 = some res) : GO p l e rmX1_putShape s m args below meth c K.1 vwCl (va_A WC s.heap.size) (MQ below (QC K.1 vwCl none WC (c1 K cn0 a res) s.heap.size) args s 0 0 (va_A WC s.heap.size)) 4 0 0 0 [(0, .ref (a 0)), (1, ii p1), (2, ii p2), (3, ii p3)] [] (c1 K cn0 a V0) := by
  rw [X1_putShape] at hf
  refine g_iload_n X dX1_putShape_0 1 rfl rfl ?_
  refine g_iconst X dX1_putShape_1 ?_
  refine g_aload_n X dX1_putShape_2 0 rfl rfl ?_
  refine g_get X (v := ii (cn0 : Int)) 0 0 dX1_putShape_3 rfl rfl iw_X1_putShape_X1 (by decide) fl_X1_putShape_15 rfl ?_
  refine g_iconst X dX1_putShape_6 ?_
  refine g_isub X dX1_putShape_7 ?_
  obtain ⟨v1, hc2, hf⟩ := Option.bind_eq_some_iff.mp hf
  refine g_callSN X (As := [ii p1, ii 0, ii ((cn0 : Int) - 1)]) (st := []) (st1 := [ii v1]) (ws' := c1 K cn0 a V0) (X9_within_ok K l p1 0 ((cn0 : Int) - 1) v1 hc2) ggX1_putShape_X9_within ne_X1_putShape_37 wd_X1_putShape_ini9 wd_X1_putShape_sta_X9_within rfl 3 (by decide +kernel) ⟨rfl, rfl⟩ ⟨Nat.le_of_ble_eq_true rfl, Nat.le_of_ble_eq_true rfl⟩ ⟨Nat.zero_le _, Nat.zero_le _⟩ rfl rfl (Nat.le_of_ble_eq_true rfl) dX1_putShape_8 SG.none rfl ?_
  refine g_if_eq X hf 28 dX1_putShape_11 (by decide) (fun hf => ?_) (fun hf => ?_)
  · cases hf
    exact g_vret X hr hlk dX1_putShape_28
  · refine g_aload_n X dX1_putShape_14 0 rfl rfl ?_
    refine g_get X (v := .ref (a 1)) 0 1 dX1_putShape_15 rfl rfl iw_X1_putShape_X1 (by decide) fl_X1_putShape_21 rfl ?_
    refine g_iload_n X dX1_putShape_18 1 rfl rfl ?_
    refine g_iload_n X dX1_putShape_19 2 rfl rfl ?_
    refine g_iast X hf (by omega) 1 0 dX1_putShape_20 rfl rfl (fun f3 => c1 K cn0 a (f3, V0.2.1, V0.2.2)) (fun _ => rfl) (fun f3 hf => ?_)
    refine g_aload_n X dX1_putShape_21 0 rfl rfl ?_
    refine g_get X (v := .ref (a 2)) 0 2 dX1_putShape_22 rfl rfl iw_X1_putShape_X1 (by decide) fl_X1_putShape_25 rfl ?_
    refine g_iload_n X dX1_putShape_25 1 rfl rfl ?_
    refine g_iload_n X dX1_putShape_26 3 rfl rfl ?_
    refine g_iast X hf (by omega) 2 0 dX1_putShape_27 rfl rfl (fun f4 => c1 K cn0 a (f3, f4, V0.2.2)) (fun _ => rfl) (fun f4 hf => ?_)
    cases hf
    exact g_vret X hr hlk dX1_putShape_28
set_option maxHeartbeats 4000000 in
set_option maxRecDepth 100000 in
theorem X1_putShape_ok (K : KE) (l : Launch) (cn0 : Nat) (hcn0 : cn0 ≤ 1000) (a : Nat → Nat) (V0 : FT) (p1 : Int) (p2 : Int) (p3 : Int) (res : FT) (hf : X1_putShape cn0 V0 p1 p2 p3 = some res) : CT l K.1 vwCl (kT K) yX1_putShape wsX1_putShape rmX1_putShape [.ref (a 0), ii p1, ii p2, ii p3] none (c1 K cn0 a V0) (c1 K cn0 a res) :=
  CT.mk (cc := cX1_putShape) (maxL := 4) (ret := none) (by decide) rfl (Nat.le_of_ble_eq_true rfl) (fun p e s m below meth c X hr hlk => X1_putShape_go K l cn0 hcn0 a _ X hr hlk V0 p1 p2 p3 res hf)
def rmX9_isNew : Room := { frames := 1, cells := 0, slots := 0, locals := 22 }
def X9_isNew (p0 : Int) : Option (Int) := (X9_within p0 0 5).bind (fun v1 => boK v1 (some v1))
set_option maxHeartbeats 4000000 in
set_option maxRecDepth 100000 in
theorem X9_isNew_go (K : KE) (l : Launch) (WC : va_W) {p : Program} {e : Env} {s : State} {m : MethodId} {args : Array Value} {below : List Frame} {meth : Method} {c : Code} (X : CX p s m args c K.1 vwCl (kT K) (va_A WC s.heap.size) cX9_isNew 1 wsX9_isNew RX9) (hr : meth.sig.returnType = (some .boolean)) (hlk : meth.locks = false) (p0 : Int) (res : Int) (hf : X9_isNew p0 = some res) : GO p l e rmX9_isNew s m args below meth c K.1 vwCl (va_A WC s.heap.size) (MQ below (QC K.1 vwCl (some (ii res)) WC ([]) s.heap.size) args s 0 0 (va_A WC s.heap.size)) 1 0 0 0 [(0, ii p0)] [] ([]) := by
  rw [X9_isNew] at hf
  refine g_iload_n X dX9_isNew_0 0 rfl rfl ?_
  refine g_iconst X dX9_isNew_1 ?_
  refine g_iconst X dX9_isNew_2 ?_
  obtain ⟨v1, hc2, hf⟩ := Option.bind_eq_some_iff.mp hf
  refine g_callS X (As := [ii p0, ii 0, ii 5]) (st := []) (st1 := [ii v1]) (ws' := []) (X9_within_ok K l p0 0 5 v1 hc2) gX9_isNew_X9_within rfl 3 (by decide +kernel) ⟨rfl, rfl⟩ ⟨Nat.le_of_ble_eq_true rfl, Nat.le_of_ble_eq_true rfl⟩ ⟨Nat.zero_le _, Nat.zero_le _⟩ rfl rfl (Nat.le_of_ble_eq_true rfl) dX9_isNew_3 SG.none rfl ?_
  obtain ⟨hb3, hf⟩ := boK_some hf
  cases hf
  exact g_zret X hb3 hr hlk dX9_isNew_6
set_option maxHeartbeats 4000000 in
set_option maxRecDepth 100000 in
theorem X9_isNew_ok (K : KE) (l : Launch) (p0 : Int) (res : Int) (hf : X9_isNew p0 = some res) : CT l K.1 vwCl (kT K) yX9_isNew wsX9_isNew rmX9_isNew [ii p0] (some (ii res)) ([]) ([]) :=
  CT.mk (cc := cX9_isNew) (maxL := 1) (ret := (some .boolean)) (by decide) rfl (Nat.le_of_ble_eq_true rfl) (fun p e s m below meth c X hr hlk => X9_isNew_go K l  _ X hr hlk p0 res hf)
def rmX9_isTermPosition : Room := { frames := 1, cells := 0, slots := 0, locals := 22 }
def X9_isTermPosition (p0 : Int) : Option (Int) := (X9_within p0 (-1) 3).bind (fun v1 => boK v1 (some v1))
set_option maxHeartbeats 4000000 in
set_option maxRecDepth 100000 in
theorem X9_isTermPosition_go (K : KE) (l : Launch) (WC : va_W) {p : Program} {e : Env} {s : State} {m : MethodId} {args : Array Value} {below : List Frame} {meth : Method} {c : Code} (X : CX p s m args c K.1 vwCl (kT K) (va_A WC s.heap.size) cX9_isTermPosition 1 wsX9_isTermPosition RX9) (hr : meth.sig.returnType = (some .boolean)) (hlk : meth.locks = false) (p0 : Int) (res : Int) (hf : X9_isTermPosition p0 = some res) : GO p l e rmX9_isTermPosition s m args below meth c K.1 vwCl (va_A WC s.heap.size) (MQ below (QC K.1 vwCl (some (ii res)) WC ([]) s.heap.size) args s 0 0 (va_A WC s.heap.size)) 1 0 0 0 [(0, ii p0)] [] ([]) := by
  rw [X9_isTermPosition] at hf
  refine g_iload_n X dX9_isTermPosition_0 0 rfl rfl ?_
  refine g_iconst X dX9_isTermPosition_1 ?_
  refine g_iconst X dX9_isTermPosition_2 ?_
  obtain ⟨v1, hc2, hf⟩ := Option.bind_eq_some_iff.mp hf
  refine g_callS X (As := [ii p0, ii (-1), ii 3]) (st := []) (st1 := [ii v1]) (ws' := []) (X9_within_ok K l p0 (-1) 3 v1 hc2) gX9_isTermPosition_X9_within rfl 3 (by decide +kernel) ⟨rfl, rfl⟩ ⟨Nat.le_of_ble_eq_true rfl, Nat.le_of_ble_eq_true rfl⟩ ⟨Nat.zero_le _, Nat.zero_le _⟩ rfl rfl (Nat.le_of_ble_eq_true rfl) dX9_isTermPosition_3 SG.none rfl ?_
  obtain ⟨hb3, hf⟩ := boK_some hf
  cases hf
  exact g_zret X hb3 hr hlk dX9_isTermPosition_6
set_option maxHeartbeats 4000000 in
set_option maxRecDepth 100000 in
theorem X9_isTermPosition_ok (K : KE) (l : Launch) (p0 : Int) (res : Int) (hf : X9_isTermPosition p0 = some res) : CT l K.1 vwCl (kT K) yX9_isTermPosition wsX9_isTermPosition rmX9_isTermPosition [ii p0] (some (ii res)) ([]) ([]) :=
  CT.mk (cc := cX9_isTermPosition) (maxL := 1) (ret := (some .boolean)) (by decide) rfl (Nat.le_of_ble_eq_true rfl) (fun p e s m below meth c X hr hlk => X9_isTermPosition_go K l  _ X hr hlk p0 res hf)
def rmX1_slotOf : Room := { frames := 0, cells := 0, slots := 0, locals := 0 }
def X1_slotOf (p0 : Int) (p1 : Int) : Option (Int) := some (((p0 * 5) + p1) - (-1))
set_option maxHeartbeats 4000000 in
set_option maxRecDepth 100000 in
theorem X1_slotOf_go (K : KE) (l : Launch) (WC : va_W) {p : Program} {e : Env} {s : State} {m : MethodId} {args : Array Value} {below : List Frame} {meth : Method} {c : Code} (X : CX p s m args c K.1 vwCl (kT K) (va_A WC s.heap.size) cX1_slotOf 2 wsX1_slotOf RX1) (hr : meth.sig.returnType = (some .int)) (hlk : meth.locks = false) (p0 : Int) (p1 : Int) (res : Int) (hf : X1_slotOf p0 p1 = some res) : GO p l e rmX1_slotOf s m args below meth c K.1 vwCl (va_A WC s.heap.size) (MQ below (QC K.1 vwCl (some (ii res)) WC ([]) s.heap.size) args s 0 0 (va_A WC s.heap.size)) 2 0 0 0 [(0, ii p0), (1, ii p1)] [] ([]) := by
  rw [X1_slotOf] at hf
  refine g_iload_n X dX1_slotOf_0 0 rfl rfl ?_
  refine g_iconst X dX1_slotOf_1 ?_
  refine g_imul X dX1_slotOf_2 ?_
  refine g_iload_n X dX1_slotOf_3 1 rfl rfl ?_
  refine g_iadd X dX1_slotOf_4 ?_
  refine g_iconst X dX1_slotOf_5 ?_
  refine g_isub X dX1_slotOf_6 ?_
  cases hf
  exact g_iret X hr hlk dX1_slotOf_7
set_option maxHeartbeats 4000000 in
set_option maxRecDepth 100000 in
theorem X1_slotOf_ok (K : KE) (l : Launch) (p0 : Int) (p1 : Int) (res : Int) (hf : X1_slotOf p0 p1 = some res) : CT l K.1 vwCl (kT K) yX1_slotOf wsX1_slotOf rmX1_slotOf [ii p0, ii p1] (some (ii res)) ([]) ([]) :=
  CT.mk (cc := cX1_slotOf) (maxL := 2) (ret := (some .int)) (by decide) rfl (Nat.le_of_ble_eq_true rfl) (fun p e s m below meth c X hr hlk => X1_slotOf_go K l  _ X hr hlk p0 p1 res hf)
theorem iw_X1_term_X1 : ∀ w ∈ u_ws RX1 TX1 4, w ∈ wsX1_term := by decide +kernel
theorem fl_X1_term_28 : Cond.fieldLink RX1 28 (TX1 3).1 (TX1 3).2.1 (TX1 3).2.2.1 ∈ wsX1_term := by decide +kernel
theorem ne_X1_term_37 : (RX1, 37, yX9_within) ∈ nestL := by decide +kernel
theorem wd_X1_term_ini9 : Cond.initialized yX9_within.cls ∈ wsX1_term := by decide +kernel
theorem wd_X1_term_sta_X9_within : Cond.static yX9_within ∈ wsX1_term := by decide +kernel
def rmX1_term : Room := { frames := 1, cells := 0, slots := 0, locals := 22 }
def X1_term (cn0 : Nat) (V0 : FT) (p1 : Int) (p2 : Int) : Option (Int) := (X1_slotOf p1 p2).bind (fun v1 => (X9_within v1 0 ((((5 * cn0) : Nat) : Int) - 1)).bind (fun v3 => brEQ v3 0 (some 0) (rdK (5 * cn0) V0.2.2 v1 (fun v5 => some v5))))
set_option maxHeartbeats 4000000 in
set_option maxRecDepth 100000 in
theorem X1_term_go (K : KE) (l : Launch) (cn0 : Nat) (hcn0 : cn0 ≤ 1000) (a : Nat → Nat) (WC : va_W) {p : Program} {e : Env} {s : State} {m : MethodId} {args : Array Value} {below : List Frame} {meth : Method} {c : Code} (X : CX p s m args c K.1 vwCl (kT K) (va_A WC s.heap.size) cX1_term 4 wsX1_term RX1) (hr : meth.sig.returnType = (some .int)) (hlk : meth.locks = false) (V0 : FT) (p1 : Int) (p2 : Int) (res : Int) (hf : X1_term cn0 V0 p1 p2 = some res) : GO p l e rmX1_term s m args below meth c K.1 vwCl (va_A WC s.heap.size) (MQ below (QC K.1 vwCl (some (ii res)) WC (c1 K cn0 a V0) s.heap.size) args s 0 0 (va_A WC s.heap.size)) 4 0 0 0 [(0, .ref (a 0)), (1, ii p1), (2, ii p2)] [] (c1 K cn0 a V0) := by
  rw [X1_term] at hf
  refine g_iload_n X dX1_term_0 1 rfl rfl ?_
  refine g_iload_n X dX1_term_1 2 rfl rfl ?_
  obtain ⟨v1, hc2, hf⟩ := Option.bind_eq_some_iff.mp hf
  refine g_callS X (As := [ii p1, ii p2]) (st := []) (st1 := [ii v1]) (ws' := c1 K cn0 a V0) (X1_slotOf_ok K l p1 p2 v1 hc2) gX1_term_X1_slotOf rfl 2 (by decide +kernel) ⟨rfl, rfl⟩ ⟨Nat.le_of_ble_eq_true rfl, Nat.le_of_ble_eq_true rfl⟩ ⟨Nat.zero_le _, Nat.zero_le _⟩ rfl rfl (Nat.le_of_ble_eq_true rfl) dX1_term_2 SG.none rfl ?_
  refine g_istore_n X (lv' := [(3, ii v1), (0, .ref (a 0)), (1, ii p1), (2, ii p2)]) dX1_term_5 rfl (by decide) rfl ?_
  refine g_iload_n X dX1_term_6 0 rfl rfl ?_
  refine g_iconst X dX1_term_7 ?_
  refine g_aload_n X dX1_term_8 1 rfl rfl ?_
  refine g_get X (v := .ref (a 3)) 0 3 dX1_term_9 rfl rfl iw_X1_term_X1 (by decide) fl_X1_term_28 rfl ?_
  refine g_alen X (n := (5 * cn0)) 3 0 dX1_term_12 rfl rfl ?_
  refine g_iconst X dX1_term_13 ?_
  refine g_isub X dX1_term_14 ?_
  obtain ⟨v3, hc4, hf⟩ := Option.bind_eq_some_iff.mp hf
  refine g_callSN X (As := [ii v1, ii 0, ii ((((5 * cn0) : Nat) : Int) - 1)]) (st := []) (st1 := [ii v3]) (ws' := c1 K cn0 a V0) (X9_within_ok K l v1 0 ((((5 * cn0) : Nat) : Int) - 1) v3 hc4) ggX1_term_X9_within ne_X1_term_37 wd_X1_term_ini9 wd_X1_term_sta_X9_within rfl 3 (by decide +kernel) ⟨rfl, rfl⟩ ⟨Nat.le_of_ble_eq_true rfl, Nat.le_of_ble_eq_true rfl⟩ ⟨Nat.zero_le _, Nat.zero_le _⟩ rfl rfl (Nat.le_of_ble_eq_true rfl) dX1_term_15 SG.none rfl ?_
  refine g_if_eq X hf 30 dX1_term_18 (by decide) (fun hf => ?_) (fun hf => ?_)
  · refine g_iconst X dX1_term_30 ?_
    cases hf
    exact g_iret X hr hlk dX1_term_31
  · refine g_aload_n X dX1_term_21 1 rfl rfl ?_
    refine g_get X (v := .ref (a 3)) 0 3 dX1_term_22 rfl rfl iw_X1_term_X1 (by decide) fl_X1_term_28 rfl ?_
    refine g_iload_n X dX1_term_25 0 rfl rfl ?_
    refine g_iald X hf (by omega) 3 0 dX1_term_26 rfl rfl (fun v5 hf => ?_)
    refine g_goto X 31 dX1_term_27 (by decide) ?_
    cases hf
    exact g_iret X hr hlk dX1_term_31
set_option maxHeartbeats 4000000 in
set_option maxRecDepth 100000 in
theorem X1_term_ok (K : KE) (l : Launch) (cn0 : Nat) (hcn0 : cn0 ≤ 1000) (a : Nat → Nat) (V0 : FT) (p1 : Int) (p2 : Int) (res : Int) (hf : X1_term cn0 V0 p1 p2 = some res) : CT l K.1 vwCl (kT K) yX1_term wsX1_term rmX1_term [.ref (a 0), ii p1, ii p2] (some (ii res)) (c1 K cn0 a V0) (c1 K cn0 a V0) :=
  CT.mk (cc := cX1_term) (maxL := 4) (ret := (some .int)) (by decide) rfl (Nat.le_of_ble_eq_true rfl) (fun p e s m below meth c X hr hlk => X1_term_go K l cn0 hcn0 a _ X hr hlk V0 p1 p2 res hf)
theorem iw_X1_putTerm_X1 : ∀ w ∈ u_ws RX1 TX1 4, w ∈ wsX1_putTerm := by decide +kernel
theorem fl_X1_putTerm_28 : Cond.fieldLink RX1 28 (TX1 3).1 (TX1 3).2.1 (TX1 3).2.2.1 ∈ wsX1_putTerm := by decide +kernel
theorem ne_X1_putTerm_37 : (RX1, 37, yX9_within) ∈ nestL := by decide +kernel
theorem wd_X1_putTerm_ini9 : Cond.initialized yX9_within.cls ∈ wsX1_putTerm := by decide +kernel
theorem wd_X1_putTerm_sta_X9_within : Cond.static yX9_within ∈ wsX1_putTerm := by decide +kernel
def rmX1_putTerm : Room := { frames := 1, cells := 0, slots := 0, locals := 22 }
def X1_putTerm (cn0 : Nat) (V0 : FT) (p1 : Int) (p2 : Int) (p3 : Int) : Option (FT) := (X1_slotOf p1 p2).bind (fun v1 => (X9_within v1 0 ((((5 * cn0) : Nat) : Int) - 1)).bind (fun v3 => brEQ v3 0 (some V0) (wrK (5 * cn0) V0.2.2 v1 p3 (fun f5 => some (V0.1, V0.2.1, f5)))))
set_option maxHeartbeats 4000000 in
set_option maxRecDepth 100000 in
theorem X1_putTerm_go (K : KE) (l : Launch) (cn0 : Nat) (hcn0 : cn0 ≤ 1000) (a : Nat → Nat) (WC : va_W) {p : Program} {e : Env} {s : State} {m : MethodId} {args : Array Value} {below : List Frame} {meth : Method} {c : Code} (X : CX p s m args c K.1 vwCl (kT K) (va_A WC s.heap.size) cX1_putTerm 5 wsX1_putTerm RX1) (hr : meth.sig.returnType = none) (hlk : meth.locks = false) (V0 : FT) (p1 : Int) (p2 : Int) (p3 : Int) (res : FT) (hf : X1_putTerm cn0 V0 p1 p2 p3 = some res) : GO p l e rmX1_putTerm s m args below meth c K.1 vwCl (va_A WC s.heap.size) (MQ below (QC K.1 vwCl none WC (c1 K cn0 a res) s.heap.size) args s 0 0 (va_A WC s.heap.size)) 5 0 0 0 [(0, .ref (a 0)), (1, ii p1), (2, ii p2), (3, ii p3)] [] (c1 K cn0 a V0) := by
  rw [X1_putTerm] at hf
  refine g_iload_n X dX1_putTerm_0 1 rfl rfl ?_
  refine g_iload_n X dX1_putTerm_1 2 rfl rfl ?_
  obtain ⟨v1, hc2, hf⟩ := Option.bind_eq_some_iff.mp hf
  refine g_callS X (As := [ii p1, ii p2]) (st := []) (st1 := [ii v1]) (ws' := c1 K cn0 a V0) (X1_slotOf_ok K l p1 p2 v1 hc2) gX1_putTerm_X1_slotOf rfl 2 (by decide +kernel) ⟨rfl, rfl⟩ ⟨Nat.le_of_ble_eq_true rfl, Nat.le_of_ble_eq_true rfl⟩ ⟨Nat.zero_le _, Nat.zero_le _⟩ rfl rfl (Nat.le_of_ble_eq_true rfl) dX1_putTerm_2 SG.none rfl ?_
  refine g_istore X (lv' := [(4, ii v1), (0, .ref (a 0)), (1, ii p1), (2, ii p2), (3, ii p3)]) dX1_putTerm_5 (by decide) rfl ?_
  refine g_iload X dX1_putTerm_7 0 rfl ?_
  refine g_iconst X dX1_putTerm_9 ?_
  refine g_aload_n X dX1_putTerm_10 1 rfl rfl ?_
  refine g_get X (v := .ref (a 3)) 0 3 dX1_putTerm_11 rfl rfl iw_X1_putTerm_X1 (by decide) fl_X1_putTerm_28 rfl ?_
  refine g_alen X (n := (5 * cn0)) 3 0 dX1_putTerm_14 rfl rfl ?_
  refine g_iconst X dX1_putTerm_15 ?_
  refine g_isub X dX1_putTerm_16 ?_
  obtain ⟨v3, hc4, hf⟩ := Option.bind_eq_some_iff.mp hf
  refine g_callSN X (As := [ii v1, ii 0, ii ((((5 * cn0) : Nat) : Int) - 1)]) (st := []) (st1 := [ii v3]) (ws' := c1 K cn0 a V0) (X9_within_ok K l v1 0 ((((5 * cn0) : Nat) : Int) - 1) v3 hc4) ggX1_putTerm_X9_within ne_X1_putTerm_37 wd_X1_putTerm_ini9 wd_X1_putTerm_sta_X9_within rfl 3 (by decide +kernel) ⟨rfl, rfl⟩ ⟨Nat.le_of_ble_eq_true rfl, Nat.le_of_ble_eq_true rfl⟩ ⟨Nat.zero_le _, Nat.zero_le _⟩ rfl rfl (Nat.le_of_ble_eq_true rfl) dX1_putTerm_17 SG.none rfl ?_
  refine g_if_eq X hf 31 dX1_putTerm_20 (by decide) (fun hf => ?_) (fun hf => ?_)
  · cases hf
    exact g_vret X hr hlk dX1_putTerm_31
  · refine g_aload_n X dX1_putTerm_23 1 rfl rfl ?_
    refine g_get X (v := .ref (a 3)) 0 3 dX1_putTerm_24 rfl rfl iw_X1_putTerm_X1 (by decide) fl_X1_putTerm_28 rfl ?_
    refine g_iload X dX1_putTerm_27 0 rfl ?_
    refine g_iload_n X dX1_putTerm_29 4 rfl rfl ?_
    refine g_iast X hf (by omega) 3 0 dX1_putTerm_30 rfl rfl (fun f5 => c1 K cn0 a (V0.1, V0.2.1, f5)) (fun _ => rfl) (fun f5 hf => ?_)
    cases hf
    exact g_vret X hr hlk dX1_putTerm_31
set_option maxHeartbeats 4000000 in
set_option maxRecDepth 100000 in
theorem X1_putTerm_ok (K : KE) (l : Launch) (cn0 : Nat) (hcn0 : cn0 ≤ 1000) (a : Nat → Nat) (V0 : FT) (p1 : Int) (p2 : Int) (p3 : Int) (res : FT) (hf : X1_putTerm cn0 V0 p1 p2 p3 = some res) : CT l K.1 vwCl (kT K) yX1_putTerm wsX1_putTerm rmX1_putTerm [.ref (a 0), ii p1, ii p2, ii p3] none (c1 K cn0 a V0) (c1 K cn0 a res) :=
  CT.mk (cc := cX1_putTerm) (maxL := 5) (ret := none) (by decide) rfl (Nat.le_of_ble_eq_true rfl) (fun p e s m below meth c X hr hlk => X1_putTerm_go K l cn0 hcn0 a _ X hr hlk V0 p1 p2 p3 res hf)
theorem ne_X4_targetOf_27 : (RX4, 27, yX9_within) ∈ nestL := by decide +kernel
theorem wd_X4_targetOf_ini9 : Cond.initialized yX9_within.cls ∈ wsX4_targetOf := by decide +kernel
theorem wd_X4_targetOf_sta_X9_within : Cond.static yX9_within ∈ wsX4_targetOf := by decide +kernel
theorem iw_X4_targetOf_X4 : ∀ w ∈ u_ws RX4 TX4 3, w ∈ wsX4_targetOf := by decide +kernel
theorem fl_X4_targetOf_9 : Cond.fieldLink RX4 9 (TX4 0).1 (TX4 0).2.1 (TX4 0).2.2.1 ∈ wsX4_targetOf := by decide +kernel
def rmX4_targetOf : Room := { frames := 1, cells := 0, slots := 0, locals := 22 }
def X4_targetOf (V0 : Mp) (p1 : Int) : Option (Int) := (X9_within p1 0 5).bind (fun v1 => brEQ v1 0 (some (-1)) (rdK 6 V0.1 p1 (fun v3 => some v3)))
set_option maxHeartbeats 4000000 in
set_option maxRecDepth 100000 in
theorem X4_targetOf_go (K : KE) (l : Launch) (a : Nat → Nat) (WC : va_W) {p : Program} {e : Env} {s : State} {m : MethodId} {args : Array Value} {below : List Frame} {meth : Method} {c : Code} (X : CX p s m args c K.1 vwCl (kT K) (va_A WC s.heap.size) cX4_targetOf 2 wsX4_targetOf RX4) (hr : meth.sig.returnType = (some .int)) (hlk : meth.locks = false) (V0 : Mp) (p1 : Int) (res : Int) (hf : X4_targetOf V0 p1 = some res) : GO p l e rmX4_targetOf s m args below meth c K.1 vwCl (va_A WC s.heap.size) (MQ below (QC K.1 vwCl (some (ii res)) WC (c4 K a V0) s.heap.size) args s 0 0 (va_A WC s.heap.size)) 2 0 0 0 [(0, .ref (a 0)), (1, ii p1)] [] (c4 K a V0) := by
  rw [X4_targetOf] at hf
  refine g_iload_n X dX4_targetOf_0 1 rfl rfl ?_
  refine g_iconst X dX4_targetOf_1 ?_
  refine g_iconst X dX4_targetOf_2 ?_
  obtain ⟨v1, hc2, hf⟩ := Option.bind_eq_some_iff.mp hf
  refine g_callSN X (As := [ii p1, ii 0, ii 5]) (st := []) (st1 := [ii v1]) (ws' := c4 K a V0) (X9_within_ok K l p1 0 5 v1 hc2) ggX4_targetOf_X9_within ne_X4_targetOf_27 wd_X4_targetOf_ini9 wd_X4_targetOf_sta_X9_within rfl 3 (by decide +kernel) ⟨rfl, rfl⟩ ⟨Nat.le_of_ble_eq_true rfl, Nat.le_of_ble_eq_true rfl⟩ ⟨Nat.zero_le _, Nat.zero_le _⟩ rfl rfl (Nat.le_of_ble_eq_true rfl) dX4_targetOf_3 SG.none rfl ?_
  refine g_if_eq X hf 18 dX4_targetOf_6 (by decide) (fun hf => ?_) (fun hf => ?_)
  · refine g_iconst X dX4_targetOf_18 ?_
    cases hf
    exact g_iret X hr hlk dX4_targetOf_19
  · refine g_aload_n X dX4_targetOf_9 0 rfl rfl ?_
    refine g_get X (v := .ref (a 1)) 0 0 dX4_targetOf_10 rfl rfl iw_X4_targetOf_X4 (by decide) fl_X4_targetOf_9 rfl ?_
    refine g_iload_n X dX4_targetOf_13 1 rfl rfl ?_
    refine g_iald X hf (by decide) 1 0 dX4_targetOf_14 rfl rfl (fun v3 hf => ?_)
    refine g_goto X 19 dX4_targetOf_15 (by decide) ?_
    cases hf
    exact g_iret X hr hlk dX4_targetOf_19
set_option maxHeartbeats 4000000 in
set_option maxRecDepth 100000 in
theorem X4_targetOf_ok (K : KE) (l : Launch) (a : Nat → Nat) (V0 : Mp) (p1 : Int) (res : Int) (hf : X4_targetOf V0 p1 = some res) : CT l K.1 vwCl (kT K) yX4_targetOf wsX4_targetOf rmX4_targetOf [.ref (a 0), ii p1] (some (ii res)) (c4 K a V0) (c4 K a V0) :=
  CT.mk (cc := cX4_targetOf) (maxL := 2) (ret := (some .int)) (by decide) rfl (Nat.le_of_ble_eq_true rfl) (fun p e s m below meth c X hr hlk => X4_targetOf_go K l a _ X hr hlk V0 p1 res hf)
theorem ne_X4_putEntry_27 : (RX4, 27, yX9_within) ∈ nestL := by decide +kernel
theorem wd_X4_putEntry_ini9 : Cond.initialized yX9_within.cls ∈ wsX4_putEntry := by decide +kernel
theorem wd_X4_putEntry_sta_X9_within : Cond.static yX9_within ∈ wsX4_putEntry := by decide +kernel
theorem iw_X4_putEntry_X4 : ∀ w ∈ u_ws RX4 TX4 3, w ∈ wsX4_putEntry := by decide +kernel
theorem fl_X4_putEntry_15 : Cond.fieldLink RX4 15 (TX4 1).1 (TX4 1).2.1 (TX4 1).2.2.1 ∈ wsX4_putEntry := by decide +kernel
theorem fl_X4_putEntry_18 : Cond.fieldLink RX4 18 (TX4 2).1 (TX4 2).2.1 (TX4 2).2.2.1 ∈ wsX4_putEntry := by decide +kernel
def rmX4_putEntry : Room := { frames := 1, cells := 0, slots := 0, locals := 22 }
def X4_putEntry (V0 : Mp) (p1 : Int) (p2 : Int) (p3 : Int) (p4 : Int) : Option (Mp) := (X9_within ((p1 * 4) + p2) 0 23).bind (fun v1 => brEQ v1 0 (some V0) (wrK 24 V0.2.1 ((p1 * 4) + p2) p3 (fun f3 => wrK 24 V0.2.2 ((p1 * 4) + p2) p4 (fun f4 => some (V0.1, f3, f4)))))
set_option maxHeartbeats 4000000 in
set_option maxRecDepth 100000 in
theorem X4_putEntry_go (K : KE) (l : Launch) (a : Nat → Nat) (WC : va_W) {p : Program} {e : Env} {s : State} {m : MethodId} {args : Array Value} {below : List Frame} {meth : Method} {c : Code} (X : CX p s m args c K.1 vwCl (kT K) (va_A WC s.heap.size) cX4_putEntry 6 wsX4_putEntry RX4) (hr : meth.sig.returnType = none) (hlk : meth.locks = false) (V0 : Mp) (p1 : Int) (p2 : Int) (p3 : Int) (p4 : Int) (res : Mp) (hf : X4_putEntry V0 p1 p2 p3 p4 = some res) : GO p l e rmX4_putEntry s m args below meth c K.1 vwCl (va_A WC s.heap.size) (MQ below (QC K.1 vwCl none WC (c4 K a res) s.heap.size) args s 0 0 (va_A WC s.heap.size)) 6 0 0 0 [(0, .ref (a 0)), (1, ii p1), (2, ii p2), (3, ii p3), (4, ii p4)] [] (c4 K a V0) := by
  rw [X4_putEntry] at hf
  refine g_iload_n X dX4_putEntry_0 1 rfl rfl ?_
  refine g_iconst X dX4_putEntry_1 ?_
  refine g_imul X dX4_putEntry_2 ?_
  refine g_iload_n X dX4_putEntry_3 2 rfl rfl ?_
  refine g_iadd X dX4_putEntry_4 ?_
  refine g_istore X (lv' := [(5, ii ((p1 * 4) + p2)), (0, .ref (a 0)), (1, ii p1), (2, ii p2), (3, ii p3), (4, ii p4)]) dX4_putEntry_5 (by decide) rfl ?_
  refine g_iload X dX4_putEntry_7 0 rfl ?_
  refine g_iconst X dX4_putEntry_9 ?_
  refine g_bipush X dX4_putEntry_10 (by decide +kernel) ?_
  obtain ⟨v1, hc2, hf⟩ := Option.bind_eq_some_iff.mp hf
  refine g_callSN X (As := [ii ((p1 * 4) + p2), ii 0, ii 23]) (st := []) (st1 := [ii v1]) (ws' := c4 K a V0) (X9_within_ok K l ((p1 * 4) + p2) 0 23 v1 hc2) ggX4_putEntry_X9_within ne_X4_putEntry_27 wd_X4_putEntry_ini9 wd_X4_putEntry_sta_X9_within rfl 3 (by decide +kernel) ⟨rfl, rfl⟩ ⟨Nat.le_of_ble_eq_true rfl, Nat.le_of_ble_eq_true rfl⟩ ⟨Nat.zero_le _, Nat.zero_le _⟩ rfl rfl (Nat.le_of_ble_eq_true rfl) dX4_putEntry_12 SG.none rfl ?_
  refine g_if_eq X hf 35 dX4_putEntry_15 (by decide) (fun hf => ?_) (fun hf => ?_)
  · cases hf
    exact g_vret X hr hlk dX4_putEntry_35
  · refine g_aload_n X dX4_putEntry_18 1 rfl rfl ?_
    refine g_get X (v := .ref (a 2)) 0 1 dX4_putEntry_19 rfl rfl iw_X4_putEntry_X4 (by decide) fl_X4_putEntry_15 rfl ?_
    refine g_iload X dX4_putEntry_22 0 rfl ?_
    refine g_iload_n X dX4_putEntry_24 4 rfl rfl ?_
    refine g_iast X hf (by decide) 2 0 dX4_putEntry_25 rfl rfl (fun f3 => c4 K a (V0.1, f3, V0.2.2)) (fun _ => rfl) (fun f3 hf => ?_)
    refine g_aload_n X dX4_putEntry_26 1 rfl rfl ?_
    refine g_get X (v := .ref (a 3)) 0 2 dX4_putEntry_27 rfl rfl iw_X4_putEntry_X4 (by decide) fl_X4_putEntry_18 rfl ?_
    refine g_iload X dX4_putEntry_30 0 rfl ?_
    refine g_iload X dX4_putEntry_32 5 rfl ?_
    refine g_iast X hf (by decide) 3 0 dX4_putEntry_34 rfl rfl (fun f4 => c4 K a (V0.1, f3, f4)) (fun _ => rfl) (fun f4 hf => ?_)
    cases hf
    exact g_vret X hr hlk dX4_putEntry_35
set_option maxHeartbeats 4000000 in
set_option maxRecDepth 100000 in
theorem X4_putEntry_ok (K : KE) (l : Launch) (a : Nat → Nat) (V0 : Mp) (p1 : Int) (p2 : Int) (p3 : Int) (p4 : Int) (res : Mp) (hf : X4_putEntry V0 p1 p2 p3 p4 = some res) : CT l K.1 vwCl (kT K) yX4_putEntry wsX4_putEntry rmX4_putEntry [.ref (a 0), ii p1, ii p2, ii p3, ii p4] none (c4 K a V0) (c4 K a res) :=
  CT.mk (cc := cX4_putEntry) (maxL := 6) (ret := none) (by decide) rfl (Nat.le_of_ble_eq_true rfl) (fun p e s m below meth c X hr hlk => X4_putEntry_go K l a _ X hr hlk V0 p1 p2 p3 p4 res hf)
def rmX4_resetEntries : Room := { frames := 2, cells := 0, slots := 0, locals := 47 }
def X4_resetEntries_L2 (kx : Mp → Option (Mp)) (x1 : Int) : Nat → Int → Mp → Option (Mp)
  | 0, _, _ => none
  | n + 1, y2, V0 => brLT y2 4 (ltK (fun q1 : Int => (X4_putEntry V0 x1 y2 q1 0).bind (fun v3 => X4_resetEntries_L2 kx x1 n (y2 + 1) v3)) (fun j2 => brLE y2 2 (j2 y2) (j2 (-1)))) (kx V0)
def X4_resetEntries (V0 : Mp) (p1 : Int) : Option (Mp) := X4_resetEntries_L2 (fun w5 => some w5) p1 FU 0 V0
set_option maxHeartbeats 4000000 in
set_option maxRecDepth 100000 in
theorem X4_resetEntries_L2_ok (K : KE) (l : Launch) (a : Nat → Nat) (WC : va_W) {p : Program} {e : Env} {s : State} {m : MethodId} {args : Array Value} {below : List Frame} {meth : Method} {c : Code} (X : CX p s m args c K.1 vwCl (kT K) (va_A WC s.heap.size) cX4_resetEntries 3 wsX4_resetEntries RX4) (hr : meth.sig.returnType = none) (hlk : meth.locks = false)  (x1 : Int) (res : Mp) {kx : Mp → Option (Mp)} : ∀ (n : Nat) (y2 : Int) (V0 : Mp), X4_resetEntries_L2 kx x1 n y2 V0 = some res → (∀ (V0z : Mp), kx V0z = some res → GO p l e rmX4_resetEntries s m args below meth c K.1 vwCl (va_A WC s.heap.size) (MQ below (QC K.1 vwCl none WC (c4 K a res) s.heap.size) args s 0 0 (va_A WC s.heap.size)) 3 0 0 30 [] [] (c4 K a V0z)) → GO p l e rmX4_resetEntries s m args below meth c K.1 vwCl (va_A WC s.heap.size) (MQ below (QC K.1 vwCl none WC (c4 K a res) s.heap.size) args s 0 0 (va_A WC s.heap.size)) 3 0 0 2 [(0, .ref (a 0)), (1, ii x1), (2, ii y2)] [] (c4 K a V0) := by
  intro n
  induction n with
  | zero =>
    intro y2 V0 hf _
    rw [X4_resetEntries_L2] at hf
    cases hf
  | succ n ih =>
    intro y2 V0 hf hk
    rw [X4_resetEntries_L2] at hf
    refine g_iload_n X dX4_resetEntries_2 2 rfl rfl ?_
    refine g_iconst X dX4_resetEntries_3 ?_
    refine g_icmp_ge X hf 30 dX4_resetEntries_4 (by decide) (fun hf => ?_) (fun hf => ?_)
    · refine g_aload_n X dX4_resetEntries_7 0 rfl rfl ?_
      refine g_iload_n X dX4_resetEntries_8 1 rfl rfl ?_
      refine g_iload_n X dX4_resetEntries_9 2 rfl rfl ?_
      refine g_iload_n X dX4_resetEntries_10 2 rfl rfl ?_
      refine g_iconst X dX4_resetEntries_11 ?_
      refine g_let (G := fun q1 : Int => GO p l e rmX4_resetEntries s m args below meth c K.1 vwCl (va_A WC s.heap.size) (MQ below (QC K.1 vwCl none WC (c4 K a res) s.heap.size) args s 0 0 (va_A WC s.heap.size)) 3 0 0 20 [(0, .ref (a 0)), (1, ii x1), (2, ii y2)] [ii q1, ii y2, ii x1, .ref (a 0)] (c4 K a V0)) hf (fun q1 hf => ?_) (fun j2 hj2 hf => ?_)
      · refine g_iconst X dX4_resetEntries_20 ?_
        obtain ⟨v3, hc4, hf⟩ := Option.bind_eq_some_iff.mp hf
        refine g_callV X (As := [ii x1, ii y2, ii q1, ii 0]) (st := []) (st1 := []) (ws' := c4 K a v3) (X4_putEntry_ok K l a V0 x1 y2 q1 0 v3 hc4) gX4_resetEntries_X4_putEntry rfl 4 (by decide +kernel) ⟨rfl, rfl⟩ ⟨Nat.le_of_ble_eq_true rfl, Nat.le_of_ble_eq_true rfl⟩ ⟨Nat.zero_le _, Nat.zero_le _⟩ 0 rfl rfl rfl rfl (Nat.le_of_ble_eq_true rfl) dX4_resetEntries_21 (SG.all rfl) rfl ?_
        refine g_iinc X (lv' := [(2, ii (y2 + 1)), (0, .ref (a 0)), (1, ii x1)]) dX4_resetEntries_24 2 rfl (by decide) rfl ?_
        refine g_goto X 2 dX4_resetEntries_27 (by decide) ?_
        refine g_sub (lv' := [(0, .ref (a 0)), (1, ii x1), (2, ii (y2 + 1))]) [1, 2, 0] rfl ?_
        exact ih (y2 + 1) v3 hf hk
      · refine g_icmp_gt X hf 19 dX4_resetEntries_12 (by decide) (fun hf => ?_) (fun hf => ?_)
        · refine g_iload_n X dX4_resetEntries_15 2 rfl rfl ?_
          refine g_goto X 20 dX4_resetEntries_16 (by decide) ?_
          exact hj2 y2 hf
        · refine g_iconst X dX4_resetEntries_19 ?_
          exact hj2 (-1) hf
    · refine g_sub (lv' := []) [] rfl ?_
      exact hk V0 hf
set_option maxHeartbeats 4000000 in
set_option maxRecDepth 100000 in
theorem X4_resetEntries_go (K : KE) (l : Launch) (a : Nat → Nat) (WC : va_W) {p : Program} {e : Env} {s : State} {m : MethodId} {args : Array Value} {below : List Frame} {meth : Method} {c : Code} (X : CX p s m args c K.1 vwCl (kT K) (va_A WC s.heap.size) cX4_resetEntries 3 wsX4_resetEntries RX4) (hr : meth.sig.returnType = none) (hlk : meth.locks = false) (V0 : Mp) (p1 : Int) (res : Mp) (hf : X4_resetEntries V0 p1 = some res) : GO p l e rmX4_resetEntries s m args below meth c K.1 vwCl (va_A WC s.heap.size) (MQ below (QC K.1 vwCl none WC (c4 K a res) s.heap.size) args s 0 0 (va_A WC s.heap.size)) 3 0 0 0 [(0, .ref (a 0)), (1, ii p1)] [] (c4 K a V0) := by
  rw [X4_resetEntries] at hf
  refine g_iconst X dX4_resetEntries_0 ?_
  refine g_istore_n X (lv' := [(2, ii 0), (0, .ref (a 0)), (1, ii p1)]) dX4_resetEntries_1 rfl (by decide) rfl ?_
  refine g_sub (lv' := [(0, .ref (a 0)), (1, ii p1), (2, ii 0)]) [1, 2, 0] rfl ?_
  refine X4_resetEntries_L2_ok K l a WC X hr hlk p1 res FU 0 V0 hf (fun w5 hf => ?_)
  cases hf
  exact g_vret X hr hlk dX4_resetEntries_30
set_option maxHeartbeats 4000000 in
set_option maxRecDepth 100000 in
theorem X4_resetEntries_ok (K : KE) (l : Launch) (a : Nat → Nat) (V0 : Mp) (p1 : Int) (res : Mp) (hf : X4_resetEntries V0 p1 = some res) : CT l K.1 vwCl (kT K) yX4_resetEntries wsX4_resetEntries rmX4_resetEntries [.ref (a 0), ii p1] none (c4 K a V0) (c4 K a res) :=
  CT.mk (cc := cX4_resetEntries) (maxL := 3) (ret := none) (by decide) rfl (Nat.le_of_ble_eq_true rfl) (fun p e s m below meth c X hr hlk => X4_resetEntries_go K l a _ X hr hlk V0 p1 res hf)
theorem ne_X4_putTarget_27 : (RX4, 27, yX9_within) ∈ nestL := by decide +kernel
theorem wd_X4_putTarget_ini9 : Cond.initialized yX9_within.cls ∈ wsX4_putTarget := by decide +kernel
theorem wd_X4_putTarget_sta_X9_within : Cond.static yX9_within ∈ wsX4_putTarget := by decide +kernel
theorem iw_X4_putTarget_X4 : ∀ w ∈ u_ws RX4 TX4 3, w ∈ wsX4_putTarget := by decide +kernel
theorem fl_X4_putTarget_9 : Cond.fieldLink RX4 9 (TX4 0).1 (TX4 0).2.1 (TX4 0).2.2.1 ∈ wsX4_putTarget := by decide +kernel
def rmX4_putTarget : Room := { frames := 1, cells := 0, slots := 0, locals := 22 }
def X4_putTarget (V0 : Mp) (p1 : Int) (p2 : Int) : Option (Mp) := (X9_within p1 0 5).bind (fun v1 => brEQ v1 0 (some V0) (wrK 6 V0.1 p1 p2 (fun f3 => some (f3, V0.2.1, V0.2.2))))
set_option maxHeartbeats 4000000 in
set_option maxRecDepth 100000 in
theorem X4_putTarget_go (K : KE) (l : Launch) (a : Nat → Nat) (WC : va_W) {p : Program} {e : Env} {s : State} {m : MethodId} {args : Array Value} {below : List Frame} {meth : Method} {c : Code} (X : CX p s m args c K.1 vwCl (kT K) (va_A WC s.heap.size) cX4_putTarget 3 wsX4_putTarget RX4) (hr : meth.sig.returnType = none) (hlk : meth.locks = false) (V0 : Mp) (p1 : Int) (p2 : Int) (res : Mp) (hf : X4_putTarget V0 p1 p2 = some res) : GO p l e rmX4_putTarget s m args below meth c K.1 vwCl (va_A WC s.heap.size) (MQ below (QC K.1 vwCl none WC (c4 K a res) s.heap.size) args s 0 0 (va_A WC s.heap.size)) 3 0 0 0 [(0, .ref (a 0)), (1, ii p1), (2, ii p2)] [] (c4 K a V0) := by
  rw [X4_putTarget] at hf
  refine g_iload_n X dX4_putTarget_0 1 rfl rfl ?_
  refine g_iconst X dX4_putTarget_1 ?_
  refine g_iconst X dX4_putTarget_2 ?_
  obtain ⟨v1, hc2, hf⟩ := Option.bind_eq_some_iff.mp hf
  refine g_callSN X (As := [ii p1, ii 0, ii 5]) (st := []) (st1 := [ii v1]) (ws' := c4 K a V0) (X9_within_ok K l p1 0 5 v1 hc2) ggX4_putTarget_X9_within ne_X4_putTarget_27 wd_X4_putTarget_ini9 wd_X4_putTarget_sta_X9_within rfl 3 (by decide +kernel) ⟨rfl, rfl⟩ ⟨Nat.le_of_ble_eq_true rfl, Nat.le_of_ble_eq_true rfl⟩ ⟨Nat.zero_le _, Nat.zero_le _⟩ rfl rfl (Nat.le_of_ble_eq_true rfl) dX4_putTarget_3 SG.none rfl ?_
  refine g_if_eq X hf 16 dX4_putTarget_6 (by decide) (fun hf => ?_) (fun hf => ?_)
  · cases hf
    exact g_vret X hr hlk dX4_putTarget_16
  · refine g_aload_n X dX4_putTarget_9 0 rfl rfl ?_
    refine g_get X (v := .ref (a 1)) 0 0 dX4_putTarget_10 rfl rfl iw_X4_putTarget_X4 (by decide) fl_X4_putTarget_9 rfl ?_
    refine g_iload_n X dX4_putTarget_13 1 rfl rfl ?_
    refine g_iload_n X dX4_putTarget_14 2 rfl rfl ?_
    refine g_iast X hf (by decide) 1 0 dX4_putTarget_15 rfl rfl (fun f3 => c4 K a (f3, V0.2.1, V0.2.2)) (fun _ => rfl) (fun f3 hf => ?_)
    cases hf
    exact g_vret X hr hlk dX4_putTarget_16
set_option maxHeartbeats 4000000 in
set_option maxRecDepth 100000 in
theorem X4_putTarget_ok (K : KE) (l : Launch) (a : Nat → Nat) (V0 : Mp) (p1 : Int) (p2 : Int) (res : Mp) (hf : X4_putTarget V0 p1 p2 = some res) : CT l K.1 vwCl (kT K) yX4_putTarget wsX4_putTarget rmX4_putTarget [.ref (a 0), ii p1, ii p2] none (c4 K a V0) (c4 K a res) :=
  CT.mk (cc := cX4_putTarget) (maxL := 3) (ret := none) (by decide) rfl (Nat.le_of_ble_eq_true rfl) (fun p e s m below meth c X hr hlk => X4_putTarget_go K l a _ X hr hlk V0 p1 p2 res hf)
theorem iw_X8_usedEntries_X8 : ∀ w ∈ u_ws RX8 TX8 9, w ∈ wsX8_usedEntries := by decide +kernel
theorem fl_X8_usedEntries_20 : Cond.fieldLink RX8 20 (TX8 1).1 (TX8 1).2.1 (TX8 1).2.2.1 ∈ wsX8_usedEntries := by decide +kernel
theorem fl_X8_usedEntries_40 : Cond.fieldLink RX8 40 (TX8 6).1 (TX8 6).2.1 (TX8 6).2.2.1 ∈ wsX8_usedEntries := by decide +kernel
def rmX8_usedEntries : Room := { frames := 2, cells := 0, slots := 0, locals := 43 }
def X8_usedEntries (V0 : St) (p1 : Int) : Option (Int) := (X4_targetOf V0.2.2.2.2.2.2.1 p1).bind (fun v1 => (X1_arityOf 6 V0.2.1 v1).bind (fun v3 => some v3))
set_option maxHeartbeats 4000000 in
set_option maxRecDepth 100000 in
theorem X8_usedEntries_go (K : KE) (l : Launch) (a : Nat → Nat) (WC : va_W) {p : Program} {e : Env} {s : State} {m : MethodId} {args : Array Value} {below : List Frame} {meth : Method} {c : Code} (X : CX p s m args c K.1 vwCl (kT K) (va_A WC s.heap.size) cX8_usedEntries 2 wsX8_usedEntries RX8) (hr : meth.sig.returnType = (some .int)) (hlk : meth.locks = false) (V0 : St) (p1 : Int) (res : Int) (hf : X8_usedEntries V0 p1 = some res) : GO p l e rmX8_usedEntries s m args below meth c K.1 vwCl (va_A WC s.heap.size) (MQ below (QC K.1 vwCl (some (ii res)) WC (c8 K a V0) s.heap.size) args s 0 0 (va_A WC s.heap.size)) 2 0 0 0 [(0, .ref (a 0)), (1, ii p1)] [] (c8 K a V0) := by
  rw [X8_usedEntries] at hf
  refine g_aload_n X dX8_usedEntries_0 0 rfl rfl ?_
  refine g_get X (v := .ref (ash a 5 0)) 0 1 dX8_usedEntries_1 rfl rfl iw_X8_usedEntries_X8 (by decide) fl_X8_usedEntries_20 rfl ?_
  refine g_aload_n X dX8_usedEntries_4 0 rfl rfl ?_
  refine g_get X (v := .ref (ash a 14 0)) 0 6 dX8_usedEntries_5 rfl rfl iw_X8_usedEntries_X8 (by decide) fl_X8_usedEntries_40 rfl ?_
  refine g_iload_n X dX8_usedEntries_8 1 rfl rfl ?_
  obtain ⟨v1, hc2, hf⟩ := Option.bind_eq_some_iff.mp hf
  refine g_callV X (As := [ii p1]) (st := [.ref (ash a 5 0)]) (st1 := [ii v1, .ref (ash a 5 0)]) (ws' := c8 K a V0) (X4_targetOf_ok K l (ash a 14) V0.2.2.2.2.2.2.1 p1 v1 hc2) gX8_usedEntries_X4_targetOf rfl 1 (by decide +kernel) ⟨rfl, rfl⟩ ⟨Nat.le_of_ble_eq_true rfl, Nat.le_of_ble_eq_true rfl⟩ ⟨Nat.zero_le _, Nat.zero_le _⟩ 14 rfl rfl rfl rfl (Nat.le_of_ble_eq_true rfl) dX8_usedEntries_9 (SG.one ([(a 0, .inr (8, [.ref (ash a 1 0), .ref (ash a 5 0), .ref (ash a 9 0), ii V0.2.2.2.1, .ref (a 13), ii V0.2.2.2.2.2.1, .ref (ash a 14 0), .ref (ash a 18 0), .ref (a 22)]))] ++ (c1 K 6 (ash a 1) V0.1 ++ (c1 K 6 (ash a 5) V0.2.1 ++ (c1 K 4 (ash a 9) V0.2.2.1 ++ ([(a 13, .inl (K.2.1, 6, .inl (arI V0.2.2.2.2.1)))]))))) (c6 K (ash a 18) V0.2.2.2.2.2.2.2.1 ++ ([(a 22, .inl (K.2.1, 8, .inl (arI V0.2.2.2.2.2.2.2.2)))])) rfl rfl rfl) rfl ?_
  obtain ⟨v3, hc4, hf⟩ := Option.bind_eq_some_iff.mp hf
  refine g_callV X (As := [ii v1]) (st := []) (st1 := [ii v3]) (ws' := c8 K a V0) (X1_arityOf_ok K l 6 (by decide) (ash a 5) V0.2.1 v1 v3 hc4) gX8_usedEntries_X1_arityOf rfl 1 (by decide +kernel) ⟨rfl, rfl⟩ ⟨Nat.le_of_ble_eq_true rfl, Nat.le_of_ble_eq_true rfl⟩ ⟨Nat.zero_le _, Nat.zero_le _⟩ 5 rfl rfl rfl rfl (Nat.le_of_ble_eq_true rfl) dX8_usedEntries_12 (SG.one ([(a 0, .inr (8, [.ref (ash a 1 0), .ref (ash a 5 0), .ref (ash a 9 0), ii V0.2.2.2.1, .ref (a 13), ii V0.2.2.2.2.2.1, .ref (ash a 14 0), .ref (ash a 18 0), .ref (a 22)]))] ++ (c1 K 6 (ash a 1) V0.1)) (c1 K 4 (ash a 9) V0.2.2.1 ++ ([(a 13, .inl (K.2.1, 6, .inl (arI V0.2.2.2.2.1)))] ++ (c4 K (ash a 14) V0.2.2.2.2.2.2.1 ++ (c6 K (ash a 18) V0.2.2.2.2.2.2.2.1 ++ ([(a 22, .inl (K.2.1, 8, .inl (arI V0.2.2.2.2.2.2.2.2)))]))))) rfl rfl rfl) rfl ?_
  cases hf
  exact g_iret X hr hlk dX8_usedEntries_15
set_option maxHeartbeats 4000000 in
set_option maxRecDepth 100000 in
theorem X8_usedEntries_ok (K : KE) (l : Launch) (a : Nat → Nat) (V0 : St) (p1 : Int) (res : Int) (hf : X8_usedEntries V0 p1 = some res) : CT l K.1 vwCl (kT K) yX8_usedEntries wsX8_usedEntries rmX8_usedEntries [.ref (a 0), ii p1] (some (ii res)) (c8 K a V0) (c8 K a V0) :=
  CT.mk (cc := cX8_usedEntries) (maxL := 2) (ret := (some .int)) (by decide) rfl (Nat.le_of_ble_eq_true rfl) (fun p e s m below meth c X hr hlk => X8_usedEntries_go K l a _ X hr hlk V0 p1 res hf)
theorem ne_X4_sourceAt_27 : (RX4, 27, yX9_within) ∈ nestL := by decide +kernel
theorem wd_X4_sourceAt_ini9 : Cond.initialized yX9_within.cls ∈ wsX4_sourceAt := by decide +kernel
theorem wd_X4_sourceAt_sta_X9_within : Cond.static yX9_within ∈ wsX4_sourceAt := by decide +kernel
theorem iw_X4_sourceAt_X4 : ∀ w ∈ u_ws RX4 TX4 3, w ∈ wsX4_sourceAt := by decide +kernel
theorem fl_X4_sourceAt_15 : Cond.fieldLink RX4 15 (TX4 1).1 (TX4 1).2.1 (TX4 1).2.2.1 ∈ wsX4_sourceAt := by decide +kernel
def rmX4_sourceAt : Room := { frames := 1, cells := 0, slots := 0, locals := 22 }
def X4_sourceAt (V0 : Mp) (p1 : Int) (p2 : Int) : Option (Int) := (X9_within ((p1 * 4) + p2) 0 23).bind (fun v1 => brEQ v1 0 (some (-1)) (rdK 24 V0.2.1 ((p1 * 4) + p2) (fun v3 => some v3)))
set_option maxHeartbeats 4000000 in
set_option maxRecDepth 100000 in
theorem X4_sourceAt_go (K : KE) (l : Launch) (a : Nat → Nat) (WC : va_W) {p : Program} {e : Env} {s : State} {m : MethodId} {args : Array Value} {below : List Frame} {meth : Method} {c : Code} (X : CX p s m args c K.1 vwCl (kT K) (va_A WC s.heap.size) cX4_sourceAt 4 wsX4_sourceAt RX4) (hr : meth.sig.returnType = (some .int)) (hlk : meth.locks = false) (V0 : Mp) (p1 : Int) (p2 : Int) (res : Int) (hf : X4_sourceAt V0 p1 p2 = some res) : GO p l e rmX4_sourceAt s m args below meth c K.1 vwCl (va_A WC s.heap.size) (MQ below (QC K.1 vwCl (some (ii res)) WC (c4 K a V0) s.heap.size) args s 0 0 (va_A WC s.heap.size)) 4 0 0 0 [(0, .ref (a 0)), (1, ii p1), (2, ii p2)] [] (c4 K a V0) := by
  rw [X4_sourceAt] at hf
  refine g_iload_n X dX4_sourceAt_0 1 rfl rfl ?_
  refine g_iconst X dX4_sourceAt_1 ?_
  refine g_imul X dX4_sourceAt_2 ?_
  refine g_iload_n X dX4_sourceAt_3 2 rfl rfl ?_
  refine g_iadd X dX4_sourceAt_4 ?_
  refine g_istore_n X (lv' := [(3, ii ((p1 * 4) + p2)), (0, .ref (a 0)), (1, ii p1), (2, ii p2)]) dX4_sourceAt_5 rfl (by decide) rfl ?_
  refine g_iload_n X dX4_sourceAt_6 0 rfl rfl ?_
  refine g_iconst X dX4_sourceAt_7 ?_
  refine g_bipush X dX4_sourceAt_8 (by decide +kernel) ?_
  obtain ⟨v1, hc2, hf⟩ := Option.bind_eq_some_iff.mp hf
  refine g_callSN X (As := [ii ((p1 * 4) + p2), ii 0, ii 23]) (st := []) (st1 := [ii v1]) (ws' := c4 K a V0) (X9_within_ok K l ((p1 * 4) + p2) 0 23 v1 hc2) ggX4_sourceAt_X9_within ne_X4_sourceAt_27 wd_X4_sourceAt_ini9 wd_X4_sourceAt_sta_X9_within rfl 3 (by decide +kernel) ⟨rfl, rfl⟩ ⟨Nat.le_of_ble_eq_true rfl, Nat.le_of_ble_eq_true rfl⟩ ⟨Nat.zero_le _, Nat.zero_le _⟩ rfl rfl (Nat.le_of_ble_eq_true rfl) dX4_sourceAt_10 SG.none rfl ?_
  refine g_if_eq X hf 25 dX4_sourceAt_13 (by decide) (fun hf => ?_) (fun hf => ?_)
  · refine g_iconst X dX4_sourceAt_25 ?_
    cases hf
    exact g_iret X hr hlk dX4_sourceAt_26
  · refine g_aload_n X dX4_sourceAt_16 1 rfl rfl ?_
    refine g_get X (v := .ref (a 2)) 0 1 dX4_sourceAt_17 rfl rfl iw_X4_sourceAt_X4 (by decide) fl_X4_sourceAt_15 rfl ?_
    refine g_iload_n X dX4_sourceAt_20 0 rfl rfl ?_
    refine g_iald X hf (by decide) 2 0 dX4_sourceAt_21 rfl rfl (fun v3 hf => ?_)
    refine g_goto X 26 dX4_sourceAt_22 (by decide) ?_
    cases hf
    exact g_iret X hr hlk dX4_sourceAt_26
set_option maxHeartbeats 4000000 in
set_option maxRecDepth 100000 in
theorem X4_sourceAt_ok (K : KE) (l : Launch) (a : Nat → Nat) (V0 : Mp) (p1 : Int) (p2 : Int) (res : Int) (hf : X4_sourceAt V0 p1 p2 = some res) : CT l K.1 vwCl (kT K) yX4_sourceAt wsX4_sourceAt rmX4_sourceAt [.ref (a 0), ii p1, ii p2] (some (ii res)) (c4 K a V0) (c4 K a V0) :=
  CT.mk (cc := cX4_sourceAt) (maxL := 4) (ret := (some .int)) (by decide) rfl (Nat.le_of_ble_eq_true rfl) (fun p e s m below meth c X hr hlk => X4_sourceAt_go K l a _ X hr hlk V0 p1 p2 res hf)
theorem iw_X8_isWellFormed_X8 : ∀ w ∈ u_ws RX8 TX8 9, w ∈ wsX8_isWellFormed := by decide +kernel
theorem fl_X8_isWellFormed_40 : Cond.fieldLink RX8 40 (TX8 6).1 (TX8 6).2.1 (TX8 6).2.2.1 ∈ wsX8_isWellFormed := by decide +kernel
theorem fl_X8_isWellFormed_14 : Cond.fieldLink RX8 14 (TX8 0).1 (TX8 0).2.1 (TX8 0).2.2.1 ∈ wsX8_isWellFormed := by decide +kernel
def rmX8_isWellFormed : Room := { frames := 2, cells := 0, slots := 0, locals := 45 }
def X8_isWellFormed_L2 (kx : Option (Int)) (V0 : St) (x1 : Int) (x2 : Int) : Nat → Int → Option (Int)
  | 0, _ => none
  | n + 1, y3 => brLT y3 x2 ((X4_sourceAt V0.2.2.2.2.2.2.1 x1 y3).bind (fun v1 => (X1_arityOf 6 V0.1 x1).bind (fun v3 => brLT v1 v3 (X8_isWellFormed_L2 kx V0 x1 x2 n (y3 + 1)) (kx)))) (some 1)
def X8_isWellFormed (V0 : St) (p1 : Int) (p2 : Int) : Option (Int) := X8_isWellFormed_L2 (some 0) V0 p1 p2 FU 0
set_option maxHeartbeats 4000000 in
set_option maxRecDepth 100000 in
theorem X8_isWellFormed_L2_ok (K : KE) (l : Launch) (a : Nat → Nat) (WC : va_W) {p : Program} {e : Env} {s : State} {m : MethodId} {args : Array Value} {below : List Frame} {meth : Method} {c : Code} (X : CX p s m args c K.1 vwCl (kT K) (va_A WC s.heap.size) cX8_isWellFormed 4 wsX8_isWellFormed RX8) (hr : meth.sig.returnType = (some .boolean)) (hlk : meth.locks = false) (V0 : St) (x1 : Int) (x2 : Int) (res : Int) {kx : Option (Int)} : ∀ (n : Nat) (y3 : Int), X8_isWellFormed_L2 kx V0 x1 x2 n y3 = some res → (kx = some res → GO p l e rmX8_isWellFormed s m args below meth c K.1 vwCl (va_A WC s.heap.size) (MQ below (QC K.1 vwCl (some (ii res)) WC (c8 K a V0) s.heap.size) args s 0 0 (va_A WC s.heap.size)) 4 0 0 27 [] [] (c8 K a V0)) → GO p l e rmX8_isWellFormed s m args below meth c K.1 vwCl (va_A WC s.heap.size) (MQ below (QC K.1 vwCl (some (ii res)) WC (c8 K a V0) s.heap.size) args s 0 0 (va_A WC s.heap.size)) 4 0 0 2 [(0, .ref (a 0)), (1, ii x1), (2, ii x2), (3, ii y3)] [] (c8 K a V0) := by
  intro n
  induction n with
  | zero =>
    intro y3 hf _
    rw [X8_isWellFormed_L2] at hf
    cases hf
  | succ n ih =>
    intro y3 hf hk
    rw [X8_isWellFormed_L2] at hf
    refine g_iload_n X dX8_isWellFormed_2 3 rfl rfl ?_
    refine g_iload_n X dX8_isWellFormed_3 2 rfl rfl ?_
    refine g_icmp_ge X hf 35 dX8_isWellFormed_4 (by decide) (fun hf => ?_) (fun hf => ?_)
    · refine g_aload_n X dX8_isWellFormed_7 0 rfl rfl ?_
      refine g_get X (v := .ref (ash a 14 0)) 0 6 dX8_isWellFormed_8 rfl rfl iw_X8_isWellFormed_X8 (by decide) fl_X8_isWellFormed_40 rfl ?_
      refine g_iload_n X dX8_isWellFormed_11 1 rfl rfl ?_
      refine g_iload_n X dX8_isWellFormed_12 3 rfl rfl ?_
      obtain ⟨v1, hc2, hf⟩ := Option.bind_eq_some_iff.mp hf
      refine g_callV X (As := [ii x1, ii y3]) (st := []) (st1 := [ii v1]) (ws' := c8 K a V0) (X4_sourceAt_ok K l (ash a 14) V0.2.2.2.2.2.2.1 x1 y3 v1 hc2) gX8_isWellFormed_X4_sourceAt rfl 2 (by decide +kernel) ⟨rfl, rfl⟩ ⟨Nat.le_of_ble_eq_true rfl, Nat.le_of_ble_eq_true rfl⟩ ⟨Nat.zero_le _, Nat.zero_le _⟩ 14 rfl rfl rfl rfl (Nat.le_of_ble_eq_true rfl) dX8_isWellFormed_13 (SG.one ([(a 0, .inr (8, [.ref (ash a 1 0), .ref (ash a 5 0), .ref (ash a 9 0), ii V0.2.2.2.1, .ref (a 13), ii V0.2.2.2.2.2.1, .ref (ash a 14 0), .ref (ash a 18 0), .ref (a 22)]))] ++ (c1 K 6 (ash a 1) V0.1 ++ (c1 K 6 (ash a 5) V0.2.1 ++ (c1 K 4 (ash a 9) V0.2.2.1 ++ ([(a 13, .inl (K.2.1, 6, .inl (arI V0.2.2.2.2.1)))]))))) (c6 K (ash a 18) V0.2.2.2.2.2.2.2.1 ++ ([(a 22, .inl (K.2.1, 8, .inl (arI V0.2.2.2.2.2.2.2.2)))])) rfl rfl rfl) rfl ?_
      refine g_aload_n X dX8_isWellFormed_16 0 rfl rfl ?_
      refine g_get X (v := .ref (ash a 1 0)) 0 0 dX8_isWellFormed_17 rfl rfl iw_X8_isWellFormed_X8 (by decide) fl_X8_isWellFormed_14 rfl ?_
      refine g_iload_n X dX8_isWellFormed_20 1 rfl rfl ?_
      obtain ⟨v3, hc4, hf⟩ := Option.bind_eq_some_iff.mp hf
      refine g_callV X (As := [ii x1]) (st := [ii v1]) (st1 := [ii v3, ii v1]) (ws' := c8 K a V0) (X1_arityOf_ok K l 6 (by decide) (ash a 1) V0.1 x1 v3 hc4) gX8_isWellFormed_X1_arityOf rfl 1 (by decide +kernel) ⟨rfl, rfl⟩ ⟨Nat.le_of_ble_eq_true rfl, Nat.le_of_ble_eq_true rfl⟩ ⟨Nat.zero_le _, Nat.zero_le _⟩ 1 rfl rfl rfl rfl (Nat.le_of_ble_eq_true rfl) dX8_isWellFormed_21 (SG.one ([(a 0, .inr (8, [.ref (ash a 1 0), .ref (ash a 5 0), .ref (ash a 9 0), ii V0.2.2.2.1, .ref (a 13), ii V0.2.2.2.2.2.1, .ref (ash a 14 0), .ref (ash a 18 0), .ref (a 22)]))]) (c1 K 6 (ash a 5) V0.2.1 ++ (c1 K 4 (ash a 9) V0.2.2.1 ++ ([(a 13, .inl (K.2.1, 6, .inl (arI V0.2.2.2.2.1)))] ++ (c4 K (ash a 14) V0.2.2.2.2.2.2.1 ++ (c6 K (ash a 18) V0.2.2.2.2.2.2.2.1 ++ ([(a 22, .inl (K.2.1, 8, .inl (arI V0.2.2.2.2.2.2.2.2)))])))))) rfl rfl rfl) rfl ?_
      refine g_icmp_lt X hf 29 dX8_isWellFormed_24 (by decide) (fun hf => ?_) (fun hf => ?_)
      · refine g_iinc X (lv' := [(3, ii (y3 + 1)), (0, .ref (a 0)), (1, ii x1), (2, ii x2)]) dX8_isWellFormed_29 3 rfl (by decide) rfl ?_
        refine g_goto X 2 dX8_isWellFormed_32 (by decide) ?_
        refine g_sub (lv' := [(0, .ref (a 0)), (1, ii x1), (2, ii x2), (3, ii (y3 + 1))]) [1, 2, 3, 0] rfl ?_
        exact ih (y3 + 1) hf hk
      · refine g_sub (lv' := []) [] rfl ?_
        exact hk hf
    · refine g_iconst X dX8_isWellFormed_35 ?_
      cases hf
      exact g_zret X (Or.inr rfl) hr hlk dX8_isWellFormed_36
set_option maxHeartbeats 4000000 in
set_option maxRecDepth 100000 in
theorem X8_isWellFormed_go (K : KE) (l : Launch) (a : Nat → Nat) (WC : va_W) {p : Program} {e : Env} {s : State} {m : MethodId} {args : Array Value} {below : List Frame} {meth : Method} {c : Code} (X : CX p s m args c K.1 vwCl (kT K) (va_A WC s.heap.size) cX8_isWellFormed 4 wsX8_isWellFormed RX8) (hr : meth.sig.returnType = (some .boolean)) (hlk : meth.locks = false) (V0 : St) (p1 : Int) (p2 : Int) (res : Int) (hf : X8_isWellFormed V0 p1 p2 = some res) : GO p l e rmX8_isWellFormed s m args below meth c K.1 vwCl (va_A WC s.heap.size) (MQ below (QC K.1 vwCl (some (ii res)) WC (c8 K a V0) s.heap.size) args s 0 0 (va_A WC s.heap.size)) 4 0 0 0 [(0, .ref (a 0)), (1, ii p1), (2, ii p2)] [] (c8 K a V0) := by
  rw [X8_isWellFormed] at hf
  refine g_iconst X dX8_isWellFormed_0 ?_
  refine g_istore_n X (lv' := [(3, ii 0), (0, .ref (a 0)), (1, ii p1), (2, ii p2)]) dX8_isWellFormed_1 rfl (by decide) rfl ?_
  refine g_sub (lv' := [(0, .ref (a 0)), (1, ii p1), (2, ii p2), (3, ii 0)]) [1, 2, 3, 0] rfl ?_
  refine X8_isWellFormed_L2_ok K l a WC X hr hlk V0 p1 p2 res FU 0 hf (fun hf => ?_)
  refine g_iconst X dX8_isWellFormed_27 ?_
  cases hf
  exact g_zret X (Or.inl rfl) hr hlk dX8_isWellFormed_28
set_option maxHeartbeats 4000000 in
set_option maxRecDepth 100000 in
theorem X8_isWellFormed_ok (K : KE) (l : Launch) (a : Nat → Nat) (V0 : St) (p1 : Int) (p2 : Int) (res : Int) (hf : X8_isWellFormed V0 p1 p2 = some res) : CT l K.1 vwCl (kT K) yX8_isWellFormed wsX8_isWellFormed rmX8_isWellFormed [.ref (a 0), ii p1, ii p2] (some (ii res)) (c8 K a V0) (c8 K a V0) :=
  CT.mk (cc := cX8_isWellFormed) (maxL := 4) (ret := (some .boolean)) (by decide) rfl (Nat.le_of_ble_eq_true rfl) (fun p e s m below meth c X hr hlk => X8_isWellFormed_go K l a _ X hr hlk V0 p1 p2 res hf)
theorem ne_X4_constantAt_27 : (RX4, 27, yX9_within) ∈ nestL := by decide +kernel
theorem wd_X4_constantAt_ini9 : Cond.initialized yX9_within.cls ∈ wsX4_constantAt := by decide +kernel
theorem wd_X4_constantAt_sta_X9_within : Cond.static yX9_within ∈ wsX4_constantAt := by decide +kernel
theorem iw_X4_constantAt_X4 : ∀ w ∈ u_ws RX4 TX4 3, w ∈ wsX4_constantAt := by decide +kernel
theorem fl_X4_constantAt_18 : Cond.fieldLink RX4 18 (TX4 2).1 (TX4 2).2.1 (TX4 2).2.2.1 ∈ wsX4_constantAt := by decide +kernel
def rmX4_constantAt : Room := { frames := 1, cells := 0, slots := 0, locals := 22 }
def X4_constantAt (V0 : Mp) (p1 : Int) (p2 : Int) : Option (Int) := (X9_within ((p1 * 4) + p2) 0 23).bind (fun v1 => brEQ v1 0 (some 0) (rdK 24 V0.2.2 ((p1 * 4) + p2) (fun v3 => some v3)))
set_option maxHeartbeats 4000000 in
set_option maxRecDepth 100000 in
theorem X4_constantAt_go (K : KE) (l : Launch) (a : Nat → Nat) (WC : va_W) {p : Program} {e : Env} {s : State} {m : MethodId} {args : Array Value} {below : List Frame} {meth : Method} {c : Code} (X : CX p s m args c K.1 vwCl (kT K) (va_A WC s.heap.size) cX4_constantAt 4 wsX4_constantAt RX4) (hr : meth.sig.returnType = (some .int)) (hlk : meth.locks = false) (V0 : Mp) (p1 : Int) (p2 : Int) (res : Int) (hf : X4_constantAt V0 p1 p2 = some res) : GO p l e rmX4_constantAt s m args below meth c K.1 vwCl (va_A WC s.heap.size) (MQ below (QC K.1 vwCl (some (ii res)) WC (c4 K a V0) s.heap.size) args s 0 0 (va_A WC s.heap.size)) 4 0 0 0 [(0, .ref (a 0)), (1, ii p1), (2, ii p2)] [] (c4 K a V0) := by
  rw [X4_constantAt] at hf
  refine g_iload_n X dX4_constantAt_0 1 rfl rfl ?_
  refine g_iconst X dX4_constantAt_1 ?_
  refine g_imul X dX4_constantAt_2 ?_
  refine g_iload_n X dX4_constantAt_3 2 rfl rfl ?_
  refine g_iadd X dX4_constantAt_4 ?_
  refine g_istore_n X (lv' := [(3, ii ((p1 * 4) + p2)), (0, .ref (a 0)), (1, ii p1), (2, ii p2)]) dX4_constantAt_5 rfl (by decide) rfl ?_
  refine g_iload_n X dX4_constantAt_6 0 rfl rfl ?_
  refine g_iconst X dX4_constantAt_7 ?_
  refine g_bipush X dX4_constantAt_8 (by decide +kernel) ?_
  obtain ⟨v1, hc2, hf⟩ := Option.bind_eq_some_iff.mp hf
  refine g_callSN X (As := [ii ((p1 * 4) + p2), ii 0, ii 23]) (st := []) (st1 := [ii v1]) (ws' := c4 K a V0) (X9_within_ok K l ((p1 * 4) + p2) 0 23 v1 hc2) ggX4_constantAt_X9_within ne_X4_constantAt_27 wd_X4_constantAt_ini9 wd_X4_constantAt_sta_X9_within rfl 3 (by decide +kernel) ⟨rfl, rfl⟩ ⟨Nat.le_of_ble_eq_true rfl, Nat.le_of_ble_eq_true rfl⟩ ⟨Nat.zero_le _, Nat.zero_le _⟩ rfl rfl (Nat.le_of_ble_eq_true rfl) dX4_constantAt_10 SG.none rfl ?_
  refine g_if_eq X hf 25 dX4_constantAt_13 (by decide) (fun hf => ?_) (fun hf => ?_)
  · refine g_iconst X dX4_constantAt_25 ?_
    cases hf
    exact g_iret X hr hlk dX4_constantAt_26
  · refine g_aload_n X dX4_constantAt_16 1 rfl rfl ?_
    refine g_get X (v := .ref (a 3)) 0 2 dX4_constantAt_17 rfl rfl iw_X4_constantAt_X4 (by decide) fl_X4_constantAt_18 rfl ?_
    refine g_iload_n X dX4_constantAt_20 0 rfl rfl ?_
    refine g_iald X hf (by decide) 3 0 dX4_constantAt_21 rfl rfl (fun v3 hf => ?_)
    refine g_goto X 26 dX4_constantAt_22 (by decide) ?_
    cases hf
    exact g_iret X hr hlk dX4_constantAt_26
set_option maxHeartbeats 4000000 in
set_option maxRecDepth 100000 in
theorem X4_constantAt_ok (K : KE) (l : Launch) (a : Nat → Nat) (V0 : Mp) (p1 : Int) (p2 : Int) (res : Int) (hf : X4_constantAt V0 p1 p2 = some res) : CT l K.1 vwCl (kT K) yX4_constantAt wsX4_constantAt rmX4_constantAt [.ref (a 0), ii p1, ii p2] (some (ii res)) (c4 K a V0) (c4 K a V0) :=
  CT.mk (cc := cX4_constantAt) (maxL := 4) (ret := (some .int)) (by decide) rfl (Nat.le_of_ble_eq_true rfl) (fun p e s m below meth c X hr hlk => X4_constantAt_go K l a _ X hr hlk V0 p1 p2 res hf)
theorem iw_X8_keepsConstant_X8 : ∀ w ∈ u_ws RX8 TX8 9, w ∈ wsX8_keepsConstant := by decide +kernel
theorem fl_X8_keepsConstant_40 : Cond.fieldLink RX8 40 (TX8 6).1 (TX8 6).2.1 (TX8 6).2.2.1 ∈ wsX8_keepsConstant := by decide +kernel
theorem fl_X8_keepsConstant_20 : Cond.fieldLink RX8 20 (TX8 1).1 (TX8 1).2.1 (TX8 1).2.2.1 ∈ wsX8_keepsConstant := by decide +kernel
theorem fl_X8_keepsConstant_14 : Cond.fieldLink RX8 14 (TX8 0).1 (TX8 0).2.1 (TX8 0).2.2.1 ∈ wsX8_keepsConstant := by decide +kernel
def rmX8_keepsConstant : Room := { frames := 2, cells := 0, slots := 0, locals := 45 }
def X8_keepsConstant_L23 (kx : Int → Option (Int)) (V0 : St) (x1 : Int) (x2 : Int) (x3 : Int) : Nat → Int → Int → Option (Int)
  | 0, _, _ => none
  | n + 1, y4, y5 => brLT y5 x2 ((X4_sourceAt V0.2.2.2.2.2.2.1 x1 y5).bind (fun v5 => ltK (fun q7 : Int => X8_keepsConstant_L23 kx V0 x1 x2 x3 n q7 (y5 + 1)) (fun j8 => brEQ v5 (-1) ((X1_term 6 V0.2.1 x3 y5).bind (fun v9 => (X4_constantAt V0.2.2.2.2.2.2.1 x1 y5).bind (fun v11 => j8 (y4 + (v9 * v11))))) (j8 y4)))) (kx y4)
def X8_keepsConstant (V0 : St) (p1 : Int) (p2 : Int) : Option (Int) := (X4_targetOf V0.2.2.2.2.2.2.1 p1).bind (fun v1 => (X1_term 6 V0.2.1 v1 (-1)).bind (fun v3 => X8_keepsConstant_L23 (fun w13 => rmK w13 1000 (fun v14 => (X1_term 6 V0.1 p1 (-1)).bind (fun v15 => brEQ v14 v15 (some 1) (some 0)))) V0 p1 p2 v1 FU v3 0))
set_option maxHeartbeats 4000000 in
set_option maxRecDepth 100000 in
theorem X8_keepsConstant_L23_ok (K : KE) (l : Launch) (a : Nat → Nat) (WC : va_W) {p : Program} {e : Env} {s : State} {m : MethodId} {args : Array Value} {below : List Frame} {meth : Method} {c : Code} (X : CX p s m args c K.1 vwCl (kT K) (va_A WC s.heap.size) cX8_keepsConstant 6 wsX8_keepsConstant RX8) (hr : meth.sig.returnType = (some .boolean)) (hlk : meth.locks = false) (V0 : St) (x1 : Int) (x2 : Int) (x3 : Int) (res : Int) {kx : Int → Option (Int)} : ∀ (n : Nat) (y4 : Int) (y5 : Int), X8_keepsConstant_L23 kx V0 x1 x2 x3 n y4 y5 = some res → (∀ (z4 : Int), kx z4 = some res → GO p l e rmX8_keepsConstant s m args below meth c K.1 vwCl (va_A WC s.heap.size) (MQ below (QC K.1 vwCl (some (ii res)) WC (c8 K a V0) s.heap.size) args s 0 0 (va_A WC s.heap.size)) 6 0 0 75 [(0, .ref (a 0)), (1, ii x1), (4, ii z4)] [] (c8 K a V0)) → GO p l e rmX8_keepsConstant s m args below meth c K.1 vwCl (va_A WC s.heap.size) (MQ below (QC K.1 vwCl (some (ii res)) WC (c8 K a V0) s.heap.size) args s 0 0 (va_A WC s.heap.size)) 6 0 0 23 [(0, .ref (a 0)), (1, ii x1), (2, ii x2), (3, ii x3), (4, ii y4), (5, ii y5)] [] (c8 K a V0) := by
  intro n
  induction n with
  | zero =>
    intro y4 y5 hf _
    rw [X8_keepsConstant_L23] at hf
    cases hf
  | succ n ih =>
    intro y4 y5 hf hk
    rw [X8_keepsConstant_L23] at hf
    refine g_iload X dX8_keepsConstant_23 5 rfl ?_
    refine g_iload_n X dX8_keepsConstant_25 2 rfl rfl ?_
    refine g_icmp_ge X hf 75 dX8_keepsConstant_26 (by decide) (fun hf => ?_) (fun hf => ?_)
    · refine g_aload_n X dX8_keepsConstant_29 0 rfl rfl ?_
      refine g_get X (v := .ref (ash a 14 0)) 0 6 dX8_keepsConstant_30 rfl rfl iw_X8_keepsConstant_X8 (by decide) fl_X8_keepsConstant_40 rfl ?_
      refine g_iload_n X dX8_keepsConstant_33 1 rfl rfl ?_
      refine g_iload X dX8_keepsConstant_34 5 rfl ?_
      obtain ⟨v5, hc6, hf⟩ := Option.bind_eq_some_iff.mp hf
      refine g_callV X (As := [ii x1, ii y5]) (st := []) (st1 := [ii v5]) (ws' := c8 K a V0) (X4_sourceAt_ok K l (ash a 14) V0.2.2.2.2.2.2.1 x1 y5 v5 hc6) gX8_keepsConstant_X4_sourceAt rfl 2 (by decide +kernel) ⟨rfl, rfl⟩ ⟨Nat.le_of_ble_eq_true rfl, Nat.le_of_ble_eq_true rfl⟩ ⟨Nat.zero_le _, Nat.zero_le _⟩ 14 rfl rfl rfl rfl (Nat.le_of_ble_eq_true rfl) dX8_keepsConstant_36 (SG.one ([(a 0, .inr (8, [.ref (ash a 1 0), .ref (ash a 5 0), .ref (ash a 9 0), ii V0.2.2.2.1, .ref (a 13), ii V0.2.2.2.2.2.1, .ref (ash a 14 0), .ref (ash a 18 0), .ref (a 22)]))] ++ (c1 K 6 (ash a 1) V0.1 ++ (c1 K 6 (ash a 5) V0.2.1 ++ (c1 K 4 (ash a 9) V0.2.2.1 ++ ([(a 13, .inl (K.2.1, 6, .inl (arI V0.2.2.2.2.1)))]))))) (c6 K (ash a 18) V0.2.2.2.2.2.2.2.1 ++ ([(a 22, .inl (K.2.1, 8, .inl (arI V0.2.2.2.2.2.2.2.2)))])) rfl rfl rfl) rfl ?_
      refine g_iconst X dX8_keepsConstant_39 ?_
      refine g_let (G := fun q7 : Int => GO p l e rmX8_keepsConstant s m args below meth c K.1 vwCl (va_A WC s.heap.size) (MQ below (QC K.1 vwCl (some (ii res)) WC (c8 K a V0) s.heap.size) args s 0 0 (va_A WC s.heap.size)) 6 0 0 69 [(0, .ref (a 0)), (1, ii x1), (2, ii x2), (3, ii x3), (4, ii q7), (5, ii y5)] [] (c8 K a V0)) hf (fun q7 hf => ?_) (fun j8 hj8 hf => ?_)
      · refine g_iinc X (lv' := [(5, ii (y5 + 1)), (0, .ref (a 0)), (1, ii x1), (2, ii x2), (3, ii x3), (4, ii q7)]) dX8_keepsConstant_69 5 rfl (by decide) rfl ?_
        refine g_goto X 23 dX8_keepsConstant_72 (by decide) ?_
        refine g_sub (lv' := [(0, .ref (a 0)), (1, ii x1), (2, ii x2), (3, ii x3), (4, ii q7), (5, ii (y5 + 1))]) [1, 2, 3, 4, 5, 0] rfl ?_
        exact ih q7 (y5 + 1) hf hk
      · refine g_icmp_ne X hf 69 dX8_keepsConstant_40 (by decide) (fun hf => ?_) (fun hf => ?_)
        · refine g_iload X dX8_keepsConstant_43 4 rfl ?_
          refine g_aload_n X dX8_keepsConstant_45 0 rfl rfl ?_
          refine g_get X (v := .ref (ash a 5 0)) 0 1 dX8_keepsConstant_46 rfl rfl iw_X8_keepsConstant_X8 (by decide) fl_X8_keepsConstant_20 rfl ?_
          refine g_iload_n X dX8_keepsConstant_49 3 rfl rfl ?_
          refine g_iload X dX8_keepsConstant_50 5 rfl ?_
          obtain ⟨v9, hc10, hf⟩ := Option.bind_eq_some_iff.mp hf
          refine g_callV X (As := [ii x3, ii y5]) (st := [ii y4]) (st1 := [ii v9, ii y4]) (ws' := c8 K a V0) (X1_term_ok K l 6 (by decide) (ash a 5) V0.2.1 x3 y5 v9 hc10) gX8_keepsConstant_X1_term rfl 2 (by decide +kernel) ⟨rfl, rfl⟩ ⟨Nat.le_of_ble_eq_true rfl, Nat.le_of_ble_eq_true rfl⟩ ⟨Nat.zero_le _, Nat.zero_le _⟩ 5 rfl rfl rfl rfl (Nat.le_of_ble_eq_true rfl) dX8_keepsConstant_52 (SG.one ([(a 0, .inr (8, [.ref (ash a 1 0), .ref (ash a 5 0), .ref (ash a 9 0), ii V0.2.2.2.1, .ref (a 13), ii V0.2.2.2.2.2.1, .ref (ash a 14 0), .ref (ash a 18 0), .ref (a 22)]))] ++ (c1 K 6 (ash a 1) V0.1)) (c1 K 4 (ash a 9) V0.2.2.1 ++ ([(a 13, .inl (K.2.1, 6, .inl (arI V0.2.2.2.2.1)))] ++ (c4 K (ash a 14) V0.2.2.2.2.2.2.1 ++ (c6 K (ash a 18) V0.2.2.2.2.2.2.2.1 ++ ([(a 22, .inl (K.2.1, 8, .inl (arI V0.2.2.2.2.2.2.2.2)))]))))) rfl rfl rfl) rfl ?_
          refine g_aload_n X dX8_keepsConstant_55 0 rfl rfl ?_
          refine g_get X (v := .ref (ash a 14 0)) 0 6 dX8_keepsConstant_56 rfl rfl iw_X8_keepsConstant_X8 (by decide) fl_X8_keepsConstant_40 rfl ?_
          refine g_iload_n X dX8_keepsConstant_59 1 rfl rfl ?_
          refine g_iload X dX8_keepsConstant_60 5 rfl ?_
          obtain ⟨v11, hc12, hf⟩ := Option.bind_eq_some_iff.mp hf
          refine g_callV X (As := [ii x1, ii y5]) (st := [ii v9, ii y4]) (st1 := [ii v11, ii v9, ii y4]) (ws' := c8 K a V0) (X4_constantAt_ok K l (ash a 14) V0.2.2.2.2.2.2.1 x1 y5 v11 hc12) gX8_keepsConstant_X4_constantAt rfl 2 (by decide +kernel) ⟨rfl, rfl⟩ ⟨Nat.le_of_ble_eq_true rfl, Nat.le_of_ble_eq_true rfl⟩ ⟨Nat.zero_le _, Nat.zero_le _⟩ 14 rfl rfl rfl rfl (Nat.le_of_ble_eq_true rfl) dX8_keepsConstant_62 (SG.one ([(a 0, .inr (8, [.ref (ash a 1 0), .ref (ash a 5 0), .ref (ash a 9 0), ii V0.2.2.2.1, .ref (a 13), ii V0.2.2.2.2.2.1, .ref (ash a 14 0), .ref (ash a 18 0), .ref (a 22)]))] ++ (c1 K 6 (ash a 1) V0.1 ++ (c1 K 6 (ash a 5) V0.2.1 ++ (c1 K 4 (ash a 9) V0.2.2.1 ++ ([(a 13, .inl (K.2.1, 6, .inl (arI V0.2.2.2.2.1)))]))))) (c6 K (ash a 18) V0.2.2.2.2.2.2.2.1 ++ ([(a 22, .inl (K.2.1, 8, .inl (arI V0.2.2.2.2.2.2.2.2)))])) rfl rfl rfl) rfl ?_
          refine g_imul X dX8_keepsConstant_65 ?_
          refine g_iadd X dX8_keepsConstant_66 ?_
          refine g_istore X (lv' := [(4, ii (y4 + (v9 * v11))), (0, .ref (a 0)), (1, ii x1), (2, ii x2), (3, ii x3), (5, ii y5)]) dX8_keepsConstant_67 (by decide) rfl ?_
          refine g_sub (lv' := [(0, .ref (a 0)), (1, ii x1), (2, ii x2), (3, ii x3), (4, ii (y4 + (v9 * v11))), (5, ii y5)]) [1, 2, 3, 4, 0, 5] rfl ?_
          exact hj8 (y4 + (v9 * v11)) hf
        · exact hj8 y4 hf
    · refine g_sub (lv' := [(0, .ref (a 0)), (1, ii x1), (4, ii y4)]) [0, 1, 4] rfl ?_
      exact hk y4 hf
set_option maxHeartbeats 4000000 in
set_option maxRecDepth 100000 in
theorem X8_keepsConstant_go (K : KE) (l : Launch) (a : Nat → Nat) (WC : va_W) {p : Program} {e : Env} {s : State} {m : MethodId} {args : Array Value} {below : List Frame} {meth : Method} {c : Code} (X : CX p s m args c K.1 vwCl (kT K) (va_A WC s.heap.size) cX8_keepsConstant 6 wsX8_keepsConstant RX8) (hr : meth.sig.returnType = (some .boolean)) (hlk : meth.locks = false) (V0 : St) (p1 : Int) (p2 : Int) (res : Int) (hf : X8_keepsConstant V0 p1 p2 = some res) : GO p l e rmX8_keepsConstant s m args below meth c K.1 vwCl (va_A WC s.heap.size) (MQ below (QC K.1 vwCl (some (ii res)) WC (c8 K a V0) s.heap.size) args s 0 0 (va_A WC s.heap.size)) 6 0 0 0 [(0, .ref (a 0)), (1, ii p1), (2, ii p2)] [] (c8 K a V0) := by
  rw [X8_keepsConstant] at hf
  refine g_aload_n X dX8_keepsConstant_0 0 rfl rfl ?_
  refine g_get X (v := .ref (ash a 14 0)) 0 6 dX8_keepsConstant_1 rfl rfl iw_X8_keepsConstant_X8 (by decide) fl_X8_keepsConstant_40 rfl ?_
  refine g_iload_n X dX8_keepsConstant_4 1 rfl rfl ?_
  obtain ⟨v1, hc2, hf⟩ := Option.bind_eq_some_iff.mp hf
  refine g_callV X (As := [ii p1]) (st := []) (st1 := [ii v1]) (ws' := c8 K a V0) (X4_targetOf_ok K l (ash a 14) V0.2.2.2.2.2.2.1 p1 v1 hc2) gX8_keepsConstant_X4_targetOf rfl 1 (by decide +kernel) ⟨rfl, rfl⟩ ⟨Nat.le_of_ble_eq_true rfl, Nat.le_of_ble_eq_true rfl⟩ ⟨Nat.zero_le _, Nat.zero_le _⟩ 14 rfl rfl rfl rfl (Nat.le_of_ble_eq_true rfl) dX8_keepsConstant_5 (SG.one ([(a 0, .inr (8, [.ref (ash a 1 0), .ref (ash a 5 0), .ref (ash a 9 0), ii V0.2.2.2.1, .ref (a 13), ii V0.2.2.2.2.2.1, .ref (ash a 14 0), .ref (ash a 18 0), .ref (a 22)]))] ++ (c1 K 6 (ash a 1) V0.1 ++ (c1 K 6 (ash a 5) V0.2.1 ++ (c1 K 4 (ash a 9) V0.2.2.1 ++ ([(a 13, .inl (K.2.1, 6, .inl (arI V0.2.2.2.2.1)))]))))) (c6 K (ash a 18) V0.2.2.2.2.2.2.2.1 ++ ([(a 22, .inl (K.2.1, 8, .inl (arI V0.2.2.2.2.2.2.2.2)))])) rfl rfl rfl) rfl ?_
  refine g_istore_n X (lv' := [(3, ii v1), (0, .ref (a 0)), (1, ii p1), (2, ii p2)]) dX8_keepsConstant_8 rfl (by decide) rfl ?_
  refine g_aload_n X dX8_keepsConstant_9 1 rfl rfl ?_
  refine g_get X (v := .ref (ash a 5 0)) 0 1 dX8_keepsConstant_10 rfl rfl iw_X8_keepsConstant_X8 (by decide) fl_X8_keepsConstant_20 rfl ?_
  refine g_iload_n X dX8_keepsConstant_13 0 rfl rfl ?_
  refine g_iconst X dX8_keepsConstant_14 ?_
  obtain ⟨v3, hc4, hf⟩ := Option.bind_eq_some_iff.mp hf
  refine g_callV X (As := [ii v1, ii (-1)]) (st := []) (st1 := [ii v3]) (ws' := c8 K a V0) (X1_term_ok K l 6 (by decide) (ash a 5) V0.2.1 v1 (-1) v3 hc4) gX8_keepsConstant_X1_term rfl 2 (by decide +kernel) ⟨rfl, rfl⟩ ⟨Nat.le_of_ble_eq_true rfl, Nat.le_of_ble_eq_true rfl⟩ ⟨Nat.zero_le _, Nat.zero_le _⟩ 5 rfl rfl rfl rfl (Nat.le_of_ble_eq_true rfl) dX8_keepsConstant_15 (SG.one ([(a 0, .inr (8, [.ref (ash a 1 0), .ref (ash a 5 0), .ref (ash a 9 0), ii V0.2.2.2.1, .ref (a 13), ii V0.2.2.2.2.2.1, .ref (ash a 14 0), .ref (ash a 18 0), .ref (a 22)]))] ++ (c1 K 6 (ash a 1) V0.1)) (c1 K 4 (ash a 9) V0.2.2.1 ++ ([(a 13, .inl (K.2.1, 6, .inl (arI V0.2.2.2.2.1)))] ++ (c4 K (ash a 14) V0.2.2.2.2.2.2.1 ++ (c6 K (ash a 18) V0.2.2.2.2.2.2.2.1 ++ ([(a 22, .inl (K.2.1, 8, .inl (arI V0.2.2.2.2.2.2.2.2)))]))))) rfl rfl rfl) rfl ?_
  refine g_istore X (lv' := [(4, ii v3), (3, ii v1), (0, .ref (a 0)), (1, ii p1), (2, ii p2)]) dX8_keepsConstant_18 (by decide) rfl ?_
  refine g_iconst X dX8_keepsConstant_20 ?_
  refine g_istore X (lv' := [(5, ii 0), (4, ii v3), (3, ii v1), (0, .ref (a 0)), (1, ii p1), (2, ii p2)]) dX8_keepsConstant_21 (by decide) rfl ?_
  refine g_sub (lv' := [(0, .ref (a 0)), (1, ii p1), (2, ii p2), (3, ii v1), (4, ii v3), (5, ii 0)]) [3, 4, 5, 2, 1, 0] rfl ?_
  refine X8_keepsConstant_L23_ok K l a WC X hr hlk V0 p1 p2 v1 res FU v3 0 hf (fun w13 hf => ?_)
  refine g_iload X dX8_keepsConstant_75 2 rfl ?_
  refine g_sipush X dX8_keepsConstant_77 (by decide +kernel) ?_
  refine g_irem X hf (by decide) dX8_keepsConstant_80 (fun v14 hf => ?_)
  refine g_aload_n X dX8_keepsConstant_81 0 rfl rfl ?_
  refine g_get X (v := .ref (ash a 1 0)) 0 0 dX8_keepsConstant_82 rfl rfl iw_X8_keepsConstant_X8 (by decide) fl_X8_keepsConstant_14 rfl ?_
  refine g_iload_n X dX8_keepsConstant_85 1 rfl rfl ?_
  refine g_iconst X dX8_keepsConstant_86 ?_
  obtain ⟨v15, hc16, hf⟩ := Option.bind_eq_some_iff.mp hf
  refine g_callV X (As := [ii p1, ii (-1)]) (st := [ii v14]) (st1 := [ii v15, ii v14]) (ws' := c8 K a V0) (X1_term_ok K l 6 (by decide) (ash a 1) V0.1 p1 (-1) v15 hc16) gX8_keepsConstant_X1_term rfl 2 (by decide +kernel) ⟨rfl, rfl⟩ ⟨Nat.le_of_ble_eq_true rfl, Nat.le_of_ble_eq_true rfl⟩ ⟨Nat.zero_le _, Nat.zero_le _⟩ 1 rfl rfl rfl rfl (Nat.le_of_ble_eq_true rfl) dX8_keepsConstant_87 (SG.one ([(a 0, .inr (8, [.ref (ash a 1 0), .ref (ash a 5 0), .ref (ash a 9 0), ii V0.2.2.2.1, .ref (a 13), ii V0.2.2.2.2.2.1, .ref (ash a 14 0), .ref (ash a 18 0), .ref (a 22)]))]) (c1 K 6 (ash a 5) V0.2.1 ++ (c1 K 4 (ash a 9) V0.2.2.1 ++ ([(a 13, .inl (K.2.1, 6, .inl (arI V0.2.2.2.2.1)))] ++ (c4 K (ash a 14) V0.2.2.2.2.2.2.1 ++ (c6 K (ash a 18) V0.2.2.2.2.2.2.2.1 ++ ([(a 22, .inl (K.2.1, 8, .inl (arI V0.2.2.2.2.2.2.2.2)))])))))) rfl rfl rfl) rfl ?_
  refine g_icmp_ne X hf 97 dX8_keepsConstant_90 (by decide) (fun hf => ?_) (fun hf => ?_)
  · refine g_iconst X dX8_keepsConstant_93 ?_
    refine g_goto X 98 dX8_keepsConstant_94 (by decide) ?_
    cases hf
    exact g_zret X (Or.inr rfl) hr hlk dX8_keepsConstant_98
  · refine g_iconst X dX8_keepsConstant_97 ?_
    cases hf
    exact g_zret X (Or.inl rfl) hr hlk dX8_keepsConstant_98
set_option maxHeartbeats 4000000 in
set_option maxRecDepth 100000 in
theorem X8_keepsConstant_ok (K : KE) (l : Launch) (a : Nat → Nat) (V0 : St) (p1 : Int) (p2 : Int) (res : Int) (hf : X8_keepsConstant V0 p1 p2 = some res) : CT l K.1 vwCl (kT K) yX8_keepsConstant wsX8_keepsConstant rmX8_keepsConstant [.ref (a 0), ii p1, ii p2] (some (ii res)) (c8 K a V0) (c8 K a V0) :=
  CT.mk (cc := cX8_keepsConstant) (maxL := 6) (ret := (some .boolean)) (by decide) rfl (Nat.le_of_ble_eq_true rfl) (fun p e s m below meth c X hr hlk => X8_keepsConstant_go K l a _ X hr hlk V0 p1 p2 res hf)
theorem iw_X8_keepsCoefficients_X8 : ∀ w ∈ u_ws RX8 TX8 9, w ∈ wsX8_keepsCoefficients := by decide +kernel
theorem fl_X8_keepsCoefficients_40 : Cond.fieldLink RX8 40 (TX8 6).1 (TX8 6).2.1 (TX8 6).2.2.1 ∈ wsX8_keepsCoefficients := by decide +kernel
theorem fl_X8_keepsCoefficients_14 : Cond.fieldLink RX8 14 (TX8 0).1 (TX8 0).2.1 (TX8 0).2.2.1 ∈ wsX8_keepsCoefficients := by decide +kernel
theorem fl_X8_keepsCoefficients_20 : Cond.fieldLink RX8 20 (TX8 1).1 (TX8 1).2.1 (TX8 1).2.2.1 ∈ wsX8_keepsCoefficients := by decide +kernel
def rmX8_keepsCoefficients : Room := { frames := 2, cells := 0, slots := 0, locals := 45 }
def X8_keepsCoefficients_L31 (kx : Int → Option (Int)) (V0 : St) (x1 : Int) (x2 : Int) (x3 : Int) (x4 : Int) : Nat → Int → Int → Option (Int)
  | 0, _, _ => none
  | n + 1, y5, y6 => brLT y6 x2 ((X4_sourceAt V0.2.2.2.2.2.2.1 x1 y6).bind (fun v5 => ltK (fun q7 : Int => X8_keepsCoefficients_L31 kx V0 x1 x2 x3 x4 n q7 (y6 + 1)) (fun j8 => brEQ v5 x4 ((X1_term 6 V0.2.1 x3 y6).bind (fun v9 => j8 (y5 + v9))) (j8 y5)))) (kx y5)
def X8_keepsCoefficients_L12 (kx : Option (Int)) (V0 : St) (x1 : Int) (x2 : Int) (x3 : Int) : Nat → Int → Option (Int)
  | 0, _ => none
  | n + 1, y4 => (X1_arityOf 6 V0.1 x1).bind (fun v3 => brLT y4 v3 (X8_keepsCoefficients_L31 (fun w11 => rmK w11 1000 (fun v12 => (X1_term 6 V0.1 x1 y4).bind (fun v13 => brEQ v12 v13 (X8_keepsCoefficients_L12 kx V0 x1 x2 x3 n (y4 + 1)) (some 0)))) V0 x1 x2 x3 y4 FU 0 0) (kx))
def X8_keepsCoefficients (V0 : St) (p1 : Int) (p2 : Int) : Option (Int) := (X4_targetOf V0.2.2.2.2.2.2.1 p1).bind (fun v1 => X8_keepsCoefficients_L12 (some 1) V0 p1 p2 v1 FU 0)
set_option maxHeartbeats 4000000 in
set_option maxRecDepth 100000 in
theorem X8_keepsCoefficients_L31_ok (K : KE) (l : Launch) (a : Nat → Nat) (WC : va_W) {p : Program} {e : Env} {s : State} {m : MethodId} {args : Array Value} {below : List Frame} {meth : Method} {c : Code} (X : CX p s m args c K.1 vwCl (kT K) (va_A WC s.heap.size) cX8_keepsCoefficients 7 wsX8_keepsCoefficients RX8) (hr : meth.sig.returnType = (some .boolean)) (hlk : meth.locks = false) (V0 : St) (x1 : Int) (x2 : Int) (x3 : Int) (x4 : Int) (res : Int) {kx : Int → Option (Int)} : ∀ (n : Nat) (y5 : Int) (y6 : Int), X8_keepsCoefficients_L31 kx V0 x1 x2 x3 x4 n y5 y6 = some res → (∀ (z5 : Int), kx z5 = some res → GO p l e rmX8_keepsCoefficients s m args below meth c K.1 vwCl (va_A WC s.heap.size) (MQ below (QC K.1 vwCl (some (ii res)) WC (c8 K a V0) s.heap.size) args s 0 0 (va_A WC s.heap.size)) 7 0 0 73 [(0, .ref (a 0)), (1, ii x1), (2, ii x2), (3, ii x3), (4, ii x4), (5, ii z5)] [] (c8 K a V0)) → GO p l e rmX8_keepsCoefficients s m args below meth c K.1 vwCl (va_A WC s.heap.size) (MQ below (QC K.1 vwCl (some (ii res)) WC (c8 K a V0) s.heap.size) args s 0 0 (va_A WC s.heap.size)) 7 0 0 31 [(0, .ref (a 0)), (1, ii x1), (2, ii x2), (3, ii x3), (4, ii x4), (5, ii y5), (6, ii y6)] [] (c8 K a V0) := by
  intro n
  induction n with
  | zero =>
    intro y5 y6 hf _
    rw [X8_keepsCoefficients_L31] at hf
    cases hf
  | succ n ih =>
    intro y5 y6 hf hk
    rw [X8_keepsCoefficients_L31] at hf
    refine g_iload X dX8_keepsCoefficients_31 6 rfl ?_
    refine g_iload_n X dX8_keepsCoefficients_33 2 rfl rfl ?_
    refine g_icmp_ge X hf 73 dX8_keepsCoefficients_34 (by decide) (fun hf => ?_) (fun hf => ?_)
    · refine g_aload_n X dX8_keepsCoefficients_37 0 rfl rfl ?_
      refine g_get X (v := .ref (ash a 14 0)) 0 6 dX8_keepsCoefficients_38 rfl rfl iw_X8_keepsCoefficients_X8 (by decide) fl_X8_keepsCoefficients_40 rfl ?_
      refine g_iload_n X dX8_keepsCoefficients_41 1 rfl rfl ?_
      refine g_iload X dX8_keepsCoefficients_42 6 rfl ?_
      obtain ⟨v5, hc6, hf⟩ := Option.bind_eq_some_iff.mp hf
      refine g_callV X (As := [ii x1, ii y6]) (st := []) (st1 := [ii v5]) (ws' := c8 K a V0) (X4_sourceAt_ok K l (ash a 14) V0.2.2.2.2.2.2.1 x1 y6 v5 hc6) gX8_keepsCoefficients_X4_sourceAt rfl 2 (by decide +kernel) ⟨rfl, rfl⟩ ⟨Nat.le_of_ble_eq_true rfl, Nat.le_of_ble_eq_true rfl⟩ ⟨Nat.zero_le _, Nat.zero_le _⟩ 14 rfl rfl rfl rfl (Nat.le_of_ble_eq_true rfl) dX8_keepsCoefficients_44 (SG.one ([(a 0, .inr (8, [.ref (ash a 1 0), .ref (ash a 5 0), .ref (ash a 9 0), ii V0.2.2.2.1, .ref (a 13), ii V0.2.2.2.2.2.1, .ref (ash a 14 0), .ref (ash a 18 0), .ref (a 22)]))] ++ (c1 K 6 (ash a 1) V0.1 ++ (c1 K 6 (ash a 5) V0.2.1 ++ (c1 K 4 (ash a 9) V0.2.2.1 ++ ([(a 13, .inl (K.2.1, 6, .inl (arI V0.2.2.2.2.1)))]))))) (c6 K (ash a 18) V0.2.2.2.2.2.2.2.1 ++ ([(a 22, .inl (K.2.1, 8, .inl (arI V0.2.2.2.2.2.2.2.2)))])) rfl rfl rfl) rfl ?_
      refine g_iload X dX8_keepsCoefficients_47 4 rfl ?_
      refine g_let (G := fun q7 : Int => GO p l e rmX8_keepsCoefficients s m args below meth c K.1 vwCl (va_A WC s.heap.size) (MQ below (QC K.1 vwCl (some (ii res)) WC (c8 K a V0) s.heap.size) args s 0 0 (va_A WC s.heap.size)) 7 0 0 67 [(0, .ref (a 0)), (1, ii x1), (2, ii x2), (3, ii x3), (4, ii x4), (5, ii q7), (6, ii y6)] [] (c8 K a V0)) hf (fun q7 hf => ?_) (fun j8 hj8 hf => ?_)
      · refine g_iinc X (lv' := [(6, ii (y6 + 1)), (0, .ref (a 0)), (1, ii x1), (2, ii x2), (3, ii x3), (4, ii x4), (5, ii q7)]) dX8_keepsCoefficients_67 6 rfl (by decide) rfl ?_
        refine g_goto X 31 dX8_keepsCoefficients_70 (by decide) ?_
        refine g_sub (lv' := [(0, .ref (a 0)), (1, ii x1), (2, ii x2), (3, ii x3), (4, ii x4), (5, ii q7), (6, ii (y6 + 1))]) [1, 2, 3, 4, 5, 6, 0] rfl ?_
        exact ih q7 (y6 + 1) hf hk
      · refine g_icmp_ne X hf 67 dX8_keepsCoefficients_49 (by decide) (fun hf => ?_) (fun hf => ?_)
        · refine g_iload X dX8_keepsCoefficients_52 5 rfl ?_
          refine g_aload_n X dX8_keepsCoefficients_54 0 rfl rfl ?_
          refine g_get X (v := .ref (ash a 5 0)) 0 1 dX8_keepsCoefficients_55 rfl rfl iw_X8_keepsCoefficients_X8 (by decide) fl_X8_keepsCoefficients_20 rfl ?_
          refine g_iload_n X dX8_keepsCoefficients_58 3 rfl rfl ?_
          refine g_iload X dX8_keepsCoefficients_59 6 rfl ?_
          obtain ⟨v9, hc10, hf⟩ := Option.bind_eq_some_iff.mp hf
          refine g_callV X (As := [ii x3, ii y6]) (st := [ii y5]) (st1 := [ii v9, ii y5]) (ws' := c8 K a V0) (X1_term_ok K l 6 (by decide) (ash a 5) V0.2.1 x3 y6 v9 hc10) gX8_keepsCoefficients_X1_term rfl 2 (by decide +kernel) ⟨rfl, rfl⟩ ⟨Nat.le_of_ble_eq_true rfl, Nat.le_of_ble_eq_true rfl⟩ ⟨Nat.zero_le _, Nat.zero_le _⟩ 5 rfl rfl rfl rfl (Nat.le_of_ble_eq_true rfl) dX8_keepsCoefficients_61 (SG.one ([(a 0, .inr (8, [.ref (ash a 1 0), .ref (ash a 5 0), .ref (ash a 9 0), ii V0.2.2.2.1, .ref (a 13), ii V0.2.2.2.2.2.1, .ref (ash a 14 0), .ref (ash a 18 0), .ref (a 22)]))] ++ (c1 K 6 (ash a 1) V0.1)) (c1 K 4 (ash a 9) V0.2.2.1 ++ ([(a 13, .inl (K.2.1, 6, .inl (arI V0.2.2.2.2.1)))] ++ (c4 K (ash a 14) V0.2.2.2.2.2.2.1 ++ (c6 K (ash a 18) V0.2.2.2.2.2.2.2.1 ++ ([(a 22, .inl (K.2.1, 8, .inl (arI V0.2.2.2.2.2.2.2.2)))]))))) rfl rfl rfl) rfl ?_
          refine g_iadd X dX8_keepsCoefficients_64 ?_
          refine g_istore X (lv' := [(5, ii (y5 + v9)), (0, .ref (a 0)), (1, ii x1), (2, ii x2), (3, ii x3), (4, ii x4), (6, ii y6)]) dX8_keepsCoefficients_65 (by decide) rfl ?_
          refine g_sub (lv' := [(0, .ref (a 0)), (1, ii x1), (2, ii x2), (3, ii x3), (4, ii x4), (5, ii (y5 + v9)), (6, ii y6)]) [1, 2, 3, 4, 5, 0, 6] rfl ?_
          exact hj8 (y5 + v9) hf
        · exact hj8 y5 hf
    · refine g_sub (lv' := [(0, .ref (a 0)), (1, ii x1), (2, ii x2), (3, ii x3), (4, ii x4), (5, ii y5)]) [0, 1, 2, 3, 4, 5] rfl ?_
      exact hk y5 hf
set_option maxHeartbeats 4000000 in
set_option maxRecDepth 100000 in
theorem X8_keepsCoefficients_L12_ok (K : KE) (l : Launch) (a : Nat → Nat) (WC : va_W) {p : Program} {e : Env} {s : State} {m : MethodId} {args : Array Value} {below : List Frame} {meth : Method} {c : Code} (X : CX p s m args c K.1 vwCl (kT K) (va_A WC s.heap.size) cX8_keepsCoefficients 7 wsX8_keepsCoefficients RX8) (hr : meth.sig.returnType = (some .boolean)) (hlk : meth.locks = false) (V0 : St) (x1 : Int) (x2 : Int) (x3 : Int) (res : Int) {kx : Option (Int)} : ∀ (n : Nat) (y4 : Int), X8_keepsCoefficients_L12 kx V0 x1 x2 x3 n y4 = some res → (kx = some res → GO p l e rmX8_keepsCoefficients s m args below meth c K.1 vwCl (va_A WC s.heap.size) (MQ below (QC K.1 vwCl (some (ii res)) WC (c8 K a V0) s.heap.size) args s 0 0 (va_A WC s.heap.size)) 7 0 0 100 [] [] (c8 K a V0)) → GO p l e rmX8_keepsCoefficients s m args below meth c K.1 vwCl (va_A WC s.heap.size) (MQ below (QC K.1 vwCl (some (ii res)) WC (c8 K a V0) s.heap.size) args s 0 0 (va_A WC s.heap.size)) 7 0 0 12 [(0, .ref (a 0)), (1, ii x1), (2, ii x2), (3, ii x3), (4, ii y4)] [] (c8 K a V0) := by
  intro n
  induction n with
  | zero =>
    intro y4 hf _
    rw [X8_keepsCoefficients_L12] at hf
    cases hf
  | succ n ih =>
    intro y4 hf hk
    rw [X8_keepsCoefficients_L12] at hf
    refine g_iload X dX8_keepsCoefficients_12 4 rfl ?_
    refine g_aload_n X dX8_keepsCoefficients_14 0 rfl rfl ?_
    refine g_get X (v := .ref (ash a 1 0)) 0 0 dX8_keepsCoefficients_15 rfl rfl iw_X8_keepsCoefficients_X8 (by decide) fl_X8_keepsCoefficients_14 rfl ?_
    refine g_iload_n X dX8_keepsCoefficients_18 1 rfl rfl ?_
    obtain ⟨v3, hc4, hf⟩ := Option.bind_eq_some_iff.mp hf
    refine g_callV X (As := [ii x1]) (st := [ii y4]) (st1 := [ii v3, ii y4]) (ws' := c8 K a V0) (X1_arityOf_ok K l 6 (by decide) (ash a 1) V0.1 x1 v3 hc4) gX8_keepsCoefficients_X1_arityOf rfl 1 (by decide +kernel) ⟨rfl, rfl⟩ ⟨Nat.le_of_ble_eq_true rfl, Nat.le_of_ble_eq_true rfl⟩ ⟨Nat.zero_le _, Nat.zero_le _⟩ 1 rfl rfl rfl rfl (Nat.le_of_ble_eq_true rfl) dX8_keepsCoefficients_19 (SG.one ([(a 0, .inr (8, [.ref (ash a 1 0), .ref (ash a 5 0), .ref (ash a 9 0), ii V0.2.2.2.1, .ref (a 13), ii V0.2.2.2.2.2.1, .ref (ash a 14 0), .ref (ash a 18 0), .ref (a 22)]))]) (c1 K 6 (ash a 5) V0.2.1 ++ (c1 K 4 (ash a 9) V0.2.2.1 ++ ([(a 13, .inl (K.2.1, 6, .inl (arI V0.2.2.2.2.1)))] ++ (c4 K (ash a 14) V0.2.2.2.2.2.2.1 ++ (c6 K (ash a 18) V0.2.2.2.2.2.2.2.1 ++ ([(a 22, .inl (K.2.1, 8, .inl (arI V0.2.2.2.2.2.2.2.2)))])))))) rfl rfl rfl) rfl ?_
    refine g_icmp_ge X hf 100 dX8_keepsCoefficients_22 (by decide) (fun hf => ?_) (fun hf => ?_)
    · refine g_iconst X dX8_keepsCoefficients_25 ?_
      refine g_istore X (lv' := [(5, ii 0), (0, .ref (a 0)), (1, ii x1), (2, ii x2), (3, ii x3), (4, ii y4)]) dX8_keepsCoefficients_26 (by decide) rfl ?_
      refine g_iconst X dX8_keepsCoefficients_28 ?_
      refine g_istore X (lv' := [(6, ii 0), (5, ii 0), (0, .ref (a 0)), (1, ii x1), (2, ii x2), (3, ii x3), (4, ii y4)]) dX8_keepsCoefficients_29 (by decide) rfl ?_
      refine g_sub (lv' := [(0, .ref (a 0)), (1, ii x1), (2, ii x2), (3, ii x3), (4, ii y4), (5, ii 0), (6, ii 0)]) [2, 3, 4, 5, 6, 1, 0] rfl ?_
      refine X8_keepsCoefficients_L31_ok K l a WC X hr hlk V0 x1 x2 x3 y4 res FU 0 0 hf (fun w11 hf => ?_)
      refine g_iload X dX8_keepsCoefficients_73 5 rfl ?_
      refine g_sipush X dX8_keepsCoefficients_75 (by decide +kernel) ?_
      refine g_irem X hf (by decide) dX8_keepsCoefficients_78 (fun v12 hf => ?_)
      refine g_aload_n X dX8_keepsCoefficients_79 0 rfl rfl ?_
      refine g_get X (v := .ref (ash a 1 0)) 0 0 dX8_keepsCoefficients_80 rfl rfl iw_X8_keepsCoefficients_X8 (by decide) fl_X8_keepsCoefficients_14 rfl ?_
      refine g_iload_n X dX8_keepsCoefficients_83 1 rfl rfl ?_
      refine g_iload X dX8_keepsCoefficients_84 4 rfl ?_
      obtain ⟨v13, hc14, hf⟩ := Option.bind_eq_some_iff.mp hf
      refine g_callV X (As := [ii x1, ii y4]) (st := [ii v12]) (st1 := [ii v13, ii v12]) (ws' := c8 K a V0) (X1_term_ok K l 6 (by decide) (ash a 1) V0.1 x1 y4 v13 hc14) gX8_keepsCoefficients_X1_term rfl 2 (by decide +kernel) ⟨rfl, rfl⟩ ⟨Nat.le_of_ble_eq_true rfl, Nat.le_of_ble_eq_true rfl⟩ ⟨Nat.zero_le _, Nat.zero_le _⟩ 1 rfl rfl rfl rfl (Nat.le_of_ble_eq_true rfl) dX8_keepsCoefficients_86 (SG.one ([(a 0, .inr (8, [.ref (ash a 1 0), .ref (ash a 5 0), .ref (ash a 9 0), ii V0.2.2.2.1, .ref (a 13), ii V0.2.2.2.2.2.1, .ref (ash a 14 0), .ref (ash a 18 0), .ref (a 22)]))]) (c1 K 6 (ash a 5) V0.2.1 ++ (c1 K 4 (ash a 9) V0.2.2.1 ++ ([(a 13, .inl (K.2.1, 6, .inl (arI V0.2.2.2.2.1)))] ++ (c4 K (ash a 14) V0.2.2.2.2.2.2.1 ++ (c6 K (ash a 18) V0.2.2.2.2.2.2.2.1 ++ ([(a 22, .inl (K.2.1, 8, .inl (arI V0.2.2.2.2.2.2.2.2)))])))))) rfl rfl rfl) rfl ?_
      refine g_icmp_eq X hf 94 dX8_keepsCoefficients_89 (by decide) (fun hf => ?_) (fun hf => ?_)
      · refine g_iinc X (lv' := [(4, ii (y4 + 1)), (0, .ref (a 0)), (1, ii x1), (2, ii x2), (3, ii x3), (5, ii w11)]) dX8_keepsCoefficients_94 4 rfl (by decide) rfl ?_
        refine g_goto X 12 dX8_keepsCoefficients_97 (by decide) ?_
        refine g_sub (lv' := [(0, .ref (a 0)), (1, ii x1), (2, ii x2), (3, ii x3), (4, ii (y4 + 1))]) [1, 2, 3, 4, 0] rfl ?_
        exact ih (y4 + 1) hf hk
      · refine g_iconst X dX8_keepsCoefficients_92 ?_
        cases hf
        exact g_zret X (Or.inl rfl) hr hlk dX8_keepsCoefficients_93
    · refine g_sub (lv' := []) [] rfl ?_
      exact hk hf
set_option maxHeartbeats 4000000 in
set_option maxRecDepth 100000 in
theorem X8_keepsCoefficients_go (K : KE) (l : Launch) (a : Nat → Nat) (WC : va_W) {p : Program} {e : Env} {s : State} {m : MethodId} {args : Array Value} {below : List Frame} {meth : Method} {c : Code} (X : CX p s m args c K.1 vwCl (kT K) (va_A WC s.heap.size) cX8_keepsCoefficients 7 wsX8_keepsCoefficients RX8) (hr : meth.sig.returnType = (some .boolean)) (hlk : meth.locks = false) (V0 : St) (p1 : Int) (p2 : Int) (res : Int) (hf : X8_keepsCoefficients V0 p1 p2 = some res) : GO p l e rmX8_keepsCoefficients s m args below meth c K.1 vwCl (va_A WC s.heap.size) (MQ below (QC K.1 vwCl (some (ii res)) WC (c8 K a V0) s.heap.size) args s 0 0 (va_A WC s.heap.size)) 7 0 0 0 [(0, .ref (a 0)), (1, ii p1), (2, ii p2)] [] (c8 K a V0) := by
  rw [X8_keepsCoefficients] at hf
  refine g_aload_n X dX8_keepsCoefficients_0 0 rfl rfl ?_
  refine g_get X (v := .ref (ash a 14 0)) 0 6 dX8_keepsCoefficients_1 rfl rfl iw_X8_keepsCoefficients_X8 (by decide) fl_X8_keepsCoefficients_40 rfl ?_
  refine g_iload_n X dX8_keepsCoefficients_4 1 rfl rfl ?_
  obtain ⟨v1, hc2, hf⟩ := Option.bind_eq_some_iff.mp hf
  refine g_callV X (As := [ii p1]) (st := []) (st1 := [ii v1]) (ws' := c8 K a V0) (X4_targetOf_ok K l (ash a 14) V0.2.2.2.2.2.2.1 p1 v1 hc2) gX8_keepsCoefficients_X4_targetOf rfl 1 (by decide +kernel) ⟨rfl, rfl⟩ ⟨Nat.le_of_ble_eq_true rfl, Nat.le_of_ble_eq_true rfl⟩ ⟨Nat.zero_le _, Nat.zero_le _⟩ 14 rfl rfl rfl rfl (Nat.le_of_ble_eq_true rfl) dX8_keepsCoefficients_5 (SG.one ([(a 0, .inr (8, [.ref (ash a 1 0), .ref (ash a 5 0), .ref (ash a 9 0), ii V0.2.2.2.1, .ref (a 13), ii V0.2.2.2.2.2.1, .ref (ash a 14 0), .ref (ash a 18 0), .ref (a 22)]))] ++ (c1 K 6 (ash a 1) V0.1 ++ (c1 K 6 (ash a 5) V0.2.1 ++ (c1 K 4 (ash a 9) V0.2.2.1 ++ ([(a 13, .inl (K.2.1, 6, .inl (arI V0.2.2.2.2.1)))]))))) (c6 K (ash a 18) V0.2.2.2.2.2.2.2.1 ++ ([(a 22, .inl (K.2.1, 8, .inl (arI V0.2.2.2.2.2.2.2.2)))])) rfl rfl rfl) rfl ?_
  refine g_istore_n X (lv' := [(3, ii v1), (0, .ref (a 0)), (1, ii p1), (2, ii p2)]) dX8_keepsCoefficients_8 rfl (by decide) rfl ?_
  refine g_iconst X dX8_keepsCoefficients_9 ?_
  refine g_istore X (lv' := [(4, ii 0), (3, ii v1), (0, .ref (a 0)), (1, ii p1), (2, ii p2)]) dX8_keepsCoefficients_10 (by decide) rfl ?_
  refine g_sub (lv' := [(0, .ref (a 0)), (1, ii p1), (2, ii p2), (3, ii v1), (4, ii 0)]) [2, 3, 4, 1, 0] rfl ?_
  refine X8_keepsCoefficients_L12_ok K l a WC X hr hlk V0 p1 p2 v1 res FU 0 hf (fun hf => ?_)
  refine g_iconst X dX8_keepsCoefficients_100 ?_
  cases hf
  exact g_zret X (Or.inr rfl) hr hlk dX8_keepsCoefficients_101
set_option maxHeartbeats 4000000 in
set_option maxRecDepth 100000 in
theorem X8_keepsCoefficients_ok (K : KE) (l : Launch) (a : Nat → Nat) (V0 : St) (p1 : Int) (p2 : Int) (res : Int) (hf : X8_keepsCoefficients V0 p1 p2 = some res) : CT l K.1 vwCl (kT K) yX8_keepsCoefficients wsX8_keepsCoefficients rmX8_keepsCoefficients [.ref (a 0), ii p1, ii p2] (some (ii res)) (c8 K a V0) (c8 K a V0) :=
  CT.mk (cc := cX8_keepsCoefficients) (maxL := 7) (ret := (some .boolean)) (by decide) rfl (Nat.le_of_ble_eq_true rfl) (fun p e s m below meth c X hr hlk => X8_keepsCoefficients_go K l a _ X hr hlk V0 p1 p2 res hf)
theorem iw_X8_keepsMeaning_X8 : ∀ w ∈ u_ws RX8 TX8 9, w ∈ wsX8_keepsMeaning := by decide +kernel
theorem fl_X8_keepsMeaning_40 : Cond.fieldLink RX8 40 (TX8 6).1 (TX8 6).2.1 (TX8 6).2.2.1 ∈ wsX8_keepsMeaning := by decide +kernel
def rmX8_keepsMeaning : Room := { frames := 3, cells := 0, slots := 0, locals := 71 }
def X8_keepsMeaning (V0 : St) (p1 : Int) : Option (Int) := (X8_usedEntries V0 p1).bind (fun v1 => (X4_targetOf V0.2.2.2.2.2.2.1 p1).bind (fun v3 => brEQ v3 (-1) (some 0) ((X8_isWellFormed V0 p1 v1).bind (fun v5 => brEQ v5 0 (some 0) ((X8_keepsConstant V0 p1 v1).bind (fun v7 => brEQ v7 0 (some 0) ((X8_keepsCoefficients V0 p1 v1).bind (fun v9 => brEQ v9 0 (some 0) (some 1)))))))))
set_option maxHeartbeats 4000000 in
set_option maxRecDepth 100000 in
theorem X8_keepsMeaning_go (K : KE) (l : Launch) (a : Nat → Nat) (WC : va_W) {p : Program} {e : Env} {s : State} {m : MethodId} {args : Array Value} {below : List Frame} {meth : Method} {c : Code} (X : CX p s m args c K.1 vwCl (kT K) (va_A WC s.heap.size) cX8_keepsMeaning 3 wsX8_keepsMeaning RX8) (hr : meth.sig.returnType = (some .boolean)) (hlk : meth.locks = false) (V0 : St) (p1 : Int) (res : Int) (hf : X8_keepsMeaning V0 p1 = some res) : GO p l e rmX8_keepsMeaning s m args below meth c K.1 vwCl (va_A WC s.heap.size) (MQ below (QC K.1 vwCl (some (ii res)) WC (c8 K a V0) s.heap.size) args s 0 0 (va_A WC s.heap.size)) 3 0 0 0 [(0, .ref (a 0)), (1, ii p1)] [] (c8 K a V0) := by
  rw [X8_keepsMeaning] at hf
  refine g_aload_n X dX8_keepsMeaning_0 0 rfl rfl ?_
  refine g_iload_n X dX8_keepsMeaning_1 1 rfl rfl ?_
  obtain ⟨v1, hc2, hf⟩ := Option.bind_eq_some_iff.mp hf
  refine g_callV X (As := [ii p1]) (st := []) (st1 := [ii v1]) (ws' := c8 K a V0) (X8_usedEntries_ok K l a V0 p1 v1 hc2) gX8_keepsMeaning_X8_usedEntries rfl 1 (by decide +kernel) ⟨rfl, rfl⟩ ⟨Nat.le_of_ble_eq_true rfl, Nat.le_of_ble_eq_true rfl⟩ ⟨Nat.zero_le _, Nat.zero_le _⟩ 0 rfl rfl rfl rfl (Nat.le_of_ble_eq_true rfl) dX8_keepsMeaning_2 (SG.all rfl) rfl ?_
  refine g_istore_n X (lv' := [(2, ii v1), (0, .ref (a 0)), (1, ii p1)]) dX8_keepsMeaning_5 rfl (by decide) rfl ?_
  refine g_aload_n X dX8_keepsMeaning_6 1 rfl rfl ?_
  refine g_get X (v := .ref (ash a 14 0)) 0 6 dX8_keepsMeaning_7 rfl rfl iw_X8_keepsMeaning_X8 (by decide) fl_X8_keepsMeaning_40 rfl ?_
  refine g_iload_n X dX8_keepsMeaning_10 2 rfl rfl ?_
  obtain ⟨v3, hc4, hf⟩ := Option.bind_eq_some_iff.mp hf
  refine g_callV X (As := [ii p1]) (st := []) (st1 := [ii v3]) (ws' := c8 K a V0) (X4_targetOf_ok K l (ash a 14) V0.2.2.2.2.2.2.1 p1 v3 hc4) gX8_keepsMeaning_X4_targetOf rfl 1 (by decide +kernel) ⟨rfl, rfl⟩ ⟨Nat.le_of_ble_eq_true rfl, Nat.le_of_ble_eq_true rfl⟩ ⟨Nat.zero_le _, Nat.zero_le _⟩ 14 rfl rfl rfl rfl (Nat.le_of_ble_eq_true rfl) dX8_keepsMeaning_11 (SG.one ([(a 0, .inr (8, [.ref (ash a 1 0), .ref (ash a 5 0), .ref (ash a 9 0), ii V0.2.2.2.1, .ref (a 13), ii V0.2.2.2.2.2.1, .ref (ash a 14 0), .ref (ash a 18 0), .ref (a 22)]))] ++ (c1 K 6 (ash a 1) V0.1 ++ (c1 K 6 (ash a 5) V0.2.1 ++ (c1 K 4 (ash a 9) V0.2.2.1 ++ ([(a 13, .inl (K.2.1, 6, .inl (arI V0.2.2.2.2.1)))]))))) (c6 K (ash a 18) V0.2.2.2.2.2.2.2.1 ++ ([(a 22, .inl (K.2.1, 8, .inl (arI V0.2.2.2.2.2.2.2.2)))])) rfl rfl rfl) rfl ?_
  refine g_iconst X dX8_keepsMeaning_14 ?_
  refine g_icmp_eq X hf 49 dX8_keepsMeaning_15 (by decide) (fun hf => ?_) (fun hf => ?_)
  · refine g_iconst X dX8_keepsMeaning_49 ?_
    cases hf
    exact g_zret X (Or.inl rfl) hr hlk dX8_keepsMeaning_50
  · refine g_aload_n X dX8_keepsMeaning_18 1 rfl rfl ?_
    refine g_iload_n X dX8_keepsMeaning_19 2 rfl rfl ?_
    refine g_iload_n X dX8_keepsMeaning_20 0 rfl rfl ?_
    obtain ⟨v5, hc6, hf⟩ := Option.bind_eq_some_iff.mp hf
    refine g_callV X (As := [ii p1, ii v1]) (st := []) (st1 := [ii v5]) (ws' := c8 K a V0) (X8_isWellFormed_ok K l a V0 p1 v1 v5 hc6) gX8_keepsMeaning_X8_isWellFormed rfl 2 (by decide +kernel) ⟨rfl, rfl⟩ ⟨Nat.le_of_ble_eq_true rfl, Nat.le_of_ble_eq_true rfl⟩ ⟨Nat.zero_le _, Nat.zero_le _⟩ 0 rfl rfl rfl rfl (Nat.le_of_ble_eq_true rfl) dX8_keepsMeaning_21 (SG.all rfl) rfl ?_
    refine g_if_eq X hf 49 dX8_keepsMeaning_24 (by decide) (fun hf => ?_) (fun hf => ?_)
    · refine g_iconst X dX8_keepsMeaning_49 ?_
      cases hf
      exact g_zret X (Or.inl rfl) hr hlk dX8_keepsMeaning_50
    · refine g_aload_n X dX8_keepsMeaning_27 1 rfl rfl ?_
      refine g_iload_n X dX8_keepsMeaning_28 2 rfl rfl ?_
      refine g_iload_n X dX8_keepsMeaning_29 0 rfl rfl ?_
      obtain ⟨v7, hc8, hf⟩ := Option.bind_eq_some_iff.mp hf
      refine g_callV X (As := [ii p1, ii v1]) (st := []) (st1 := [ii v7]) (ws' := c8 K a V0) (X8_keepsConstant_ok K l a V0 p1 v1 v7 hc8) gX8_keepsMeaning_X8_keepsConstant rfl 2 (by decide +kernel) ⟨rfl, rfl⟩ ⟨Nat.le_of_ble_eq_true rfl, Nat.le_of_ble_eq_true rfl⟩ ⟨Nat.zero_le _, Nat.zero_le _⟩ 0 rfl rfl rfl rfl (Nat.le_of_ble_eq_true rfl) dX8_keepsMeaning_30 (SG.all rfl) rfl ?_
      refine g_if_eq X hf 49 dX8_keepsMeaning_33 (by decide) (fun hf => ?_) (fun hf => ?_)
      · refine g_iconst X dX8_keepsMeaning_49 ?_
        cases hf
        exact g_zret X (Or.inl rfl) hr hlk dX8_keepsMeaning_50
      · refine g_aload_n X dX8_keepsMeaning_36 1 rfl rfl ?_
        refine g_iload_n X dX8_keepsMeaning_37 2 rfl rfl ?_
        refine g_iload_n X dX8_keepsMeaning_38 0 rfl rfl ?_
        obtain ⟨v9, hc10, hf⟩ := Option.bind_eq_some_iff.mp hf
        refine g_callV X (As := [ii p1, ii v1]) (st := []) (st1 := [ii v9]) (ws' := c8 K a V0) (X8_keepsCoefficients_ok K l a V0 p1 v1 v9 hc10) gX8_keepsMeaning_X8_keepsCoefficients rfl 2 (by decide +kernel) ⟨rfl, rfl⟩ ⟨Nat.le_of_ble_eq_true rfl, Nat.le_of_ble_eq_true rfl⟩ ⟨Nat.zero_le _, Nat.zero_le _⟩ 0 rfl rfl rfl rfl (Nat.le_of_ble_eq_true rfl) dX8_keepsMeaning_39 (SG.all rfl) rfl ?_
        refine g_if_eq X hf 49 dX8_keepsMeaning_42 (by decide) (fun hf => ?_) (fun hf => ?_)
        · refine g_iconst X dX8_keepsMeaning_49 ?_
          cases hf
          exact g_zret X (Or.inl rfl) hr hlk dX8_keepsMeaning_50
        · refine g_iconst X dX8_keepsMeaning_45 ?_
          refine g_goto X 50 dX8_keepsMeaning_46 (by decide) ?_
          cases hf
          exact g_zret X (Or.inr rfl) hr hlk dX8_keepsMeaning_50
set_option maxHeartbeats 4000000 in
set_option maxRecDepth 100000 in
theorem X8_keepsMeaning_ok (K : KE) (l : Launch) (a : Nat → Nat) (V0 : St) (p1 : Int) (res : Int) (hf : X8_keepsMeaning V0 p1 = some res) : CT l K.1 vwCl (kT K) yX8_keepsMeaning wsX8_keepsMeaning rmX8_keepsMeaning [.ref (a 0), ii p1] (some (ii res)) (c8 K a V0) (c8 K a V0) :=
  CT.mk (cc := cX8_keepsMeaning) (maxL := 3) (ret := (some .boolean)) (by decide) rfl (Nat.le_of_ble_eq_true rfl) (fun p e s m below meth c X hr hlk => X8_keepsMeaning_go K l a _ X hr hlk V0 p1 res hf)
def rmX9_isEntryPosition : Room := { frames := 1, cells := 0, slots := 0, locals := 22 }
def X9_isEntryPosition (p0 : Int) : Option (Int) := (X9_within p0 0 3).bind (fun v1 => boK v1 (some v1))
set_option maxHeartbeats 4000000 in
set_option maxRecDepth 100000 in
theorem X9_isEntryPosition_go (K : KE) (l : Launch) (WC : va_W) {p : Program} {e : Env} {s : State} {m : MethodId} {args : Array Value} {below : List Frame} {meth : Method} {c : Code} (X : CX p s m args c K.1 vwCl (kT K) (va_A WC s.heap.size) cX9_isEntryPosition 1 wsX9_isEntryPosition RX9) (hr : meth.sig.returnType = (some .boolean)) (hlk : meth.locks = false) (p0 : Int) (res : Int) (hf : X9_isEntryPosition p0 = some res) : GO p l e rmX9_isEntryPosition s m args below meth c K.1 vwCl (va_A WC s.heap.size) (MQ below (QC K.1 vwCl (some (ii res)) WC ([]) s.heap.size) args s 0 0 (va_A WC s.heap.size)) 1 0 0 0 [(0, ii p0)] [] ([]) := by
  rw [X9_isEntryPosition] at hf
  refine g_iload_n X dX9_isEntryPosition_0 0 rfl rfl ?_
  refine g_iconst X dX9_isEntryPosition_1 ?_
  refine g_iconst X dX9_isEntryPosition_2 ?_
  obtain ⟨v1, hc2, hf⟩ := Option.bind_eq_some_iff.mp hf
  refine g_callS X (As := [ii p0, ii 0, ii 3]) (st := []) (st1 := [ii v1]) (ws' := []) (X9_within_ok K l p0 0 3 v1 hc2) gX9_isEntryPosition_X9_within rfl 3 (by decide +kernel) ⟨rfl, rfl⟩ ⟨Nat.le_of_ble_eq_true rfl, Nat.le_of_ble_eq_true rfl⟩ ⟨Nat.zero_le _, Nat.zero_le _⟩ rfl rfl (Nat.le_of_ble_eq_true rfl) dX9_isEntryPosition_3 SG.none rfl ?_
  obtain ⟨hb3, hf⟩ := boK_some hf
  cases hf
  exact g_zret X hb3 hr hlk dX9_isEntryPosition_6
set_option maxHeartbeats 4000000 in
set_option maxRecDepth 100000 in
theorem X9_isEntryPosition_ok (K : KE) (l : Launch) (p0 : Int) (res : Int) (hf : X9_isEntryPosition p0 = some res) : CT l K.1 vwCl (kT K) yX9_isEntryPosition wsX9_isEntryPosition rmX9_isEntryPosition [ii p0] (some (ii res)) ([]) ([]) :=
  CT.mk (cc := cX9_isEntryPosition) (maxL := 1) (ret := (some .boolean)) (by decide) rfl (Nat.le_of_ble_eq_true rfl) (fun p e s m below meth c X hr hlk => X9_isEntryPosition_go K l  _ X hr hlk p0 res hf)
def rmX9_isSource : Room := { frames := 1, cells := 0, slots := 0, locals := 22 }
def X9_isSource (p0 : Int) : Option (Int) := (X9_within p0 0 2).bind (fun v1 => boK v1 (some v1))
set_option maxHeartbeats 4000000 in
set_option maxRecDepth 100000 in
theorem X9_isSource_go (K : KE) (l : Launch) (WC : va_W) {p : Program} {e : Env} {s : State} {m : MethodId} {args : Array Value} {below : List Frame} {meth : Method} {c : Code} (X : CX p s m args c K.1 vwCl (kT K) (va_A WC s.heap.size) cX9_isSource 1 wsX9_isSource RX9) (hr : meth.sig.returnType = (some .boolean)) (hlk : meth.locks = false) (p0 : Int) (res : Int) (hf : X9_isSource p0 = some res) : GO p l e rmX9_isSource s m args below meth c K.1 vwCl (va_A WC s.heap.size) (MQ below (QC K.1 vwCl (some (ii res)) WC ([]) s.heap.size) args s 0 0 (va_A WC s.heap.size)) 1 0 0 0 [(0, ii p0)] [] ([]) := by
  rw [X9_isSource] at hf
  refine g_iload_n X dX9_isSource_0 0 rfl rfl ?_
  refine g_iconst X dX9_isSource_1 ?_
  refine g_iconst X dX9_isSource_2 ?_
  obtain ⟨v1, hc2, hf⟩ := Option.bind_eq_some_iff.mp hf
  refine g_callS X (As := [ii p0, ii 0, ii 2]) (st := []) (st1 := [ii v1]) (ws' := []) (X9_within_ok K l p0 0 2 v1 hc2) gX9_isSource_X9_within rfl 3 (by decide +kernel) ⟨rfl, rfl⟩ ⟨Nat.le_of_ble_eq_true rfl, Nat.le_of_ble_eq_true rfl⟩ ⟨Nat.zero_le _, Nat.zero_le _⟩ rfl rfl (Nat.le_of_ble_eq_true rfl) dX9_isSource_3 SG.none rfl ?_
  obtain ⟨hb3, hf⟩ := boK_some hf
  cases hf
  exact g_zret X hb3 hr hlk dX9_isSource_6
set_option maxHeartbeats 4000000 in
set_option maxRecDepth 100000 in
theorem X9_isSource_ok (K : KE) (l : Launch) (p0 : Int) (res : Int) (hf : X9_isSource p0 = some res) : CT l K.1 vwCl (kT K) yX9_isSource wsX9_isSource rmX9_isSource [ii p0] (some (ii res)) ([]) ([]) :=
  CT.mk (cc := cX9_isSource) (maxL := 1) (ret := (some .boolean)) (by decide) rfl (Nat.le_of_ble_eq_true rfl) (fun p e s m below meth c X hr hlk => X9_isSource_go K l  _ X hr hlk p0 res hf)
theorem ne_X8_adapterNumber_113 : (RX8, 113, yX9_within) ∈ nestL := by decide +kernel
theorem wd_X8_adapterNumber_ini9 : Cond.initialized yX9_within.cls ∈ wsX8_adapterNumber := by decide +kernel
theorem wd_X8_adapterNumber_sta_X9_within : Cond.static yX9_within ∈ wsX8_adapterNumber := by decide +kernel
theorem iw_X8_adapterNumber_X8 : ∀ w ∈ u_ws RX8 TX8 9, w ∈ wsX8_adapterNumber := by decide +kernel
theorem fl_X8_adapterNumber_30 : Cond.fieldLink RX8 30 (TX8 4).1 (TX8 4).2.1 (TX8 4).2.2.1 ∈ wsX8_adapterNumber := by decide +kernel
def rmX8_adapterNumber : Room := { frames := 1, cells := 0, slots := 0, locals := 22 }
def X8_adapterNumber (V0 : St) (p1 : Int) : Option (Int) := (X9_within p1 0 5).bind (fun v1 => brEQ v1 0 (some (-1)) (rdK 6 V0.2.2.2.2.1 p1 (fun v3 => some v3)))
set_option maxHeartbeats 4000000 in
set_option maxRecDepth 100000 in
theorem X8_adapterNumber_go (K : KE) (l : Launch) (a : Nat → Nat) (WC : va_W) {p : Program} {e : Env} {s : State} {m : MethodId} {args : Array Value} {below : List Frame} {meth : Method} {c : Code} (X : CX p s m args c K.1 vwCl (kT K) (va_A WC s.heap.size) cX8_adapterNumber 2 wsX8_adapterNumber RX8) (hr : meth.sig.returnType = (some .int)) (hlk : meth.locks = false) (V0 : St) (p1 : Int) (res : Int) (hf : X8_adapterNumber V0 p1 = some res) : GO p l e rmX8_adapterNumber s m args below meth c K.1 vwCl (va_A WC s.heap.size) (MQ below (QC K.1 vwCl (some (ii res)) WC (c8 K a V0) s.heap.size) args s 0 0 (va_A WC s.heap.size)) 2 0 0 0 [(0, .ref (a 0)), (1, ii p1)] [] (c8 K a V0) := by
  rw [X8_adapterNumber] at hf
  refine g_iload_n X dX8_adapterNumber_0 1 rfl rfl ?_
  refine g_iconst X dX8_adapterNumber_1 ?_
  refine g_iconst X dX8_adapterNumber_2 ?_
  obtain ⟨v1, hc2, hf⟩ := Option.bind_eq_some_iff.mp hf
  refine g_callSN X (As := [ii p1, ii 0, ii 5]) (st := []) (st1 := [ii v1]) (ws' := c8 K a V0) (X9_within_ok K l p1 0 5 v1 hc2) ggX8_adapterNumber_X9_within ne_X8_adapterNumber_113 wd_X8_adapterNumber_ini9 wd_X8_adapterNumber_sta_X9_within rfl 3 (by decide +kernel) ⟨rfl, rfl⟩ ⟨Nat.le_of_ble_eq_true rfl, Nat.le_of_ble_eq_true rfl⟩ ⟨Nat.zero_le _, Nat.zero_le _⟩ rfl rfl (Nat.le_of_ble_eq_true rfl) dX8_adapterNumber_3 SG.none rfl ?_
  refine g_if_eq X hf 18 dX8_adapterNumber_6 (by decide) (fun hf => ?_) (fun hf => ?_)
  · refine g_iconst X dX8_adapterNumber_18 ?_
    cases hf
    exact g_iret X hr hlk dX8_adapterNumber_19
  · refine g_aload_n X dX8_adapterNumber_9 0 rfl rfl ?_
    refine g_get X (v := .ref (a 13)) 0 4 dX8_adapterNumber_10 rfl rfl iw_X8_adapterNumber_X8 (by decide) fl_X8_adapterNumber_30 rfl ?_
    refine g_iload_n X dX8_adapterNumber_13 1 rfl rfl ?_
    refine g_iald X hf (by decide) 13 0 dX8_adapterNumber_14 rfl rfl (fun v3 hf => ?_)
    refine g_goto X 19 dX8_adapterNumber_15 (by decide) ?_
    cases hf
    exact g_iret X hr hlk dX8_adapterNumber_19
set_option maxHeartbeats 4000000 in
set_option maxRecDepth 100000 in
theorem X8_adapterNumber_ok (K : KE) (l : Launch) (a : Nat → Nat) (V0 : St) (p1 : Int) (res : Int) (hf : X8_adapterNumber V0 p1 = some res) : CT l K.1 vwCl (kT K) yX8_adapterNumber wsX8_adapterNumber rmX8_adapterNumber [.ref (a 0), ii p1] (some (ii res)) (c8 K a V0) (c8 K a V0) :=
  CT.mk (cc := cX8_adapterNumber) (maxL := 2) (ret := (some .int)) (by decide) rfl (Nat.le_of_ble_eq_true rfl) (fun p e s m below meth c X hr hlk => X8_adapterNumber_go K l a _ X hr hlk V0 p1 res hf)
theorem iw_X3_add_X3 : ∀ w ∈ u_ws RX3 TX3 3, w ∈ wsX3_add := by decide +kernel
theorem fl_X3_add_15 : Cond.fieldLink RX3 15 (TX3 1).1 (TX3 1).2.1 (TX3 1).2.2.1 ∈ wsX3_add := by decide +kernel
theorem fl_X3_add_9 : Cond.fieldLink RX3 9 (TX3 0).1 (TX3 0).2.1 (TX3 0).2.2.1 ∈ wsX3_add := by decide +kernel
def rmX3_add : Room := { frames := 0, cells := 0, slots := 0, locals := 0 }
def X3_add (V0 : In) (p1 : Int) : Option (Int × In) := brLT V0.2.1 120 (wrK 120 V0.1 V0.2.1 p1 (fun f1 => some (1, (f1, (V0.2.1 + 1), V0.2.2)))) (some (0, V0))
set_option maxHeartbeats 4000000 in
set_option maxRecDepth 100000 in
theorem X3_add_go (K : KE) (l : Launch) (a : Nat → Nat) (WC : va_W) {p : Program} {e : Env} {s : State} {m : MethodId} {args : Array Value} {below : List Frame} {meth : Method} {c : Code} (X : CX p s m args c K.1 vwCl (kT K) (va_A WC s.heap.size) cX3_add 2 wsX3_add RX3) (hr : meth.sig.returnType = (some .boolean)) (hlk : meth.locks = false) (V0 : In) (p1 : Int) (res : Int × In) (hf : X3_add V0 p1 = some res) : GO p l e rmX3_add s m args below meth c K.1 vwCl (va_A WC s.heap.size) (MQ below (QC K.1 vwCl (some (ii res.1)) WC (c3 K a res.2) s.heap.size) args s 0 0 (va_A WC s.heap.size)) 2 0 0 0 [(0, .ref (a 0)), (1, ii p1)] [] (c3 K a V0) := by
  rw [X3_add] at hf
  refine g_aload_n X dX3_add_0 0 rfl rfl ?_
  refine g_get X (v := ii V0.2.1) 0 1 dX3_add_1 rfl rfl iw_X3_add_X3 (by decide) fl_X3_add_15 rfl ?_
  refine g_bipush X dX3_add_4 (by decide +kernel) ?_
  refine g_icmp_lt X hf 11 dX3_add_6 (by decide) (fun hf => ?_) (fun hf => ?_)
  · refine g_aload_n X dX3_add_11 0 rfl rfl ?_
    refine g_get X (v := .ref (a 1)) 0 0 dX3_add_12 rfl rfl iw_X3_add_X3 (by decide) fl_X3_add_9 rfl ?_
    refine g_aload_n X dX3_add_15 0 rfl rfl ?_
    refine g_get X (v := ii V0.2.1) 0 1 dX3_add_16 rfl rfl iw_X3_add_X3 (by decide) fl_X3_add_15 rfl ?_
    refine g_iload_n X dX3_add_19 1 rfl rfl ?_
    refine g_iast X hf (by decide) 1 0 dX3_add_20 rfl rfl (fun f1 => c3 K a (f1, V0.2.1, V0.2.2)) (fun _ => rfl) (fun f1 hf => ?_)
    refine g_aload_n X dX3_add_21 0 rfl rfl ?_
    refine g_dup X dX3_add_22 rfl ?_
    refine g_get X (v := ii V0.2.1) 0 1 dX3_add_23 rfl rfl iw_X3_add_X3 (by decide) fl_X3_add_15 rfl ?_
    refine g_iconst X dX3_add_26 ?_
    refine g_iadd X dX3_add_27 ?_
    refine g_puti X 0 1 dX3_add_28 rfl rfl iw_X3_add_X3 tyX3_ok nmX3 (by decide) fl_X3_add_15 rfl rfl (Nat.le_of_ble_eq_true rfl) (ws' := c3 K a (f1, (V0.2.1 + 1), V0.2.2)) rfl ?_
    refine g_iconst X dX3_add_31 ?_
    cases hf
    exact g_zret X (Or.inr rfl) hr hlk dX3_add_32
  · refine g_iconst X dX3_add_9 ?_
    cases hf
    exact g_zret X (Or.inl rfl) hr hlk dX3_add_10
set_option maxHeartbeats 4000000 in
set_option maxRecDepth 100000 in
theorem X3_add_ok (K : KE) (l : Launch) (a : Nat → Nat) (V0 : In) (p1 : Int) (res : Int × In) (hf : X3_add V0 p1 = some res) : CT l K.1 vwCl (kT K) yX3_add wsX3_add rmX3_add [.ref (a 0), ii p1] (some (ii res.1)) (c3 K a V0) (c3 K a res.2) :=
  CT.mk (cc := cX3_add) (maxL := 2) (ret := (some .boolean)) (by decide) rfl (Nat.le_of_ble_eq_true rfl) (fun p e s m below meth c X hr hlk => X3_add_go K l a _ X hr hlk V0 p1 res hf)
theorem iw_X3_digitFollows_X3 : ∀ w ∈ u_ws RX3 TX3 3, w ∈ wsX3_digitFollows := by decide +kernel
theorem fl_X3_digitFollows_19 : Cond.fieldLink RX3 19 (TX3 2).1 (TX3 2).2.1 (TX3 2).2.2.1 ∈ wsX3_digitFollows := by decide +kernel
theorem fl_X3_digitFollows_15 : Cond.fieldLink RX3 15 (TX3 1).1 (TX3 1).2.1 (TX3 1).2.2.1 ∈ wsX3_digitFollows := by decide +kernel
theorem fl_X3_digitFollows_9 : Cond.fieldLink RX3 9 (TX3 0).1 (TX3 0).2.1 (TX3 0).2.2.1 ∈ wsX3_digitFollows := by decide +kernel
theorem ne_X3_digitFollows_31 : (RX3, 31, yX9_within) ∈ nestL := by decide +kernel
theorem wd_X3_digitFollows_ini9 : Cond.initialized yX9_within.cls ∈ wsX3_digitFollows := by decide +kernel
theorem wd_X3_digitFollows_sta_X9_within : Cond.static yX9_within ∈ wsX3_digitFollows := by decide +kernel
def rmX3_digitFollows : Room := { frames := 1, cells := 0, slots := 0, locals := 22 }
def X3_digitFollows (V0 : In) : Option (Int) := brLT V0.2.2 V0.2.1 (rdK 120 V0.1 V0.2.2 (fun v1 => (X9_within v1 48 57).bind (fun v2 => brEQ v2 0 (some 0) (some 1)))) (some 0)
set_option maxHeartbeats 4000000 in
set_option maxRecDepth 100000 in
theorem X3_digitFollows_go (K : KE) (l : Launch) (a : Nat → Nat) (WC : va_W) {p : Program} {e : Env} {s : State} {m : MethodId} {args : Array Value} {below : List Frame} {meth : Method} {c : Code} (X : CX p s m args c K.1 vwCl (kT K) (va_A WC s.heap.size) cX3_digitFollows 1 wsX3_digitFollows RX3) (hr : meth.sig.returnType = (some .boolean)) (hlk : meth.locks = false) (V0 : In) (res : Int) (hf : X3_digitFollows V0 = some res) : GO p l e rmX3_digitFollows s m args below meth c K.1 vwCl (va_A WC s.heap.size) (MQ below (QC K.1 vwCl (some (ii res)) WC (c3 K a V0) s.heap.size) args s 0 0 (va_A WC s.heap.size)) 1 0 0 0 [(0, .ref (a 0))] [] (c3 K a V0) := by
  rw [X3_digitFollows] at hf
  refine g_aload_n X dX3_digitFollows_0 0 rfl rfl ?_
  refine g_get X (v := ii V0.2.2) 0 2 dX3_digitFollows_1 rfl rfl iw_X3_digitFollows_X3 (by decide) fl_X3_digitFollows_19 rfl ?_
  refine g_aload_n X dX3_digitFollows_4 0 rfl rfl ?_
  refine g_get X (v := ii V0.2.1) 0 1 dX3_digitFollows_5 rfl rfl iw_X3_digitFollows_X3 (by decide) fl_X3_digitFollows_15 rfl ?_
  refine g_icmp_ge X hf 34 dX3_digitFollows_8 (by decide) (fun hf => ?_) (fun hf => ?_)
  · refine g_aload_n X dX3_digitFollows_11 0 rfl rfl ?_
    refine g_get X (v := .ref (a 1)) 0 0 dX3_digitFollows_12 rfl rfl iw_X3_digitFollows_X3 (by decide) fl_X3_digitFollows_9 rfl ?_
    refine g_aload_n X dX3_digitFollows_15 0 rfl rfl ?_
    refine g_get X (v := ii V0.2.2) 0 2 dX3_digitFollows_16 rfl rfl iw_X3_digitFollows_X3 (by decide) fl_X3_digitFollows_19 rfl ?_
    refine g_iald X hf (by decide) 1 0 dX3_digitFollows_19 rfl rfl (fun v1 hf => ?_)
    refine g_bipush X dX3_digitFollows_20 (by decide +kernel) ?_
    refine g_bipush X dX3_digitFollows_22 (by decide +kernel) ?_
    obtain ⟨v2, hc3, hf⟩ := Option.bind_eq_some_iff.mp hf
    refine g_callSN X (As := [ii v1, ii 48, ii 57]) (st := []) (st1 := [ii v2]) (ws' := c3 K a V0) (X9_within_ok K l v1 48 57 v2 hc3) ggX3_digitFollows_X9_within ne_X3_digitFollows_31 wd_X3_digitFollows_ini9 wd_X3_digitFollows_sta_X9_within rfl 3 (by decide +kernel) ⟨rfl, rfl⟩ ⟨Nat.le_of_ble_eq_true rfl, Nat.le_of_ble_eq_true rfl⟩ ⟨Nat.zero_le _, Nat.zero_le _⟩ rfl rfl (Nat.le_of_ble_eq_true rfl) dX3_digitFollows_24 SG.none rfl ?_
    refine g_if_eq X hf 34 dX3_digitFollows_27 (by decide) (fun hf => ?_) (fun hf => ?_)
    · refine g_iconst X dX3_digitFollows_34 ?_
      cases hf
      exact g_zret X (Or.inl rfl) hr hlk dX3_digitFollows_35
    · refine g_iconst X dX3_digitFollows_30 ?_
      refine g_goto X 35 dX3_digitFollows_31 (by decide) ?_
      cases hf
      exact g_zret X (Or.inr rfl) hr hlk dX3_digitFollows_35
  · refine g_iconst X dX3_digitFollows_34 ?_
    cases hf
    exact g_zret X (Or.inl rfl) hr hlk dX3_digitFollows_35
set_option maxHeartbeats 4000000 in
set_option maxRecDepth 100000 in
theorem X3_digitFollows_ok (K : KE) (l : Launch) (a : Nat → Nat) (V0 : In) (res : Int) (hf : X3_digitFollows V0 = some res) : CT l K.1 vwCl (kT K) yX3_digitFollows wsX3_digitFollows rmX3_digitFollows [.ref (a 0)] (some (ii res)) (c3 K a V0) (c3 K a V0) :=
  CT.mk (cc := cX3_digitFollows) (maxL := 1) (ret := (some .boolean)) (by decide) rfl (Nat.le_of_ble_eq_true rfl) (fun p e s m below meth c X hr hlk => X3_digitFollows_go K l a _ X hr hlk V0 res hf)
theorem iw_X6_add_X6 : ∀ w ∈ u_ws RX6 TX6 4, w ∈ wsX6_add := by decide +kernel
theorem fl_X6_add_9 : Cond.fieldLink RX6 9 (TX6 0).1 (TX6 0).2.1 (TX6 0).2.2.1 ∈ wsX6_add := by decide +kernel
theorem fl_X6_add_15 : Cond.fieldLink RX6 15 (TX6 1).1 (TX6 1).2.1 (TX6 1).2.2.1 ∈ wsX6_add := by decide +kernel
theorem fl_X6_add_19 : Cond.fieldLink RX6 19 (TX6 2).1 (TX6 2).2.1 (TX6 2).2.2.1 ∈ wsX6_add := by decide +kernel
theorem fl_X6_add_22 : Cond.fieldLink RX6 22 (TX6 3).1 (TX6 3).2.1 (TX6 3).2.2.1 ∈ wsX6_add := by decide +kernel
def rmX6_add : Room := { frames := 0, cells := 0, slots := 0, locals := 0 }
def X6_add (V0 : Pg) (p1 : Int) (p2 : Int) (p3 : Int) : Option (Int × Pg) := brLT V0.1 30 (wrK 30 V0.2.1 V0.1 p1 (fun f1 => wrK 30 V0.2.2.1 V0.1 p2 (fun f2 => wrK 30 V0.2.2.2 V0.1 p3 (fun f3 => some (1, ((V0.1 + 1), f1, f2, f3)))))) (some (0, V0))
set_option maxHeartbeats 4000000 in
set_option maxRecDepth 100000 in
theorem X6_add_go (K : KE) (l : Launch) (a : Nat → Nat) (WC : va_W) {p : Program} {e : Env} {s : State} {m : MethodId} {args : Array Value} {below : List Frame} {meth : Method} {c : Code} (X : CX p s m args c K.1 vwCl (kT K) (va_A WC s.heap.size) cX6_add 4 wsX6_add RX6) (hr : meth.sig.returnType = (some .boolean)) (hlk : meth.locks = false) (V0 : Pg) (p1 : Int) (p2 : Int) (p3 : Int) (res : Int × Pg) (hf : X6_add V0 p1 p2 p3 = some res) : GO p l e rmX6_add s m args below meth c K.1 vwCl (va_A WC s.heap.size) (MQ below (QC K.1 vwCl (some (ii res.1)) WC (c6 K a res.2) s.heap.size) args s 0 0 (va_A WC s.heap.size)) 4 0 0 0 [(0, .ref (a 0)), (1, ii p1), (2, ii p2), (3, ii p3)] [] (c6 K a V0) := by
  rw [X6_add] at hf
  refine g_aload_n X dX6_add_0 0 rfl rfl ?_
  refine g_get X (v := ii V0.1) 0 0 dX6_add_1 rfl rfl iw_X6_add_X6 (by decide) fl_X6_add_9 rfl ?_
  refine g_bipush X dX6_add_4 (by decide +kernel) ?_
  refine g_icmp_lt X hf 11 dX6_add_6 (by decide) (fun hf => ?_) (fun hf => ?_)
  · refine g_aload_n X dX6_add_11 0 rfl rfl ?_
    refine g_get X (v := .ref (a 1)) 0 1 dX6_add_12 rfl rfl iw_X6_add_X6 (by decide) fl_X6_add_15 rfl ?_
    refine g_aload_n X dX6_add_15 0 rfl rfl ?_
    refine g_get X (v := ii V0.1) 0 0 dX6_add_16 rfl rfl iw_X6_add_X6 (by decide) fl_X6_add_9 rfl ?_
    refine g_iload_n X dX6_add_19 1 rfl rfl ?_
    refine g_iast X hf (by decide) 1 0 dX6_add_20 rfl rfl (fun f1 => c6 K a (V0.1, f1, V0.2.2.1, V0.2.2.2)) (fun _ => rfl) (fun f1 hf => ?_)
    refine g_aload_n X dX6_add_21 0 rfl rfl ?_
    refine g_get X (v := .ref (a 2)) 0 2 dX6_add_22 rfl rfl iw_X6_add_X6 (by decide) fl_X6_add_19 rfl ?_
    refine g_aload_n X dX6_add_25 0 rfl rfl ?_
    refine g_get X (v := ii V0.1) 0 0 dX6_add_26 rfl rfl iw_X6_add_X6 (by decide) fl_X6_add_9 rfl ?_
    refine g_iload_n X dX6_add_29 2 rfl rfl ?_
    refine g_iast X hf (by decide) 2 0 dX6_add_30 rfl rfl (fun f2 => c6 K a (V0.1, f1, f2, V0.2.2.2)) (fun _ => rfl) (fun f2 hf => ?_)
    refine g_aload_n X dX6_add_31 0 rfl rfl ?_
    refine g_get X (v := .ref (a 3)) 0 3 dX6_add_32 rfl rfl iw_X6_add_X6 (by decide) fl_X6_add_22 rfl ?_
    refine g_aload_n X dX6_add_35 0 rfl rfl ?_
    refine g_get X (v := ii V0.1) 0 0 dX6_add_36 rfl rfl iw_X6_add_X6 (by decide) fl_X6_add_9 rfl ?_
    refine g_iload_n X dX6_add_39 3 rfl rfl ?_
    refine g_iast X hf (by decide) 3 0 dX6_add_40 rfl rfl (fun f3 => c6 K a (V0.1, f1, f2, f3)) (fun _ => rfl) (fun f3 hf => ?_)
    refine g_aload_n X dX6_add_41 0 rfl rfl ?_
    refine g_dup X dX6_add_42 rfl ?_
    refine g_get X (v := ii V0.1) 0 0 dX6_add_43 rfl rfl iw_X6_add_X6 (by decide) fl_X6_add_9 rfl ?_
    refine g_iconst X dX6_add_46 ?_
    refine g_iadd X dX6_add_47 ?_
    refine g_puti X 0 0 dX6_add_48 rfl rfl iw_X6_add_X6 tyX6_ok nmX6 (by decide) fl_X6_add_9 rfl rfl (Nat.le_of_ble_eq_true rfl) (ws' := c6 K a ((V0.1 + 1), f1, f2, f3)) rfl ?_
    refine g_iconst X dX6_add_51 ?_
    cases hf
    exact g_zret X (Or.inr rfl) hr hlk dX6_add_52
  · refine g_iconst X dX6_add_9 ?_
    cases hf
    exact g_zret X (Or.inl rfl) hr hlk dX6_add_10
set_option maxHeartbeats 4000000 in
set_option maxRecDepth 100000 in
theorem X6_add_ok (K : KE) (l : Launch) (a : Nat → Nat) (V0 : Pg) (p1 : Int) (p2 : Int) (p3 : Int) (res : Int × Pg) (hf : X6_add V0 p1 p2 p3 = some res) : CT l K.1 vwCl (kT K) yX6_add wsX6_add rmX6_add [.ref (a 0), ii p1, ii p2, ii p3] (some (ii res.1)) (c6 K a V0) (c6 K a res.2) :=
  CT.mk (cc := cX6_add) (maxL := 4) (ret := (some .boolean)) (by decide) rfl (Nat.le_of_ble_eq_true rfl) (fun p e s m below meth c X hr hlk => X6_add_go K l a _ X hr hlk V0 p1 p2 p3 res hf)
theorem iw_X3_readNumber_X3 : ∀ w ∈ u_ws RX3 TX3 3, w ∈ wsX3_readNumber := by decide +kernel
theorem fl_X3_readNumber_9 : Cond.fieldLink RX3 9 (TX3 0).1 (TX3 0).2.1 (TX3 0).2.2.1 ∈ wsX3_readNumber := by decide +kernel
theorem fl_X3_readNumber_19 : Cond.fieldLink RX3 19 (TX3 2).1 (TX3 2).2.1 (TX3 2).2.2.1 ∈ wsX3_readNumber := by decide +kernel
def rmX3_readNumber : Room := { frames := 2, cells := 0, slots := 0, locals := 42 }
def X3_readNumber_L4 (kx : Int → In → Option (Int × In × Pg)) (V1 : Pg) : Nat → Int → Int → In → Option (Int × In × Pg)
  | 0, _, _, _ => none
  | n + 1, y2, y3, V0 => brLT y3 2 ((X3_digitFollows V0).bind (fun v1 => brEQ v1 0 (kx y2 V0) (rdK 120 V0.1 V0.2.2 (fun v3 => X3_readNumber_L4 kx V1 n (((y2 * 10) + v3) - 48) (y3 + 1) (V0.1, V0.2.1, (V0.2.2 + 1)))))) (kx y2 V0)
def X3_readNumber (V0 : In) (V1 : Pg) : Option (Int × In × Pg) := X3_readNumber_L4 (fun w4 w5 => (X6_add V1 0 w4 0).bind (fun w6 => boK w6.1 (some (w6.1, w5, w6.2)))) V1 FU 0 0 V0
set_option maxHeartbeats 4000000 in
set_option maxRecDepth 100000 in
theorem X3_readNumber_L4_ok (K : KE) (l : Launch) (a : Nat → Nat) (b : Nat → Nat) (WC : va_W) {p : Program} {e : Env} {s : State} {m : MethodId} {args : Array Value} {below : List Frame} {meth : Method} {c : Code} (X : CX p s m args c K.1 vwCl (kT K) (va_A WC s.heap.size) cX3_readNumber 4 wsX3_readNumber RX3) (hr : meth.sig.returnType = (some .boolean)) (hlk : meth.locks = false) (V1 : Pg)  (res : Int × In × Pg) {kx : Int → In → Option (Int × In × Pg)} : ∀ (n : Nat) (y2 : Int) (y3 : Int) (V0 : In), X3_readNumber_L4 kx V1 n y2 y3 V0 = some res → (∀ (z2 : Int) (V0z : In), kx z2 V0z = some res → GO p l e rmX3_readNumber s m args below meth c K.1 vwCl (va_A WC s.heap.size) (MQ below (QC K.1 vwCl (some (ii res.1)) WC (c3 K a res.2.1 ++ (c6 K b res.2.2)) s.heap.size) args s 0 0 (va_A WC s.heap.size)) 4 0 0 50 [(1, .ref (b 0)), (2, ii z2)] [] (c3 K a V0z ++ (c6 K b V1))) → GO p l e rmX3_readNumber s m args below meth c K.1 vwCl (va_A WC s.heap.size) (MQ below (QC K.1 vwCl (some (ii res.1)) WC (c3 K a res.2.1 ++ (c6 K b res.2.2)) s.heap.size) args s 0 0 (va_A WC s.heap.size)) 4 0 0 4 [(0, .ref (a 0)), (1, .ref (b 0)), (2, ii y2), (3, ii y3)] [] (c3 K a V0 ++ (c6 K b V1)) := by
  intro n
  induction n with
  | zero =>
    intro y2 y3 V0 hf _
    rw [X3_readNumber_L4] at hf
    cases hf
  | succ n ih =>
    intro y2 y3 V0 hf hk
    rw [X3_readNumber_L4] at hf
    refine g_iload_n X dX3_readNumber_4 3 rfl rfl ?_
    refine g_iconst X dX3_readNumber_5 ?_
    refine g_icmp_ge X hf 50 dX3_readNumber_6 (by decide) (fun hf => ?_) (fun hf => ?_)
    · refine g_aload_n X dX3_readNumber_9 0 rfl rfl ?_
      obtain ⟨v1, hc2, hf⟩ := Option.bind_eq_some_iff.mp hf
      refine g_callV X (As := []) (st := []) (st1 := [ii v1]) (ws' := c3 K a V0 ++ (c6 K b V1)) (X3_digitFollows_ok K l a V0 v1 hc2) gX3_readNumber_X3_digitFollows rfl 0 (by decide +kernel) ⟨rfl, rfl⟩ ⟨Nat.le_of_ble_eq_true rfl, Nat.le_of_ble_eq_true rfl⟩ ⟨Nat.zero_le _, Nat.zero_le _⟩ 0 rfl rfl rfl rfl (Nat.le_of_ble_eq_true rfl) dX3_readNumber_10 (SG.one [] (c6 K b V1) rfl rfl rfl) rfl ?_
      refine g_if_eq X hf 50 dX3_readNumber_13 (by decide) (fun hf => ?_) (fun hf => ?_)
      · refine g_sub (lv' := [(1, .ref (b 0)), (2, ii y2)]) [1, 2] rfl ?_
        exact hk y2 V0 hf
      · refine g_iload_n X dX3_readNumber_16 2 rfl rfl ?_
        refine g_bipush X dX3_readNumber_17 (by decide +kernel) ?_
        refine g_imul X dX3_readNumber_19 ?_
        refine g_aload_n X dX3_readNumber_20 0 rfl rfl ?_
        refine g_get X (v := .ref (a 1)) 0 0 dX3_readNumber_21 rfl rfl iw_X3_readNumber_X3 (by decide) fl_X3_readNumber_9 rfl ?_
        refine g_aload_n X dX3_readNumber_24 0 rfl rfl ?_
        refine g_get X (v := ii V0.2.2) 0 2 dX3_readNumber_25 rfl rfl iw_X3_readNumber_X3 (by decide) fl_X3_readNumber_19 rfl ?_
        refine g_iald X hf (by decide) 1 0 dX3_readNumber_28 rfl rfl (fun v3 hf => ?_)
        refine g_iadd X dX3_readNumber_29 ?_
        refine g_bipush X dX3_readNumber_30 (by decide +kernel) ?_
        refine g_isub X dX3_readNumber_32 ?_
        refine g_istore_n X (lv' := [(2, ii (((y2 * 10) + v3) - 48)), (0, .ref (a 0)), (1, .ref (b 0)), (3, ii y3)]) dX3_readNumber_33 rfl (by decide) rfl ?_
        refine g_aload_n X dX3_readNumber_34 1 rfl rfl ?_
        refine g_dup X dX3_readNumber_35 rfl ?_
        refine g_get X (v := ii V0.2.2) 0 2 dX3_readNumber_36 rfl rfl iw_X3_readNumber_X3 (by decide) fl_X3_readNumber_19 rfl ?_
        refine g_iconst X dX3_readNumber_39 ?_
        refine g_iadd X dX3_readNumber_40 ?_
        refine g_puti X 0 2 dX3_readNumber_41 rfl rfl iw_X3_readNumber_X3 tyX3_ok nmX3 (by decide) fl_X3_readNumber_19 rfl rfl (Nat.le_of_ble_eq_true rfl) (ws' := c3 K a (V0.1, V0.2.1, (V0.2.2 + 1)) ++ (c6 K b V1)) rfl ?_
        refine g_iinc X (lv' := [(3, ii (y3 + 1)), (2, ii (((y2 * 10) + v3) - 48)), (0, .ref (a 0)), (1, .ref (b 0))]) dX3_readNumber_44 3 rfl (by decide) rfl ?_
        refine g_goto X 4 dX3_readNumber_47 (by decide) ?_
        refine g_sub (lv' := [(0, .ref (a 0)), (1, .ref (b 0)), (2, ii (((y2 * 10) + v3) - 48)), (3, ii (y3 + 1))]) [2, 3, 1, 0] rfl ?_
        exact ih (((y2 * 10) + v3) - 48) (y3 + 1) (V0.1, V0.2.1, (V0.2.2 + 1)) hf hk
    · refine g_sub (lv' := [(1, .ref (b 0)), (2, ii y2)]) [1, 2] rfl ?_
      exact hk y2 V0 hf
set_option maxHeartbeats 4000000 in
set_option maxRecDepth 100000 in
theorem X3_readNumber_go (K : KE) (l : Launch) (a : Nat → Nat) (b : Nat → Nat) (WC : va_W) {p : Program} {e : Env} {s : State} {m : MethodId} {args : Array Value} {below : List Frame} {meth : Method} {c : Code} (X : CX p s m args c K.1 vwCl (kT K) (va_A WC s.heap.size) cX3_readNumber 4 wsX3_readNumber RX3) (hr : meth.sig.returnType = (some .boolean)) (hlk : meth.locks = false) (V0 : In) (V1 : Pg) (res : Int × In × Pg) (hf : X3_readNumber V0 V1 = some res) : GO p l e rmX3_readNumber s m args below meth c K.1 vwCl (va_A WC s.heap.size) (MQ below (QC K.1 vwCl (some (ii res.1)) WC (c3 K a res.2.1 ++ (c6 K b res.2.2)) s.heap.size) args s 0 0 (va_A WC s.heap.size)) 4 0 0 0 [(0, .ref (a 0)), (1, .ref (b 0))] [] (c3 K a V0 ++ (c6 K b V1)) := by
  rw [X3_readNumber] at hf
  refine g_iconst X dX3_readNumber_0 ?_
  refine g_istore_n X (lv' := [(2, ii 0), (0, .ref (a 0)), (1, .ref (b 0))]) dX3_readNumber_1 rfl (by decide) rfl ?_
  refine g_iconst X dX3_readNumber_2 ?_
  refine g_istore_n X (lv' := [(3, ii 0), (2, ii 0), (0, .ref (a 0)), (1, .ref (b 0))]) dX3_readNumber_3 rfl (by decide) rfl ?_
  refine g_sub (lv' := [(0, .ref (a 0)), (1, .ref (b 0)), (2, ii 0), (3, ii 0)]) [2, 3, 1, 0] rfl ?_
  refine X3_readNumber_L4_ok K l a b WC X hr hlk V1 res FU 0 0 V0 hf (fun w4 w5 hf => ?_)
  refine g_aload_n X dX3_readNumber_50 0 rfl rfl ?_
  refine g_iconst X dX3_readNumber_51 ?_
  refine g_iload_n X dX3_readNumber_52 1 rfl rfl ?_
  refine g_iconst X dX3_readNumber_53 ?_
  obtain ⟨w6, hc7, hf⟩ := Option.bind_eq_some_iff.mp hf
  refine g_callV X (As := [ii 0, ii w4, ii 0]) (st := []) (st1 := [ii w6.1]) (ws' := c3 K a w5 ++ (c6 K b w6.2)) (X6_add_ok K l b V1 0 w4 0 w6 hc7) gX3_readNumber_X6_add rfl 3 (by decide +kernel) ⟨rfl, rfl⟩ ⟨Nat.le_of_ble_eq_true rfl, Nat.le_of_ble_eq_true rfl⟩ ⟨Nat.zero_le _, Nat.zero_le _⟩ 2 rfl rfl rfl rfl (Nat.le_of_ble_eq_true rfl) dX3_readNumber_54 (SG.one (c3 K a w5) [] rfl rfl rfl) rfl ?_
  obtain ⟨hb8, hf⟩ := boK_some hf
  cases hf
  exact g_zret X hb8 hr hlk dX3_readNumber_57
set_option maxHeartbeats 4000000 in
set_option maxRecDepth 100000 in
theorem X3_readNumber_ok (K : KE) (l : Launch) (a : Nat → Nat) (b : Nat → Nat) (V0 : In) (V1 : Pg) (res : Int × In × Pg) (hf : X3_readNumber V0 V1 = some res) : CT l K.1 vwCl (kT K) yX3_readNumber wsX3_readNumber rmX3_readNumber [.ref (a 0), .ref (b 0)] (some (ii res.1)) (c3 K a V0 ++ (c6 K b V1)) (c3 K a res.2.1 ++ (c6 K b res.2.2)) :=
  CT.mk (cc := cX3_readNumber) (maxL := 4) (ret := (some .boolean)) (by decide) rfl (Nat.le_of_ble_eq_true rfl) (fun p e s m below meth c X hr hlk => X3_readNumber_go K l a b _ X hr hlk V0 V1 res hf)
theorem iw_X8_tableOf_X8 : ∀ w ∈ u_ws RX8 TX8 9, w ∈ wsX8_tableOf := by decide +kernel
theorem fl_X8_tableOf_14 : Cond.fieldLink RX8 14 (TX8 0).1 (TX8 0).2.1 (TX8 0).2.2.1 ∈ wsX8_tableOf := by decide +kernel
theorem fl_X8_tableOf_20 : Cond.fieldLink RX8 20 (TX8 1).1 (TX8 1).2.1 (TX8 1).2.2.1 ∈ wsX8_tableOf := by decide +kernel
theorem fl_X8_tableOf_23 : Cond.fieldLink RX8 23 (TX8 2).1 (TX8 2).2.1 (TX8 2).2.2.1 ∈ wsX8_tableOf := by decide +kernel
def rmX8_tableOf : Room := { frames := 0, cells := 0, slots := 0, locals := 0 }
def X8_tableOf (V0 : St) (p1 : Int) : Option (Int) := brEQ p1 2 (some 0) (brEQ p1 3 (some 1) (some 2))
set_option maxHeartbeats 4000000 in
set_option maxRecDepth 100000 in
theorem X8_tableOf_go (K : KE) (l : Launch) (a : Nat → Nat) (WC : va_W) {p : Program} {e : Env} {s : State} {m : MethodId} {args : Array Value} {below : List Frame} {meth : Method} {c : Code} (X : CX p s m args c K.1 vwCl (kT K) (va_A WC s.heap.size) cX8_tableOf 2 wsX8_tableOf RX8) (hr : meth.sig.returnType = (some (.object "CallMigrator$FunctionTable"))) (hlk : meth.locks = false) (V0 : St) (p1 : Int) (res : Int) (hf : X8_tableOf V0 p1 = some res) : GO p l e rmX8_tableOf s m args below meth c K.1 vwCl (va_A WC s.heap.size) (MQ below (QC K.1 vwCl (some (.ref (tbA a res))) WC (c8 K a V0) s.heap.size) args s 0 0 (va_A WC s.heap.size)) 2 0 0 0 [(0, .ref (a 0)), (1, ii p1)] [] (c8 K a V0) := by
  rw [X8_tableOf] at hf
  refine g_iload_n X dX8_tableOf_0 1 rfl rfl ?_
  refine g_iconst X dX8_tableOf_1 ?_
  refine g_icmp_ne X hf 10 dX8_tableOf_2 (by decide) (fun hf => ?_) (fun hf => ?_)
  · refine g_aload_n X dX8_tableOf_5 0 rfl rfl ?_
    refine g_get X (v := .ref (ash a 1 0)) 0 0 dX8_tableOf_6 rfl rfl iw_X8_tableOf_X8 (by decide) fl_X8_tableOf_14 rfl ?_
    cases hf
    exact g_aret X hr hlk dX8_tableOf_9
  · refine g_iload_n X dX8_tableOf_10 1 rfl rfl ?_
    refine g_iconst X dX8_tableOf_11 ?_
    refine g_icmp_ne X hf 22 dX8_tableOf_12 (by decide) (fun hf => ?_) (fun hf => ?_)
    · refine g_aload_n X dX8_tableOf_15 0 rfl rfl ?_
      refine g_get X (v := .ref (ash a 5 0)) 0 1 dX8_tableOf_16 rfl rfl iw_X8_tableOf_X8 (by decide) fl_X8_tableOf_20 rfl ?_
      refine g_goto X 26 dX8_tableOf_19 (by decide) ?_
      cases hf
      exact g_aret X hr hlk dX8_tableOf_26
    · refine g_aload_n X dX8_tableOf_22 0 rfl rfl ?_
      refine g_get X (v := .ref (ash a 9 0)) 0 2 dX8_tableOf_23 rfl rfl iw_X8_tableOf_X8 (by decide) fl_X8_tableOf_23 rfl ?_
      cases hf
      exact g_aret X hr hlk dX8_tableOf_26
set_option maxHeartbeats 4000000 in
set_option maxRecDepth 100000 in
theorem X8_tableOf_ok (K : KE) (l : Launch) (a : Nat → Nat) (V0 : St) (p1 : Int) (res : Int) (hf : X8_tableOf V0 p1 = some res) : CT l K.1 vwCl (kT K) yX8_tableOf wsX8_tableOf rmX8_tableOf [.ref (a 0), ii p1] (some (.ref (tbA a res))) (c8 K a V0) (c8 K a V0) :=
  CT.mk (cc := cX8_tableOf) (maxL := 2) (ret := (some (.object "CallMigrator$FunctionTable"))) (by decide) rfl (Nat.le_of_ble_eq_true rfl) (fun p e s m below meth c X hr hlk => X8_tableOf_go K l a _ X hr hlk V0 p1 res hf)
theorem iw_X3_take_X3 : ∀ w ∈ u_ws RX3 TX3 3, w ∈ wsX3_take := by decide +kernel
theorem fl_X3_take_19 : Cond.fieldLink RX3 19 (TX3 2).1 (TX3 2).2.1 (TX3 2).2.2.1 ∈ wsX3_take := by decide +kernel
theorem fl_X3_take_15 : Cond.fieldLink RX3 15 (TX3 1).1 (TX3 1).2.1 (TX3 1).2.2.1 ∈ wsX3_take := by decide +kernel
theorem fl_X3_take_9 : Cond.fieldLink RX3 9 (TX3 0).1 (TX3 0).2.1 (TX3 0).2.2.1 ∈ wsX3_take := by decide +kernel
def rmX3_take : Room := { frames := 0, cells := 0, slots := 0, locals := 0 }
def X3_take (V0 : In) (p1 : Int) : Option (Int × In) := brLT V0.2.2 V0.2.1 (rdK 120 V0.1 V0.2.2 (fun v1 => brEQ v1 p1 (some (1, (V0.1, V0.2.1, (V0.2.2 + 1)))) (some (0, V0)))) (some (0, V0))
set_option maxHeartbeats 4000000 in
set_option maxRecDepth 100000 in
theorem X3_take_go (K : KE) (l : Launch) (a : Nat → Nat) (WC : va_W) {p : Program} {e : Env} {s : State} {m : MethodId} {args : Array Value} {below : List Frame} {meth : Method} {c : Code} (X : CX p s m args c K.1 vwCl (kT K) (va_A WC s.heap.size) cX3_take 2 wsX3_take RX3) (hr : meth.sig.returnType = (some .boolean)) (hlk : meth.locks = false) (V0 : In) (p1 : Int) (res : Int × In) (hf : X3_take V0 p1 = some res) : GO p l e rmX3_take s m args below meth c K.1 vwCl (va_A WC s.heap.size) (MQ below (QC K.1 vwCl (some (ii res.1)) WC (c3 K a res.2) s.heap.size) args s 0 0 (va_A WC s.heap.size)) 2 0 0 0 [(0, .ref (a 0)), (1, ii p1)] [] (c3 K a V0) := by
  rw [X3_take] at hf
  refine g_aload_n X dX3_take_0 0 rfl rfl ?_
  refine g_get X (v := ii V0.2.2) 0 2 dX3_take_1 rfl rfl iw_X3_take_X3 (by decide) fl_X3_take_19 rfl ?_
  refine g_aload_n X dX3_take_4 0 rfl rfl ?_
  refine g_get X (v := ii V0.2.1) 0 1 dX3_take_5 rfl rfl iw_X3_take_X3 (by decide) fl_X3_take_15 rfl ?_
  refine g_icmp_ge X hf 24 dX3_take_8 (by decide) (fun hf => ?_) (fun hf => ?_)
  · refine g_aload_n X dX3_take_11 0 rfl rfl ?_
    refine g_get X (v := .ref (a 1)) 0 0 dX3_take_12 rfl rfl iw_X3_take_X3 (by decide) fl_X3_take_9 rfl ?_
    refine g_aload_n X dX3_take_15 0 rfl rfl ?_
    refine g_get X (v := ii V0.2.2) 0 2 dX3_take_16 rfl rfl iw_X3_take_X3 (by decide) fl_X3_take_19 rfl ?_
    refine g_iald X hf (by decide) 1 0 dX3_take_19 rfl rfl (fun v1 hf => ?_)
    refine g_iload_n X dX3_take_20 1 rfl rfl ?_
    refine g_icmp_eq X hf 26 dX3_take_21 (by decide) (fun hf => ?_) (fun hf => ?_)
    · refine g_aload_n X dX3_take_26 0 rfl rfl ?_
      refine g_dup X dX3_take_27 rfl ?_
      refine g_get X (v := ii V0.2.2) 0 2 dX3_take_28 rfl rfl iw_X3_take_X3 (by decide) fl_X3_take_19 rfl ?_
      refine g_iconst X dX3_take_31 ?_
      refine g_iadd X dX3_take_32 ?_
      refine g_puti X 0 2 dX3_take_33 rfl rfl iw_X3_take_X3 tyX3_ok nmX3 (by decide) fl_X3_take_19 rfl rfl (Nat.le_of_ble_eq_true rfl) (ws' := c3 K a (V0.1, V0.2.1, (V0.2.2 + 1))) rfl ?_
      refine g_iconst X dX3_take_36 ?_
      cases hf
      exact g_zret X (Or.inr rfl) hr hlk dX3_take_37
    · refine g_iconst X dX3_take_24 ?_
      cases hf
      exact g_zret X (Or.inl rfl) hr hlk dX3_take_25
  · refine g_iconst X dX3_take_24 ?_
    cases hf
    exact g_zret X (Or.inl rfl) hr hlk dX3_take_25
set_option maxHeartbeats 4000000 in
set_option maxRecDepth 100000 in
theorem X3_take_ok (K : KE) (l : Launch) (a : Nat → Nat) (V0 : In) (p1 : Int) (res : Int × In) (hf : X3_take V0 p1 = some res) : CT l K.1 vwCl (kT K) yX3_take wsX3_take rmX3_take [.ref (a 0), ii p1] (some (ii res.1)) (c3 K a V0) (c3 K a res.2) :=
  CT.mk (cc := cX3_take) (maxL := 2) (ret := (some .boolean)) (by decide) rfl (Nat.le_of_ble_eq_true rfl) (fun p e s m below meth c X hr hlk => X3_take_go K l a _ X hr hlk V0 p1 res hf)
theorem wd_X6_addNodes_ml25 : Cond.methodLink RX6 25 Lib.Math.max.name ∈ wsX6_addNodes := by decide +kernel
theorem wd_X6_addNodes_ms25 : Cond.static Lib.Math.max.name ∈ wsX6_addNodes := by decide +kernel
theorem wd_X6_addNodes_mi25 : Cond.initialized "java/lang/Math" ∈ wsX6_addNodes := by decide +kernel
theorem wd_X6_addNodes_mc25 : Cond.code Lib.Math.max.name Lib.Math.max.code 2 (some .int) ∈ wsX6_addNodes := by decide +kernel
theorem iw_X6_addNodes_X6 : ∀ w ∈ u_ws RX6 TX6 4, w ∈ wsX6_addNodes := by decide +kernel
theorem fl_X6_addNodes_9 : Cond.fieldLink RX6 9 (TX6 0).1 (TX6 0).2.1 (TX6 0).2.2.1 ∈ wsX6_addNodes := by decide +kernel
theorem fl_X6_addNodes_15 : Cond.fieldLink RX6 15 (TX6 1).1 (TX6 1).2.1 (TX6 1).2.2.1 ∈ wsX6_addNodes := by decide +kernel
theorem fl_X6_addNodes_19 : Cond.fieldLink RX6 19 (TX6 2).1 (TX6 2).2.1 (TX6 2).2.2.1 ∈ wsX6_addNodes := by decide +kernel
theorem fl_X6_addNodes_22 : Cond.fieldLink RX6 22 (TX6 3).1 (TX6 3).2.1 (TX6 3).2.2.1 ∈ wsX6_addNodes := by decide +kernel
def rmX6_addNodes : Room := { frames := 1, cells := 0, slots := 0, locals := 23 }
def X6_addNodes_L7 (kx : Pg → Option (Pg)) (V1 : Pg) (x3 : Int) : Nat → Int → Pg → Option (Pg)
  | 0, _, _ => none
  | n + 1, y4, V0 => brLT y4 x3 (brLT y4 V1.1 (rdK 30 V1.2.1 y4 (fun v2 => rdK 30 V1.2.2.1 y4 (fun v3 => rdK 30 V1.2.2.2 y4 (fun v4 => (X6_add V0 v2 v3 v4).bind (fun w5 => X6_addNodes_L7 kx V1 x3 n (y4 + 1) w5.2))))) (kx V0)) (kx V0)
def X6_addNodes (V0 : Pg) (V1 : Pg) (p2 : Int) (p3 : Int) : Option (Pg) := mxK p2 0 (fun v1 => X6_addNodes_L7 (fun w7 => some w7) V1 p3 FU v1 V0)
set_option maxHeartbeats 4000000 in
set_option maxRecDepth 100000 in
theorem X6_addNodes_L7_ok (K : KE) (l : Launch) (a : Nat → Nat) (b : Nat → Nat) (WC : va_W) {p : Program} {e : Env} {s : State} {m : MethodId} {args : Array Value} {below : List Frame} {meth : Method} {c : Code} (X : CX p s m args c K.1 vwCl (kT K) (va_A WC s.heap.size) cX6_addNodes 5 wsX6_addNodes RX6) (hr : meth.sig.returnType = none) (hlk : meth.locks = false) (V1 : Pg) (x3 : Int) (res : Pg) {kx : Pg → Option (Pg)} : ∀ (n : Nat) (y4 : Int) (V0 : Pg), X6_addNodes_L7 kx V1 x3 n y4 V0 = some res → (∀ (V0z : Pg), kx V0z = some res → GO p l e rmX6_addNodes s m args below meth c K.1 vwCl (va_A WC s.heap.size) (MQ below (QC K.1 vwCl none WC (c6 K a res ++ (c6 K b V1)) s.heap.size) args s 0 0 (va_A WC s.heap.size)) 5 0 0 54 [] [] (c6 K a V0z ++ (c6 K b V1))) → GO p l e rmX6_addNodes s m args below meth c K.1 vwCl (va_A WC s.heap.size) (MQ below (QC K.1 vwCl none WC (c6 K a res ++ (c6 K b V1)) s.heap.size) args s 0 0 (va_A WC s.heap.size)) 5 0 0 7 [(0, .ref (a 0)), (1, .ref (b 0)), (3, ii x3), (4, ii y4)] [] (c6 K a V0 ++ (c6 K b V1)) := by
  intro n
  induction n with
  | zero =>
    intro y4 V0 hf _
    rw [X6_addNodes_L7] at hf
    cases hf
  | succ n ih =>
    intro y4 V0 hf hk
    rw [X6_addNodes_L7] at hf
    refine g_iload X dX6_addNodes_7 3 rfl ?_
    refine g_iload_n X dX6_addNodes_9 2 rfl rfl ?_
    refine g_icmp_ge X hf 54 dX6_addNodes_10 (by decide) (fun hf => ?_) (fun hf => ?_)
    · refine g_iload X dX6_addNodes_13 3 rfl ?_
      refine g_aload_n X dX6_addNodes_15 1 rfl rfl ?_
      refine g_get X (v := ii V1.1) 4 0 dX6_addNodes_16 rfl rfl iw_X6_addNodes_X6 (by decide) fl_X6_addNodes_9 rfl ?_
      refine g_icmp_ge X hf 54 dX6_addNodes_19 (by decide) (fun hf => ?_) (fun hf => ?_)
      · refine g_aload_n X dX6_addNodes_22 0 rfl rfl ?_
        refine g_aload_n X dX6_addNodes_23 1 rfl rfl ?_
        refine g_get X (v := .ref (b 1)) 4 1 dX6_addNodes_24 rfl rfl iw_X6_addNodes_X6 (by decide) fl_X6_addNodes_15 rfl ?_
        refine g_iload X dX6_addNodes_27 3 rfl ?_
        refine g_iald X hf (by decide) 5 0 dX6_addNodes_29 rfl rfl (fun v2 hf => ?_)
        refine g_aload_n X dX6_addNodes_30 1 rfl rfl ?_
        refine g_get X (v := .ref (b 2)) 4 2 dX6_addNodes_31 rfl rfl iw_X6_addNodes_X6 (by decide) fl_X6_addNodes_19 rfl ?_
        refine g_iload X dX6_addNodes_34 3 rfl ?_
        refine g_iald X hf (by decide) 6 0 dX6_addNodes_36 rfl rfl (fun v3 hf => ?_)
        refine g_aload_n X dX6_addNodes_37 1 rfl rfl ?_
        refine g_get X (v := .ref (b 3)) 4 3 dX6_addNodes_38 rfl rfl iw_X6_addNodes_X6 (by decide) fl_X6_addNodes_22 rfl ?_
        refine g_iload X dX6_addNodes_41 3 rfl ?_
        refine g_iald X hf (by decide) 7 0 dX6_addNodes_43 rfl rfl (fun v4 hf => ?_)
        obtain ⟨w5, hc6, hf⟩ := Option.bind_eq_some_iff.mp hf
        refine g_callV X (As := [ii v2, ii v3, ii v4]) (st := []) (st1 := [ii w5.1]) (ws' := c6 K a w5.2 ++ (c6 K b V1)) (X6_add_ok K l a V0 v2 v3 v4 w5 hc6) gX6_addNodes_X6_add rfl 3 (by decide +kernel) ⟨rfl, rfl⟩ ⟨Nat.le_of_ble_eq_true rfl, Nat.le_of_ble_eq_true rfl⟩ ⟨Nat.zero_le _, Nat.zero_le _⟩ 0 rfl rfl rfl rfl (Nat.le_of_ble_eq_true rfl) dX6_addNodes_44 (SG.one [] (c6 K b V1) rfl rfl rfl) rfl ?_
        refine g_pop X dX6_addNodes_47 rfl ?_
        refine g_iinc X (lv' := [(4, ii (y4 + 1)), (0, .ref (a 0)), (1, .ref (b 0)), (3, ii x3)]) dX6_addNodes_48 3 rfl (by decide) rfl ?_
        refine g_goto X 7 dX6_addNodes_51 (by decide) ?_
        refine g_sub (lv' := [(0, .ref (a 0)), (1, .ref (b 0)), (3, ii x3), (4, ii (y4 + 1))]) [1, 2, 3, 0] rfl ?_
        exact ih (y4 + 1) w5.2 hf hk
      · refine g_sub (lv' := []) [] rfl ?_
        exact hk V0 hf
    · refine g_sub (lv' := []) [] rfl ?_
      exact hk V0 hf
set_option maxHeartbeats 4000000 in
set_option maxRecDepth 100000 in
theorem X6_addNodes_go (K : KE) (l : Launch) (a : Nat → Nat) (b : Nat → Nat) (WC : va_W) {p : Program} {e : Env} {s : State} {m : MethodId} {args : Array Value} {below : List Frame} {meth : Method} {c : Code} (X : CX p s m args c K.1 vwCl (kT K) (va_A WC s.heap.size) cX6_addNodes 5 wsX6_addNodes RX6) (hr : meth.sig.returnType = none) (hlk : meth.locks = false) (V0 : Pg) (V1 : Pg) (p2 : Int) (p3 : Int) (res : Pg) (hf : X6_addNodes V0 V1 p2 p3 = some res) : GO p l e rmX6_addNodes s m args below meth c K.1 vwCl (va_A WC s.heap.size) (MQ below (QC K.1 vwCl none WC (c6 K a res ++ (c6 K b V1)) s.heap.size) args s 0 0 (va_A WC s.heap.size)) 5 0 0 0 [(0, .ref (a 0)), (1, .ref (b 0)), (2, ii p2), (3, ii p3)] [] (c6 K a V0 ++ (c6 K b V1)) := by
  rw [X6_addNodes] at hf
  refine g_iload_n X dX6_addNodes_0 2 rfl rfl ?_
  refine g_iconst X dX6_addNodes_1 ?_
  refine g_mmax X hf wd_X6_addNodes_ml25 wd_X6_addNodes_ms25 wd_X6_addNodes_mi25 wd_X6_addNodes_mc25 ⟨Nat.le_of_ble_eq_true rfl, Nat.le_of_ble_eq_true rfl, Nat.zero_le _, Nat.zero_le _⟩ dX6_addNodes_2 (fun v1 hf => ?_)
  refine g_istore X (lv' := [(4, ii v1), (0, .ref (a 0)), (1, .ref (b 0)), (2, ii p2), (3, ii p3)]) dX6_addNodes_5 (by decide) rfl ?_
  refine g_sub (lv' := [(0, .ref (a 0)), (1, .ref (b 0)), (3, ii p3), (4, ii v1)]) [1, 2, 4, 0] rfl ?_
  refine X6_addNodes_L7_ok K l a b WC X hr hlk V1 p3 res FU v1 V0 hf (fun w7 hf => ?_)
  cases hf
  exact g_vret X hr hlk dX6_addNodes_54
set_option maxHeartbeats 4000000 in
set_option maxRecDepth 100000 in
theorem X6_addNodes_ok (K : KE) (l : Launch) (a : Nat → Nat) (b : Nat → Nat) (V0 : Pg) (V1 : Pg) (p2 : Int) (p3 : Int) (res : Pg) (hf : X6_addNodes V0 V1 p2 p3 = some res) : CT l K.1 vwCl (kT K) yX6_addNodes wsX6_addNodes rmX6_addNodes [.ref (a 0), .ref (b 0), ii p2, ii p3] none (c6 K a V0 ++ (c6 K b V1)) (c6 K a res ++ (c6 K b V1)) :=
  CT.mk (cc := cX6_addNodes) (maxL := 5) (ret := none) (by decide) rfl (Nat.le_of_ble_eq_true rfl) (fun p e s m below meth c X hr hlk => X6_addNodes_go K l a b _ X hr hlk V0 V1 p2 p3 res hf)
