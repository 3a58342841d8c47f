theorem iw_X6_copyFrom_X6 : ∀ w ∈ u_ws RX6 TX6 4, w ∈ wsX6_copyFrom := by decide +kernel
theorem fl_X6_copyFrom_9 : Cond.fieldLink RX6 9 (TX6 0).1 (TX6 0).2.1 (TX6 0).2.2.1 ∈ wsX6_copyFrom := by decide +kernel
def rmX6_copyFrom : Room := { frames := 2, cells := 0, slots := 0, locals := 47 }
def X6_copyFrom (V0 : Pg) (V1 : Pg) : Option (Pg) := (X6_addNodes (0, V0.2.1, V0.2.2.1, V0.2.2.2) V1 0 V1.1).bind (fun v1 => some v1)
set_option maxHeartbeats 4000000 in
set_option maxRecDepth 100000 in
theorem X6_copyFrom_go (K : KE) (l : Launch) (a : Nat → Nat) (b : Nat → Nat) (WC : va_W) {p : Program} {e : Env} {s : State} {m : MethodId} {args : Array Value} {below : List Frame} {meth : Method} {c : Code} (X : CX p s m args c K.1 vwCl (kT K) (va_A WC s.heap.size) cX6_copyFrom 2 wsX6_copyFrom RX6) (hr : meth.sig.returnType = none) (hlk : meth.locks = false) (V0 : Pg) (V1 : Pg) (res : Pg) (hf : X6_copyFrom V0 V1 = some res) : GO p l e rmX6_copyFrom s m args below meth c K.1 vwCl (va_A WC s.heap.size) (MQ below (QC K.1 vwCl none WC (c6 K a res ++ (c6 K b V1)) s.heap.size) args s 0 0 (va_A WC s.heap.size)) 2 0 0 0 [(0, .ref (a 0)), (1, .ref (b 0))] [] (c6 K a V0 ++ (c6 K b V1)) := by
  rw [X6_copyFrom] at hf
  refine g_aload_n X dX6_copyFrom_0 0 rfl rfl ?_
  refine g_iconst X dX6_copyFrom_1 ?_
  refine g_puti X 0 0 dX6_copyFrom_2 rfl rfl iw_X6_copyFrom_X6 tyX6_ok nmX6 (by decide) fl_X6_copyFrom_9 rfl rfl (Nat.le_of_ble_eq_true rfl) (ws' := c6 K a (0, V0.2.1, V0.2.2.1, V0.2.2.2) ++ (c6 K b V1)) rfl ?_
  refine g_aload_n X dX6_copyFrom_5 0 rfl rfl ?_
  refine g_aload_n X dX6_copyFrom_6 1 rfl rfl ?_
  refine g_iconst X dX6_copyFrom_7 ?_
  refine g_aload_n X dX6_copyFrom_8 1 rfl rfl ?_
  refine g_get X (v := ii V1.1) 4 0 dX6_copyFrom_9 rfl rfl iw_X6_copyFrom_X6 (by decide) fl_X6_copyFrom_9 rfl ?_
  obtain ⟨v1, hc2, hf⟩ := Option.bind_eq_some_iff.mp hf
  refine g_callV X (As := [.ref (b 0), ii 0, ii V1.1]) (st := []) (st1 := []) (ws' := c6 K a v1 ++ (c6 K b V1)) (X6_addNodes_ok K l a b (0, V0.2.1, V0.2.2.1, V0.2.2.2) V1 0 V1.1 v1 hc2) gX6_copyFrom_X6_addNodes rfl 3 (by decide +kernel) ⟨rfl, rfl⟩ ⟨Nat.le_of_ble_eq_true rfl, Nat.le_of_ble_eq_true rfl⟩ ⟨Nat.zero_le _, Nat.zero_le _⟩ 0 rfl rfl rfl rfl (Nat.le_of_ble_eq_true rfl) dX6_copyFrom_12 (SG.all rfl) rfl ?_
  cases hf
  exact g_vret X hr hlk dX6_copyFrom_15
set_option maxHeartbeats 4000000 in
set_option maxRecDepth 100000 in
theorem X6_copyFrom_ok (K : KE) (l : Launch) (a : Nat → Nat) (b : Nat → Nat) (V0 : Pg) (V1 : Pg) (res : Pg) (hf : X6_copyFrom V0 V1 = some res) : CT l K.1 vwCl (kT K) yX6_copyFrom wsX6_copyFrom rmX6_copyFrom [.ref (a 0), .ref (b 0)] none (c6 K a V0 ++ (c6 K b V1)) (c6 K a res ++ (c6 K b V1)) :=
  CT.mk (cc := cX6_copyFrom) (maxL := 2) (ret := none) (by decide) rfl (Nat.le_of_ble_eq_true rfl) (fun p e s m below meth c X hr hlk => X6_copyFrom_go K l a b _ X hr hlk V0 V1 res hf)
def rmX7_firstLetterOf : Room := { frames := 0, cells := 0, slots := 0, locals := 0 }
def X7_firstLetterOf (p0 : Int) : Option (Int) := brEQ p0 2 (some 97) (brEQ p0 3 (some 65) (some 112))
set_option maxHeartbeats 4000000 in
set_option maxRecDepth 100000 in
theorem X7_firstLetterOf_go (K : KE) (l : Launch) (WC : va_W) {p : Program} {e : Env} {s : State} {m : MethodId} {args : Array Value} {below : List Frame} {meth : Method} {c : Code} (X : CX p s m args c K.1 vwCl (kT K) (va_A WC s.heap.size) cX7_firstLetterOf 1 wsX7_firstLetterOf RX7) (hr : meth.sig.returnType = (some .int)) (hlk : meth.locks = false) (p0 : Int) (res : Int) (hf : X7_firstLetterOf p0 = some res) : GO p l e rmX7_firstLetterOf s m args below meth c K.1 vwCl (va_A WC s.heap.size) (MQ below (QC K.1 vwCl (some (ii res)) WC ([]) s.heap.size) args s 0 0 (va_A WC s.heap.size)) 1 0 0 0 [(0, ii p0)] [] ([]) := by
  rw [X7_firstLetterOf] at hf
  refine g_iload_n X dX7_firstLetterOf_0 0 rfl rfl ?_
  refine g_iconst X dX7_firstLetterOf_1 ?_
  refine g_icmp_ne X hf 8 dX7_firstLetterOf_2 (by decide) (fun hf => ?_) (fun hf => ?_)
  · refine g_bipush X dX7_firstLetterOf_5 (by decide +kernel) ?_
    cases hf
    exact g_iret X hr hlk dX7_firstLetterOf_7
  · refine g_iload_n X dX7_firstLetterOf_8 0 rfl rfl ?_
    refine g_iconst X dX7_firstLetterOf_9 ?_
    refine g_icmp_ne X hf 18 dX7_firstLetterOf_10 (by decide) (fun hf => ?_) (fun hf => ?_)
    · refine g_bipush X dX7_firstLetterOf_13 (by decide +kernel) ?_
      refine g_goto X 20 dX7_firstLetterOf_15 (by decide) ?_
      cases hf
      exact g_iret X hr hlk dX7_firstLetterOf_20
    · refine g_bipush X dX7_firstLetterOf_18 (by decide +kernel) ?_
      cases hf
      exact g_iret X hr hlk dX7_firstLetterOf_20
set_option maxHeartbeats 4000000 in
set_option maxRecDepth 100000 in
theorem X7_firstLetterOf_ok (K : KE) (l : Launch) (p0 : Int) (res : Int) (hf : X7_firstLetterOf p0 = some res) : CT l K.1 vwCl (kT K) yX7_firstLetterOf wsX7_firstLetterOf rmX7_firstLetterOf [ii p0] (some (ii res)) ([]) ([]) :=
  CT.mk (cc := cX7_firstLetterOf) (maxL := 1) (ret := (some .int)) (by decide) rfl (Nat.le_of_ble_eq_true rfl) (fun p e s m below meth c X hr hlk => X7_firstLetterOf_go K l  _ X hr hlk p0 res hf)
theorem iw_X7_put_X7 : ∀ w ∈ u_ws RX7 TX7 4, w ∈ wsX7_put := by decide +kernel
theorem fl_X7_put_15 : Cond.fieldLink RX7 15 (TX7 1).1 (TX7 1).2.1 (TX7 1).2.2.1 ∈ wsX7_put := by decide +kernel
theorem fl_X7_put_11 : Cond.fieldLink RX7 11 (TX7 0).1 (TX7 0).2.1 (TX7 0).2.2.1 ∈ wsX7_put := by decide +kernel
def rmX7_put : Room := { frames := 0, cells := 0, slots := 0, locals := 0 }
def X7_put (V0 : Tx) (p1 : Int) : Option (Tx) := brLT V0.2.1 120 (wrK 120 V0.1 V0.2.1 p1 (fun f1 => some (f1, (V0.2.1 + 1), V0.2.2.1, V0.2.2.2))) (some V0)
set_option maxHeartbeats 4000000 in
set_option maxRecDepth 100000 in
theorem X7_put_go (K : KE) (l : Launch) (a : Nat → Nat) (WC : va_W) {p : Program} {e : Env} {s : State} {m : MethodId} {args : Array Value} {below : List Frame} {meth : Method} {c : Code} (X : CX p s m args c K.1 vwCl (kT K) (va_A WC s.heap.size) cX7_put 2 wsX7_put RX7) (hr : meth.sig.returnType = none) (hlk : meth.locks = false) (V0 : Tx) (p1 : Int) (res : Tx) (hf : X7_put V0 p1 = some res) : GO p l e rmX7_put s m args below meth c K.1 vwCl (va_A WC s.heap.size) (MQ below (QC K.1 vwCl none WC (c7 K a res) s.heap.size) args s 0 0 (va_A WC s.heap.size)) 2 0 0 0 [(0, .ref (a 0)), (1, ii p1)] [] (c7 K a V0) := by
  rw [X7_put] at hf
  refine g_aload_n X dX7_put_0 0 rfl rfl ?_
  refine g_get X (v := ii V0.2.1) 0 1 dX7_put_1 rfl rfl iw_X7_put_X7 (by decide) fl_X7_put_15 rfl ?_
  refine g_bipush X dX7_put_4 (by decide +kernel) ?_
  refine g_icmp_ge X hf 29 dX7_put_6 (by decide) (fun hf => ?_) (fun hf => ?_)
  · refine g_aload_n X dX7_put_9 0 rfl rfl ?_
    refine g_get X (v := .ref (a 1)) 0 0 dX7_put_10 rfl rfl iw_X7_put_X7 (by decide) fl_X7_put_11 rfl ?_
    refine g_aload_n X dX7_put_13 0 rfl rfl ?_
    refine g_get X (v := ii V0.2.1) 0 1 dX7_put_14 rfl rfl iw_X7_put_X7 (by decide) fl_X7_put_15 rfl ?_
    refine g_iload_n X dX7_put_17 1 rfl rfl ?_
    refine g_iast X hf (by decide) 1 0 dX7_put_18 rfl rfl (fun f1 => c7 K a (f1, V0.2.1, V0.2.2.1, V0.2.2.2)) (fun _ => rfl) (fun f1 hf => ?_)
    refine g_aload_n X dX7_put_19 0 rfl rfl ?_
    refine g_dup X dX7_put_20 rfl ?_
    refine g_get X (v := ii V0.2.1) 0 1 dX7_put_21 rfl rfl iw_X7_put_X7 (by decide) fl_X7_put_15 rfl ?_
    refine g_iconst X dX7_put_24 ?_
    refine g_iadd X dX7_put_25 ?_
    refine g_puti X 0 1 dX7_put_26 rfl rfl iw_X7_put_X7 tyX7_ok nmX7 (by decide) fl_X7_put_15 rfl rfl (Nat.le_of_ble_eq_true rfl) (ws' := c7 K a (f1, (V0.2.1 + 1), V0.2.2.1, V0.2.2.2)) rfl ?_
    cases hf
    exact g_vret X hr hlk dX7_put_29
  · cases hf
    exact g_vret X hr hlk dX7_put_29
set_option maxHeartbeats 4000000 in
set_option maxRecDepth 100000 in
theorem X7_put_ok (K : KE) (l : Launch) (a : Nat → Nat) (V0 : Tx) (p1 : Int) (res : Tx) (hf : X7_put V0 p1 = some res) : CT l K.1 vwCl (kT K) yX7_put wsX7_put rmX7_put [.ref (a 0), ii p1] none (c7 K a V0) (c7 K a res) :=
  CT.mk (cc := cX7_put) (maxL := 2) (ret := none) (by decide) rfl (Nat.le_of_ble_eq_true rfl) (fun p e s m below meth c X hr hlk => X7_put_go K l a _ X hr hlk V0 p1 res hf)
theorem iw_X7_finishArgument_X7 : ∀ w ∈ u_ws RX7 TX7 4, w ∈ wsX7_finishArgument := by decide +kernel
theorem fl_X7_finishArgument_22 : Cond.fieldLink RX7 22 (TX7 3).1 (TX7 3).2.1 (TX7 3).2.2.1 ∈ wsX7_finishArgument := by decide +kernel
theorem fl_X7_finishArgument_19 : Cond.fieldLink RX7 19 (TX7 2).1 (TX7 2).2.1 (TX7 2).2.2.1 ∈ wsX7_finishArgument := by decide +kernel
def rmX7_finishArgument : Room := { frames := 1, cells := 0, slots := 0, locals := 21 }
def X7_finishArgument_L0 (kx : Tx → Option (Tx))  : Nat → Tx → Option (Tx)
  | 0, _ => none
  | n + 1, V0 => brLE V0.2.2.2 0 (some V0) (rdK 30 V0.2.2.1 (V0.2.2.2 - 1) (fun v1 => wrK 30 V0.2.2.1 (V0.2.2.2 - 1) (v1 - 1) (fun f2 => rdK 30 f2 (V0.2.2.2 - 1) (fun v3 => brLE v3 0 ((X7_put (V0.1, V0.2.1, f2, V0.2.2.2) 41).bind (fun v4 => X7_finishArgument_L0 kx n (v4.1, v4.2.1, v4.2.2.1, (v4.2.2.2 - 1)))) (kx (V0.1, V0.2.1, f2, V0.2.2.2))))))
def X7_finishArgument (V0 : Tx) : Option (Tx) := X7_finishArgument_L0 (fun w6 => (X7_put w6 44).bind (fun v7 => some v7)) FU V0
set_option maxHeartbeats 4000000 in
set_option maxRecDepth 100000 in
theorem X7_finishArgument_L0_ok (K : KE) (l : Launch) (a : Nat → Nat) (WC : va_W) {p : Program} {e : Env} {s : State} {m : MethodId} {args : Array Value} {below : List Frame} {meth : Method} {c : Code} (X : CX p s m args c K.1 vwCl (kT K) (va_A WC s.heap.size) cX7_finishArgument 1 wsX7_finishArgument RX7) (hr : meth.sig.returnType = none) (hlk : meth.locks = false)   (res : Tx) {kx : Tx → Option (Tx)} : ∀ (n : Nat) (V0 : Tx), X7_finishArgument_L0 kx  n V0 = some res → (∀ (V0z : Tx), kx V0z = some res → GO p l e rmX7_finishArgument s m args below meth c K.1 vwCl (va_A WC s.heap.size) (MQ below (QC K.1 vwCl none WC (c7 K a res) s.heap.size) args s 0 0 (va_A WC s.heap.size)) 1 0 0 36 [(0, .ref (a 0))] [] (c7 K a V0z)) → GO p l e rmX7_finishArgument s m args below meth c K.1 vwCl (va_A WC s.heap.size) (MQ below (QC K.1 vwCl none WC (c7 K a res) s.heap.size) args s 0 0 (va_A WC s.heap.size)) 1 0 0 0 [(0, .ref (a 0))] [] (c7 K a V0) := by
  intro n
  induction n with
  | zero =>
    intro V0 hf _
    rw [X7_finishArgument_L0] at hf
    cases hf
  | succ n ih =>
    intro V0 hf hk
    rw [X7_finishArgument_L0] at hf
    refine g_aload_n X dX7_finishArgument_0 0 rfl rfl ?_
    refine g_get X (v := ii V0.2.2.2) 0 3 dX7_finishArgument_1 rfl rfl iw_X7_finishArgument_X7 (by decide) fl_X7_finishArgument_22 rfl ?_
    refine g_if_le X hf 62 dX7_finishArgument_4 (by decide) (fun hf => ?_) (fun hf => ?_)
    · cases hf
      exact g_vret X hr hlk dX7_finishArgument_62
    · refine g_aload_n X dX7_finishArgument_7 0 rfl rfl ?_
      refine g_get X (v := .ref (a 2)) 0 2 dX7_finishArgument_8 rfl rfl iw_X7_finishArgument_X7 (by decide) fl_X7_finishArgument_19 rfl ?_
      refine g_aload_n X dX7_finishArgument_11 0 rfl rfl ?_
      refine g_get X (v := ii V0.2.2.2) 0 3 dX7_finishArgument_12 rfl rfl iw_X7_finishArgument_X7 (by decide) fl_X7_finishArgument_22 rfl ?_
      refine g_iconst X dX7_finishArgument_15 ?_
      refine g_isub X dX7_finishArgument_16 ?_
      refine g_dup2 X dX7_finishArgument_17 rfl rfl ?_
      refine g_iald X hf (by decide) 2 0 dX7_finishArgument_18 rfl rfl (fun v1 hf => ?_)
      refine g_iconst X dX7_finishArgument_19 ?_
      refine g_isub X dX7_finishArgument_20 ?_
      refine g_iast X hf (by decide) 2 0 dX7_finishArgument_21 rfl rfl (fun f2 => c7 K a (V0.1, V0.2.1, f2, V0.2.2.2)) (fun _ => rfl) (fun f2 hf => ?_)
      refine g_aload_n X dX7_finishArgument_22 0 rfl rfl ?_
      refine g_get X (v := .ref (a 2)) 0 2 dX7_finishArgument_23 rfl rfl iw_X7_finishArgument_X7 (by decide) fl_X7_finishArgument_19 rfl ?_
      refine g_aload_n X dX7_finishArgument_26 0 rfl rfl ?_
      refine g_get X (v := ii V0.2.2.2) 0 3 dX7_finishArgument_27 rfl rfl iw_X7_finishArgument_X7 (by decide) fl_X7_finishArgument_22 rfl ?_
      refine g_iconst X dX7_finishArgument_30 ?_
      refine g_isub X dX7_finishArgument_31 ?_
      refine g_iald X hf (by decide) 2 0 dX7_finishArgument_32 rfl rfl (fun v3 hf => ?_)
      refine g_if_le X hf 43 dX7_finishArgument_33 (by decide) (fun hf => ?_) (fun hf => ?_)
      · refine g_aload_n X dX7_finishArgument_43 0 rfl rfl ?_
        refine g_bipush X dX7_finishArgument_44 (by decide +kernel) ?_
        obtain ⟨v4, hc5, hf⟩ := Option.bind_eq_some_iff.mp hf
        refine g_callV X (As := [ii 41]) (st := []) (st1 := []) (ws' := c7 K a v4) (X7_put_ok K l a (V0.1, V0.2.1, f2, V0.2.2.2) 41 v4 hc5) gX7_finishArgument_X7_put rfl 1 (by decide +kernel) ⟨rfl, rfl⟩ ⟨Nat.le_of_ble_eq_true rfl, Nat.le_of_ble_eq_true rfl⟩ ⟨Nat.zero_le _, Nat.zero_le _⟩ 0 rfl rfl rfl rfl (Nat.le_of_ble_eq_true rfl) dX7_finishArgument_46 (SG.all rfl) rfl ?_
        refine g_aload_n X dX7_finishArgument_49 0 rfl rfl ?_
        refine g_dup X dX7_finishArgument_50 rfl ?_
        refine g_get X (v := ii v4.2.2.2) 0 3 dX7_finishArgument_51 rfl rfl iw_X7_finishArgument_X7 (by decide) fl_X7_finishArgument_22 rfl ?_
        refine g_iconst X dX7_finishArgument_54 ?_
        refine g_isub X dX7_finishArgument_55 ?_
        refine g_puti X 0 3 dX7_finishArgument_56 rfl rfl iw_X7_finishArgument_X7 tyX7_ok nmX7 (by decide) fl_X7_finishArgument_22 rfl rfl (Nat.le_of_ble_eq_true rfl) (ws' := c7 K a (v4.1, v4.2.1, v4.2.2.1, (v4.2.2.2 - 1))) rfl ?_
        refine g_goto X 0 dX7_finishArgument_59 (by decide) ?_
        exact ih (v4.1, v4.2.1, v4.2.2.1, (v4.2.2.2 - 1)) hf hk
      · exact hk (V0.1, V0.2.1, f2, V0.2.2.2) hf
set_option maxHeartbeats 4000000 in
set_option maxRecDepth 100000 in
theorem X7_finishArgument_go (K : KE) (l : Launch) (a : Nat → Nat) (WC : va_W) {p : Program} {e : Env} {s : State} {m : MethodId} {args : Array Value} {below : List Frame} {meth : Method} {c : Code} (X : CX p s m args c K.1 vwCl (kT K) (va_A WC s.heap.size) cX7_finishArgument 1 wsX7_finishArgument RX7) (hr : meth.sig.returnType = none) (hlk : meth.locks = false) (V0 : Tx) (res : Tx) (hf : X7_finishArgument V0 = some res) : GO p l e rmX7_finishArgument s m args below meth c K.1 vwCl (va_A WC s.heap.size) (MQ below (QC K.1 vwCl none WC (c7 K a res) s.heap.size) args s 0 0 (va_A WC s.heap.size)) 1 0 0 0 [(0, .ref (a 0))] [] (c7 K a V0) := by
  rw [X7_finishArgument] at hf
  refine X7_finishArgument_L0_ok K l a WC X hr hlk res FU V0 hf (fun w6 hf => ?_)
  refine g_aload_n X dX7_finishArgument_36 0 rfl rfl ?_
  refine g_bipush X dX7_finishArgument_37 (by decide +kernel) ?_
  obtain ⟨v7, hc8, hf⟩ := Option.bind_eq_some_iff.mp hf
  refine g_callV X (As := [ii 44]) (st := []) (st1 := []) (ws' := c7 K a v7) (X7_put_ok K l a w6 44 v7 hc8) gX7_finishArgument_X7_put rfl 1 (by decide +kernel) ⟨rfl, rfl⟩ ⟨Nat.le_of_ble_eq_true rfl, Nat.le_of_ble_eq_true rfl⟩ ⟨Nat.zero_le _, Nat.zero_le _⟩ 0 rfl rfl rfl rfl (Nat.le_of_ble_eq_true rfl) dX7_finishArgument_39 (SG.all rfl) rfl ?_
  cases hf
  exact g_vret X hr hlk dX7_finishArgument_42
set_option maxHeartbeats 4000000 in
set_option maxRecDepth 100000 in
theorem X7_finishArgument_ok (K : KE) (l : Launch) (a : Nat → Nat) (V0 : Tx) (res : Tx) (hf : X7_finishArgument V0 = some res) : CT l K.1 vwCl (kT K) yX7_finishArgument wsX7_finishArgument rmX7_finishArgument [.ref (a 0)] none (c7 K a V0) (c7 K a res) :=
  CT.mk (cc := cX7_finishArgument) (maxL := 1) (ret := none) (by decide) rfl (Nat.le_of_ble_eq_true rfl) (fun p e s m below meth c X hr hlk => X7_finishArgument_go K l a _ X hr hlk V0 res hf)
theorem iw_X7_openCall_X7 : ∀ w ∈ u_ws RX7 TX7 4, w ∈ wsX7_openCall := by decide +kernel
theorem fl_X7_openCall_22 : Cond.fieldLink RX7 22 (TX7 3).1 (TX7 3).2.1 (TX7 3).2.2.1 ∈ wsX7_openCall := by decide +kernel
theorem fl_X7_openCall_19 : Cond.fieldLink RX7 19 (TX7 2).1 (TX7 2).2.1 (TX7 2).2.2.1 ∈ wsX7_openCall := by decide +kernel
def rmX7_openCall : Room := { frames := 2, cells := 0, slots := 0, locals := 41 }
def X7_openCall (V0 : Tx) (p1 : Int) (p2 : Int) (p3 : Int) : Option (Tx) := (X7_firstLetterOf p1).bind (fun v1 => (X7_put V0 (v1 + p2)).bind (fun v3 => (X7_put v3 40).bind (fun v5 => brEQ p3 0 ((X7_put v5 41).bind (fun v7 => (X7_finishArgument v7).bind (fun v9 => some v9))) (brLT v5.2.2.2 30 (wrK 30 v5.2.2.1 v5.2.2.2 p3 (fun f11 => some (v5.1, v5.2.1, f11, (v5.2.2.2 + 1)))) (some v5)))))
set_option maxHeartbeats 4000000 in
set_option maxRecDepth 100000 in
theorem X7_openCall_go (K : KE) (l : Launch) (a : Nat → Nat) (WC : va_W) {p : Program} {e : Env} {s : State} {m : MethodId} {args : Array Value} {below : List Frame} {meth : Method} {c : Code} (X : CX p s m args c K.1 vwCl (kT K) (va_A WC s.heap.size) cX7_openCall 4 wsX7_openCall RX7) (hr : meth.sig.returnType = none) (hlk : meth.locks = false) (V0 : Tx) (p1 : Int) (p2 : Int) (p3 : Int) (res : Tx) (hf : X7_openCall V0 p1 p2 p3 = some res) : GO p l e rmX7_openCall s m args below meth c K.1 vwCl (va_A WC s.heap.size) (MQ below (QC K.1 vwCl none WC (c7 K a res) s.heap.size) args s 0 0 (va_A WC s.heap.size)) 4 0 0 0 [(0, .ref (a 0)), (1, ii p1), (2, ii p2), (3, ii p3)] [] (c7 K a V0) := by
  rw [X7_openCall] at hf
  refine g_aload_n X dX7_openCall_0 0 rfl rfl ?_
  refine g_iload_n X dX7_openCall_1 1 rfl rfl ?_
  obtain ⟨v1, hc2, hf⟩ := Option.bind_eq_some_iff.mp hf
  refine g_callS X (As := [ii p1]) (st := [.ref (a 0)]) (st1 := [ii v1, .ref (a 0)]) (ws' := c7 K a V0) (X7_firstLetterOf_ok K l p1 v1 hc2) gX7_openCall_X7_firstLetterOf rfl 1 (by decide +kernel) ⟨rfl, rfl⟩ ⟨Nat.le_of_ble_eq_true rfl, Nat.le_of_ble_eq_true rfl⟩ ⟨Nat.zero_le _, Nat.zero_le _⟩ rfl rfl (Nat.le_of_ble_eq_true rfl) dX7_openCall_2 SG.none rfl ?_
  refine g_iload_n X dX7_openCall_5 2 rfl rfl ?_
  refine g_iadd X dX7_openCall_6 ?_
  obtain ⟨v3, hc4, hf⟩ := Option.bind_eq_some_iff.mp hf
  refine g_callV X (As := [ii (v1 + p2)]) (st := []) (st1 := []) (ws' := c7 K a v3) (X7_put_ok K l a V0 (v1 + p2) v3 hc4) gX7_openCall_X7_put rfl 1 (by decide +kernel) ⟨rfl, rfl⟩ ⟨Nat.le_of_ble_eq_true rfl, Nat.le_of_ble_eq_true rfl⟩ ⟨Nat.zero_le _, Nat.zero_le _⟩ 0 rfl rfl rfl rfl (Nat.le_of_ble_eq_true rfl) dX7_openCall_7 (SG.all rfl) rfl ?_
  refine g_aload_n X dX7_openCall_10 0 rfl rfl ?_
  refine g_bipush X dX7_openCall_11 (by decide +kernel) ?_
  obtain ⟨v5, hc6, hf⟩ := Option.bind_eq_some_iff.mp hf
  refine g_callV X (As := [ii 40]) (st := []) (st1 := []) (ws' := c7 K a v5) (X7_put_ok K l a v3 40 v5 hc6) gX7_openCall_X7_put rfl 1 (by decide +kernel) ⟨rfl, rfl⟩ ⟨Nat.le_of_ble_eq_true rfl, Nat.le_of_ble_eq_true rfl⟩ ⟨Nat.zero_le _, Nat.zero_le _⟩ 0 rfl rfl rfl rfl (Nat.le_of_ble_eq_true rfl) dX7_openCall_13 (SG.all rfl) rfl ?_
  refine g_iload_n X dX7_openCall_16 3 rfl rfl ?_
  refine g_if_ne X hf 33 dX7_openCall_17 (by decide) (fun hf => ?_) (fun hf => ?_)
  · refine g_aload_n X dX7_openCall_20 0 rfl rfl ?_
    refine g_bipush X dX7_openCall_21 (by decide +kernel) ?_
    obtain ⟨v7, hc8, hf⟩ := Option.bind_eq_some_iff.mp hf
    refine g_callV X (As := [ii 41]) (st := []) (st1 := []) (ws' := c7 K a v7) (X7_put_ok K l a v5 41 v7 hc8) gX7_openCall_X7_put rfl 1 (by decide +kernel) ⟨rfl, rfl⟩ ⟨Nat.le_of_ble_eq_true rfl, Nat.le_of_ble_eq_true rfl⟩ ⟨Nat.zero_le _, Nat.zero_le _⟩ 0 rfl rfl rfl rfl (Nat.le_of_ble_eq_true rfl) dX7_openCall_23 (SG.all rfl) rfl ?_
    refine g_aload_n X dX7_openCall_26 0 rfl rfl ?_
    obtain ⟨v9, hc10, hf⟩ := Option.bind_eq_some_iff.mp hf
    refine g_callV X (As := []) (st := []) (st1 := []) (ws' := c7 K a v9) (X7_finishArgument_ok K l a v7 v9 hc10) gX7_openCall_X7_finishArgument rfl 0 (by decide +kernel) ⟨rfl, rfl⟩ ⟨Nat.le_of_ble_eq_true rfl, Nat.le_of_ble_eq_true rfl⟩ ⟨Nat.zero_le _, Nat.zero_le _⟩ 0 rfl rfl rfl rfl (Nat.le_of_ble_eq_true rfl) dX7_openCall_27 (SG.all rfl) rfl ?_
    refine g_goto X 62 dX7_openCall_30 (by decide) ?_
    cases hf
    exact g_vret X hr hlk dX7_openCall_62
  · refine g_aload_n X dX7_openCall_33 0 rfl rfl ?_
    refine g_get X (v := ii v5.2.2.2) 0 3 dX7_openCall_34 rfl rfl iw_X7_openCall_X7 (by decide) fl_X7_openCall_22 rfl ?_
    refine g_bipush X dX7_openCall_37 (by decide +kernel) ?_
    refine g_icmp_ge X hf 62 dX7_openCall_39 (by decide) (fun hf => ?_) (fun hf => ?_)
    · refine g_aload_n X dX7_openCall_42 0 rfl rfl ?_
      refine g_get X (v := .ref (a 2)) 0 2 dX7_openCall_43 rfl rfl iw_X7_openCall_X7 (by decide) fl_X7_openCall_19 rfl ?_
      refine g_aload_n X dX7_openCall_46 0 rfl rfl ?_
      refine g_get X (v := ii v5.2.2.2) 0 3 dX7_openCall_47 rfl rfl iw_X7_openCall_X7 (by decide) fl_X7_openCall_22 rfl ?_
      refine g_iload_n X dX7_openCall_50 3 rfl rfl ?_
      refine g_iast X hf (by decide) 2 0 dX7_openCall_51 rfl rfl (fun f11 => c7 K a (v5.1, v5.2.1, f11, v5.2.2.2)) (fun _ => rfl) (fun f11 hf => ?_)
      refine g_aload_n X dX7_openCall_52 0 rfl rfl ?_
      refine g_dup X dX7_openCall_53 rfl ?_
      refine g_get X (v := ii v5.2.2.2) 0 3 dX7_openCall_54 rfl rfl iw_X7_openCall_X7 (by decide) fl_X7_openCall_22 rfl ?_
      refine g_iconst X dX7_openCall_57 ?_
      refine g_iadd X dX7_openCall_58 ?_
      refine g_puti X 0 3 dX7_openCall_59 rfl rfl iw_X7_openCall_X7 tyX7_ok nmX7 (by decide) fl_X7_openCall_22 rfl rfl (Nat.le_of_ble_eq_true rfl) (ws' := c7 K a (v5.1, v5.2.1, f11, (v5.2.2.2 + 1))) rfl ?_
      cases hf
      exact g_vret X hr hlk dX7_openCall_62
    · cases hf
      exact g_vret X hr hlk dX7_openCall_62
set_option maxHeartbeats 4000000 in
set_option maxRecDepth 100000 in
theorem X7_openCall_ok (K : KE) (l : Launch) (a : Nat → Nat) (V0 : Tx) (p1 : Int) (p2 : Int) (p3 : Int) (res : Tx) (hf : X7_openCall V0 p1 p2 p3 = some res) : CT l K.1 vwCl (kT K) yX7_openCall wsX7_openCall rmX7_openCall [.ref (a 0), ii p1, ii p2, ii p3] none (c7 K a V0) (c7 K a res) :=
  CT.mk (cc := cX7_openCall) (maxL := 4) (ret := none) (by decide) rfl (Nat.le_of_ble_eq_true rfl) (fun p e s m below meth c X hr hlk => X7_openCall_go K l a _ X hr hlk V0 p1 p2 p3 res hf)
def rmX7_writeLeaf : Room := { frames := 1, cells := 0, slots := 0, locals := 21 }
def X7_writeLeaf (V0 : Tx) (p1 : Int) (p2 : Int) : Option (Tx) := brEQ p1 1 ((X7_put V0 (120 + p2)).bind (fun v1 => some v1)) (brLT p2 10 (rmK p2 10 (fun v3 => (X7_put V0 (48 + v3)).bind (fun v4 => some v4))) (dvK p2 10 (fun v6 => (X7_put V0 (48 + v6)).bind (fun v7 => rmK p2 10 (fun v9 => (X7_put v7 (48 + v9)).bind (fun v10 => some v10))))))
set_option maxHeartbeats 4000000 in
set_option maxRecDepth 100000 in
theorem X7_writeLeaf_go (K : KE) (l : Launch) (a : Nat → Nat) (WC : va_W) {p : Program} {e : Env} {s : State} {m : MethodId} {args : Array Value} {below : List Frame} {meth : Method} {c : Code} (X : CX p s m args c K.1 vwCl (kT K) (va_A WC s.heap.size) cX7_writeLeaf 3 wsX7_writeLeaf RX7) (hr : meth.sig.returnType = none) (hlk : meth.locks = false) (V0 : Tx) (p1 : Int) (p2 : Int) (res : Tx) (hf : X7_writeLeaf V0 p1 p2 = some res) : GO p l e rmX7_writeLeaf s m args below meth c K.1 vwCl (va_A WC s.heap.size) (MQ below (QC K.1 vwCl none WC (c7 K a res) s.heap.size) args s 0 0 (va_A WC s.heap.size)) 3 0 0 0 [(0, .ref (a 0)), (1, ii p1), (2, ii p2)] [] (c7 K a V0) := by
  rw [X7_writeLeaf] at hf
  refine g_iload_n X dX7_writeLeaf_0 1 rfl rfl ?_
  refine g_iconst X dX7_writeLeaf_1 ?_
  refine g_icmp_ne X hf 14 dX7_writeLeaf_2 (by decide) (fun hf => ?_) (fun hf => ?_)
  · refine g_aload_n X dX7_writeLeaf_5 0 rfl rfl ?_
    refine g_bipush X dX7_writeLeaf_6 (by decide +kernel) ?_
    refine g_iload_n X dX7_writeLeaf_8 2 rfl rfl ?_
    refine g_iadd X dX7_writeLeaf_9 ?_
    obtain ⟨v1, hc2, hf⟩ := Option.bind_eq_some_iff.mp hf
    refine g_callV X (As := [ii (120 + p2)]) (st := []) (st1 := []) (ws' := c7 K a v1) (X7_put_ok K l a V0 (120 + p2) v1 hc2) gX7_writeLeaf_X7_put rfl 1 (by decide +kernel) ⟨rfl, rfl⟩ ⟨Nat.le_of_ble_eq_true rfl, Nat.le_of_ble_eq_true rfl⟩ ⟨Nat.zero_le _, Nat.zero_le _⟩ 0 rfl rfl rfl rfl (Nat.le_of_ble_eq_true rfl) dX7_writeLeaf_10 (SG.all rfl) rfl ?_
    cases hf
    exact g_vret X hr hlk dX7_writeLeaf_13
  · refine g_iload_n X dX7_writeLeaf_14 2 rfl rfl ?_
    refine g_bipush X dX7_writeLeaf_15 (by decide +kernel) ?_
    refine g_icmp_lt X hf 31 dX7_writeLeaf_17 (by decide) (fun hf => ?_) (fun hf => ?_)
    · refine g_aload_n X dX7_writeLeaf_31 0 rfl rfl ?_
      refine g_bipush X dX7_writeLeaf_32 (by decide +kernel) ?_
      refine g_iload_n X dX7_writeLeaf_34 2 rfl rfl ?_
      refine g_bipush X dX7_writeLeaf_35 (by decide +kernel) ?_
      refine g_irem X hf (by decide) dX7_writeLeaf_37 (fun v3 hf => ?_)
      refine g_iadd X dX7_writeLeaf_38 ?_
      obtain ⟨v4, hc5, hf⟩ := Option.bind_eq_some_iff.mp hf
      refine g_callV X (As := [ii (48 + v3)]) (st := []) (st1 := []) (ws' := c7 K a v4) (X7_put_ok K l a V0 (48 + v3) v4 hc5) gX7_writeLeaf_X7_put rfl 1 (by decide +kernel) ⟨rfl, rfl⟩ ⟨Nat.le_of_ble_eq_true rfl, Nat.le_of_ble_eq_true rfl⟩ ⟨Nat.zero_le _, Nat.zero_le _⟩ 0 rfl rfl rfl rfl (Nat.le_of_ble_eq_true rfl) dX7_writeLeaf_39 (SG.all rfl) rfl ?_
      cases hf
      exact g_vret X hr hlk dX7_writeLeaf_42
    · refine g_aload_n X dX7_writeLeaf_20 0 rfl rfl ?_
      refine g_bipush X dX7_writeLeaf_21 (by decide +kernel) ?_
      refine g_iload_n X dX7_writeLeaf_23 2 rfl rfl ?_
      refine g_bipush X dX7_writeLeaf_24 (by decide +kernel) ?_
      refine g_idiv X hf (by decide) dX7_writeLeaf_26 (fun v6 hf => ?_)
      refine g_iadd X dX7_writeLeaf_27 ?_
      obtain ⟨v7, hc8, hf⟩ := Option.bind_eq_some_iff.mp hf
      refine g_callV X (As := [ii (48 + v6)]) (st := []) (st1 := []) (ws' := c7 K a v7) (X7_put_ok K l a V0 (48 + v6) v7 hc8) gX7_writeLeaf_X7_put rfl 1 (by decide +kernel) ⟨rfl, rfl⟩ ⟨Nat.le_of_ble_eq_true rfl, Nat.le_of_ble_eq_true rfl⟩ ⟨Nat.zero_le _, Nat.zero_le _⟩ 0 rfl rfl rfl rfl (Nat.le_of_ble_eq_true rfl) dX7_writeLeaf_28 (SG.all rfl) rfl ?_
      refine g_aload_n X dX7_writeLeaf_31 0 rfl rfl ?_
      refine g_bipush X dX7_writeLeaf_32 (by decide +kernel) ?_
      refine g_iload_n X dX7_writeLeaf_34 2 rfl rfl ?_
      refine g_bipush X dX7_writeLeaf_35 (by decide +kernel) ?_
      refine g_irem X hf (by decide) dX7_writeLeaf_37 (fun v9 hf => ?_)
      refine g_iadd X dX7_writeLeaf_38 ?_
      obtain ⟨v10, hc11, hf⟩ := Option.bind_eq_some_iff.mp hf
      refine g_callV X (As := [ii (48 + v9)]) (st := []) (st1 := []) (ws' := c7 K a v10) (X7_put_ok K l a v7 (48 + v9) v10 hc11) gX7_writeLeaf_X7_put rfl 1 (by decide +kernel) ⟨rfl, rfl⟩ ⟨Nat.le_of_ble_eq_true rfl, Nat.le_of_ble_eq_true rfl⟩ ⟨Nat.zero_le _, Nat.zero_le _⟩ 0 rfl rfl rfl rfl (Nat.le_of_ble_eq_true rfl) dX7_writeLeaf_39 (SG.all rfl) rfl ?_
      cases hf
      exact g_vret X hr hlk dX7_writeLeaf_42
set_option maxHeartbeats 4000000 in
set_option maxRecDepth 100000 in
theorem X7_writeLeaf_ok (K : KE) (l : Launch) (a : Nat → Nat) (V0 : Tx) (p1 : Int) (p2 : Int) (res : Tx) (hf : X7_writeLeaf V0 p1 p2 = some res) : CT l K.1 vwCl (kT K) yX7_writeLeaf wsX7_writeLeaf rmX7_writeLeaf [.ref (a 0), ii p1, ii p2] none (c7 K a V0) (c7 K a res) :=
  CT.mk (cc := cX7_writeLeaf) (maxL := 3) (ret := none) (by decide) rfl (Nat.le_of_ble_eq_true rfl) (fun p e s m below meth c X hr hlk => X7_writeLeaf_go K l a _ X hr hlk V0 p1 p2 res hf)
theorem iw_X7_write_X7 : ∀ w ∈ u_ws RX7 TX7 4, w ∈ wsX7_write := by decide +kernel
theorem fl_X7_write_15 : Cond.fieldLink RX7 15 (TX7 1).1 (TX7 1).2.1 (TX7 1).2.2.1 ∈ wsX7_write := by decide +kernel
theorem fl_X7_write_22 : Cond.fieldLink RX7 22 (TX7 3).1 (TX7 3).2.1 (TX7 3).2.2.1 ∈ wsX7_write := by decide +kernel
theorem iw_X7_write_X6 : ∀ w ∈ u_ws RX6 TX6 4, w ∈ wsX7_write := by decide +kernel
theorem fl_X7_write_25 : Cond.fieldLink RX7 25 (TX6 0).1 (TX6 0).2.1 (TX6 0).2.2.1 ∈ wsX7_write := by decide +kernel
theorem fl_X7_write_30 : Cond.fieldLink RX7 30 (TX6 1).1 (TX6 1).2.1 (TX6 1).2.2.1 ∈ wsX7_write := by decide +kernel
theorem ne_X7_write_33 : (RX7, 33, yX9_isCall) ∈ nestL := by decide +kernel
theorem wd_X7_write_ini9 : Cond.initialized yX9_isCall.cls ∈ wsX7_write := by decide +kernel
theorem wd_X7_write_sta_X9_isCall : Cond.static yX9_isCall ∈ wsX7_write := by decide +kernel
theorem fl_X7_write_37 : Cond.fieldLink RX7 37 (TX6 2).1 (TX6 2).2.1 (TX6 2).2.2.1 ∈ wsX7_write := by decide +kernel
theorem fl_X7_write_40 : Cond.fieldLink RX7 40 (TX6 3).1 (TX6 3).2.1 (TX6 3).2.2.1 ∈ wsX7_write := by decide +kernel
def rmX7_write : Room := { frames := 3, cells := 0, slots := 0, locals := 64 }
def X7_write_L12 (kx : Tx → Option (Tx)) (V0 : Pg) : Nat → Int → Tx → Option (Tx)
  | 0, _, _ => none
  | n + 1, y2, V1 => brLT y2 V0.1 (rdK 30 V0.2.1 y2 (fun v1 => (X9_isCall v1).bind (fun v2 => ltK (fun q4 : Tx => X7_write_L12 kx V0 n (y2 + 1) q4) (fun j5 => brEQ v2 0 (rdK 30 V0.2.1 y2 (fun v6 => rdK 30 V0.2.2.1 y2 (fun v7 => (X7_writeLeaf V1 v6 v7).bind (fun v8 => (X7_finishArgument v8).bind (fun v10 => j5 v10))))) (rdK 30 V0.2.1 y2 (fun v12 => rdK 30 V0.2.2.1 y2 (fun v13 => rdK 30 V0.2.2.2 y2 (fun v14 => (X7_openCall V1 v12 v13 v14).bind (fun v15 => j5 v15))))))))) (kx V1)
def X7_write (V0 : Pg) (V1 : Tx) : Option (Tx) := X7_write_L12 (fun w17 => some w17) V0 FU 0 (V1.1, 0, V1.2.2.1, 0)
set_option maxHeartbeats 4000000 in
set_option maxRecDepth 100000 in
theorem X7_write_L12_ok (K : KE) (l : Launch) (a : Nat → Nat) (b : Nat → Nat) (WC : va_W) {p : Program} {e : Env} {s : State} {m : MethodId} {args : Array Value} {below : List Frame} {meth : Method} {c : Code} (X : CX p s m args c K.1 vwCl (kT K) (va_A WC s.heap.size) cX7_write 3 wsX7_write RX7) (hr : meth.sig.returnType = none) (hlk : meth.locks = false) (V0 : Pg)  (res : Tx) {kx : Tx → Option (Tx)} : ∀ (n : Nat) (y2 : Int) (V1 : Tx), X7_write_L12 kx V0 n y2 V1 = some res → (∀ (V1z : Tx), kx V1z = some res → GO p l e rmX7_write s m args below meth c K.1 vwCl (va_A WC s.heap.size) (MQ below (QC K.1 vwCl none WC (c6 K a V0 ++ (c7 K b res)) s.heap.size) args s 0 0 (va_A WC s.heap.size)) 3 0 0 83 [] [] (c6 K a V0 ++ (c7 K b V1z))) → GO p l e rmX7_write s m args below meth c K.1 vwCl (va_A WC s.heap.size) (MQ below (QC K.1 vwCl none WC (c6 K a V0 ++ (c7 K b res)) s.heap.size) args s 0 0 (va_A WC s.heap.size)) 3 0 0 12 [(0, .ref (b 0)), (1, .ref (a 0)), (2, ii y2)] [] (c6 K a V0 ++ (c7 K b V1)) := by
  intro n
  induction n with
  | zero =>
    intro y2 V1 hf _
    rw [X7_write_L12] at hf
    cases hf
  | succ n ih =>
    intro y2 V1 hf hk
    rw [X7_write_L12] at hf
    refine g_iload_n X dX7_write_12 2 rfl rfl ?_
    refine g_aload_n X dX7_write_13 1 rfl rfl ?_
    refine g_get X (v := ii V0.1) 0 0 dX7_write_14 rfl rfl iw_X7_write_X6 (by decide) fl_X7_write_25 rfl ?_
    refine g_icmp_ge X hf 83 dX7_write_17 (by decide) (fun hf => ?_) (fun hf => ?_)
    · refine g_aload_n X dX7_write_20 1 rfl rfl ?_
      refine g_get X (v := .ref (a 1)) 0 1 dX7_write_21 rfl rfl iw_X7_write_X6 (by decide) fl_X7_write_30 rfl ?_
      refine g_iload_n X dX7_write_24 2 rfl rfl ?_
      refine g_iald X hf (by decide) 1 0 dX7_write_25 rfl rfl (fun v1 hf => ?_)
      obtain ⟨v2, hc3, hf⟩ := Option.bind_eq_some_iff.mp hf
      refine g_callSN X (As := [ii v1]) (st := []) (st1 := [ii v2]) (ws' := c6 K a V0 ++ (c7 K b V1)) (X9_isCall_ok K l v1 v2 hc3) ggX7_write_X9_isCall ne_X7_write_33 wd_X7_write_ini9 wd_X7_write_sta_X9_isCall rfl 1 (by decide +kernel) ⟨rfl, rfl⟩ ⟨Nat.le_of_ble_eq_true rfl, Nat.le_of_ble_eq_true rfl⟩ ⟨Nat.zero_le _, Nat.zero_le _⟩ rfl rfl (Nat.le_of_ble_eq_true rfl) dX7_write_26 SG.none rfl ?_
      refine g_let (G := fun q4 : Tx => GO p l e rmX7_write s m args below meth c K.1 vwCl (va_A WC s.heap.size) (MQ below (QC K.1 vwCl none WC (c6 K a V0 ++ (c7 K b res)) s.heap.size) args s 0 0 (va_A WC s.heap.size)) 3 0 0 77 [(0, .ref (b 0)), (1, .ref (a 0)), (2, ii y2)] [] (c6 K a V0 ++ (c7 K b q4))) hf (fun q4 hf => ?_) (fun j5 hj5 hf => ?_)
      · refine g_iinc X (lv' := [(2, ii (y2 + 1)), (0, .ref (b 0)), (1, .ref (a 0))]) dX7_write_77 2 rfl (by decide) rfl ?_
        refine g_goto X 12 dX7_write_80 (by decide) ?_
        refine g_sub (lv' := [(0, .ref (b 0)), (1, .ref (a 0)), (2, ii (y2 + 1))]) [1, 2, 0] rfl ?_
        exact ih (y2 + 1) q4 hf hk
      · refine g_if_eq X hf 57 dX7_write_29 (by decide) (fun hf => ?_) (fun hf => ?_)
        · refine g_aload_n X dX7_write_57 0 rfl rfl ?_
          refine g_aload_n X dX7_write_58 1 rfl rfl ?_
          refine g_get X (v := .ref (a 1)) 0 1 dX7_write_59 rfl rfl iw_X7_write_X6 (by decide) fl_X7_write_30 rfl ?_
          refine g_iload_n X dX7_write_62 2 rfl rfl ?_
          refine g_iald X hf (by decide) 1 0 dX7_write_63 rfl rfl (fun v6 hf => ?_)
          refine g_aload_n X dX7_write_64 1 rfl rfl ?_
          refine g_get X (v := .ref (a 2)) 0 2 dX7_write_65 rfl rfl iw_X7_write_X6 (by decide) fl_X7_write_37 rfl ?_
          refine g_iload_n X dX7_write_68 2 rfl rfl ?_
          refine g_iald X hf (by decide) 2 0 dX7_write_69 rfl rfl (fun v7 hf => ?_)
          obtain ⟨v8, hc9, hf⟩ := Option.bind_eq_some_iff.mp hf
          refine g_callV X (As := [ii v6, ii v7]) (st := []) (st1 := []) (ws' := c6 K a V0 ++ (c7 K b v8)) (X7_writeLeaf_ok K l b V1 v6 v7 v8 hc9) gX7_write_X7_writeLeaf rfl 2 (by decide +kernel) ⟨rfl, rfl⟩ ⟨Nat.le_of_ble_eq_true rfl, Nat.le_of_ble_eq_true rfl⟩ ⟨Nat.zero_le _, Nat.zero_le _⟩ 4 rfl rfl rfl rfl (Nat.le_of_ble_eq_true rfl) dX7_write_70 (SG.one (c6 K a V0) [] rfl rfl rfl) rfl ?_
          refine g_aload_n X dX7_write_73 0 rfl rfl ?_
          obtain ⟨v10, hc11, hf⟩ := Option.bind_eq_some_iff.mp hf
          refine g_callV X (As := []) (st := []) (st1 := []) (ws' := c6 K a V0 ++ (c7 K b v10)) (X7_finishArgument_ok K l b v8 v10 hc11) gX7_write_X7_finishArgument rfl 0 (by decide +kernel) ⟨rfl, rfl⟩ ⟨Nat.le_of_ble_eq_true rfl, Nat.le_of_ble_eq_true rfl⟩ ⟨Nat.zero_le _, Nat.zero_le _⟩ 4 rfl rfl rfl rfl (Nat.le_of_ble_eq_true rfl) dX7_write_74 (SG.one (c6 K a V0) [] rfl rfl rfl) rfl ?_
          exact hj5 v10 hf
        · refine g_aload_n X dX7_write_32 0 rfl rfl ?_
          refine g_aload_n X dX7_write_33 1 rfl rfl ?_
          refine g_get X (v := .ref (a 1)) 0 1 dX7_write_34 rfl rfl iw_X7_write_X6 (by decide) fl_X7_write_30 rfl ?_
          refine g_iload_n X dX7_write_37 2 rfl rfl ?_
          refine g_iald X hf (by decide) 1 0 dX7_write_38 rfl rfl (fun v12 hf => ?_)
          refine g_aload_n X dX7_write_39 1 rfl rfl ?_
          refine g_get X (v := .ref (a 2)) 0 2 dX7_write_40 rfl rfl iw_X7_write_X6 (by decide) fl_X7_write_37 rfl ?_
          refine g_iload_n X dX7_write_43 2 rfl rfl ?_
          refine g_iald X hf (by decide) 2 0 dX7_write_44 rfl rfl (fun v13 hf => ?_)
          refine g_aload_n X dX7_write_45 1 rfl rfl ?_
          refine g_get X (v := .ref (a 3)) 0 3 dX7_write_46 rfl rfl iw_X7_write_X6 (by decide) fl_X7_write_40 rfl ?_
          refine g_iload_n X dX7_write_49 2 rfl rfl ?_
          refine g_iald X hf (by decide) 3 0 dX7_write_50 rfl rfl (fun v14 hf => ?_)
          obtain ⟨v15, hc16, hf⟩ := Option.bind_eq_some_iff.mp hf
          refine g_callV X (As := [ii v12, ii v13, ii v14]) (st := []) (st1 := []) (ws' := c6 K a V0 ++ (c7 K b v15)) (X7_openCall_ok K l b V1 v12 v13 v14 v15 hc16) gX7_write_X7_openCall rfl 3 (by decide +kernel) ⟨rfl, rfl⟩ ⟨Nat.le_of_ble_eq_true rfl, Nat.le_of_ble_eq_true rfl⟩ ⟨Nat.zero_le _, Nat.zero_le _⟩ 4 rfl rfl rfl rfl (Nat.le_of_ble_eq_true rfl) dX7_write_51 (SG.one (c6 K a V0) [] rfl rfl rfl) rfl ?_
          refine g_goto X 77 dX7_write_54 (by decide) ?_
          exact hj5 v15 hf
    · refine g_sub (lv' := []) [] rfl ?_
      exact hk V1 hf
set_option maxHeartbeats 4000000 in
set_option maxRecDepth 100000 in
theorem X7_write_go (K : KE) (l : Launch) (a : Nat → Nat) (b : Nat → Nat) (WC : va_W) {p : Program} {e : Env} {s : State} {m : MethodId} {args : Array Value} {below : List Frame} {meth : Method} {c : Code} (X : CX p s m args c K.1 vwCl (kT K) (va_A WC s.heap.size) cX7_write 3 wsX7_write RX7) (hr : meth.sig.returnType = none) (hlk : meth.locks = false) (V0 : Pg) (V1 : Tx) (res : Tx) (hf : X7_write V0 V1 = some res) : GO p l e rmX7_write s m args below meth c K.1 vwCl (va_A WC s.heap.size) (MQ below (QC K.1 vwCl none WC (c6 K a V0 ++ (c7 K b res)) s.heap.size) args s 0 0 (va_A WC s.heap.size)) 3 0 0 0 [(0, .ref (b 0)), (1, .ref (a 0))] [] (c6 K a V0 ++ (c7 K b V1)) := by
  rw [X7_write] at hf
  refine g_aload_n X dX7_write_0 0 rfl rfl ?_
  refine g_iconst X dX7_write_1 ?_
  refine g_puti X 4 1 dX7_write_2 rfl rfl iw_X7_write_X7 tyX7_ok nmX7 (by decide) fl_X7_write_15 rfl rfl (Nat.le_of_ble_eq_true rfl) (ws' := c6 K a V0 ++ (c7 K b (V1.1, 0, V1.2.2.1, V1.2.2.2))) rfl ?_
  refine g_aload_n X dX7_write_5 0 rfl rfl ?_
  refine g_iconst X dX7_write_6 ?_
  refine g_puti X 4 3 dX7_write_7 rfl rfl iw_X7_write_X7 tyX7_ok nmX7 (by decide) fl_X7_write_22 rfl rfl (Nat.le_of_ble_eq_true rfl) (ws' := c6 K a V0 ++ (c7 K b (V1.1, 0, V1.2.2.1, 0))) rfl ?_
  refine g_iconst X dX7_write_10 ?_
  refine g_istore_n X (lv' := [(2, ii 0), (0, .ref (b 0)), (1, .ref (a 0))]) dX7_write_11 rfl (by decide) rfl ?_
  refine g_sub (lv' := [(0, .ref (b 0)), (1, .ref (a 0)), (2, ii 0)]) [1, 2, 0] rfl ?_
  refine X7_write_L12_ok K l a b WC X hr hlk V0 res FU 0 (V1.1, 0, V1.2.2.1, 0) hf (fun w17 hf => ?_)
  cases hf
  exact g_vret X hr hlk dX7_write_83
set_option maxHeartbeats 4000000 in
set_option maxRecDepth 100000 in
theorem X7_write_ok (K : KE) (l : Launch) (a : Nat → Nat) (b : Nat → Nat) (V0 : Pg) (V1 : Tx) (res : Tx) (hf : X7_write V0 V1 = some res) : CT l K.1 vwCl (kT K) yX7_write wsX7_write rmX7_write [.ref (b 0), .ref (a 0)] none (c6 K a V0 ++ (c7 K b V1)) (c6 K a V0 ++ (c7 K b res)) :=
  CT.mk (cc := cX7_write) (maxL := 3) (ret := none) (by decide) rfl (Nat.le_of_ble_eq_true rfl) (fun p e s m below meth c X hr hlk => X7_write_go K l a b _ X hr hlk V0 V1 res hf)
