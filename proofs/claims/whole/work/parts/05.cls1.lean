theorem iw_X6_copyFrom_X6 : ∀ w ∈ u_ws RX6 TX6 4, w ∈ wsX6_copyFrom := by decide +kernel
theorem fl_X6_copyFrom_9 : Cond.fieldLink RX6 9 (TX6 0).1 (TX6 0).2.1 (TX6 0).2.2.1 ∈ wsX6_copyFrom := by decide +kernel
def rmX6_copyFrom : Room := { frames := 2, cells := 0, slots := 0, locals := 47 }
def X6_copyFrom (V0 : Pg) (V1 : Pg) : Option (Pg) := (X6_addNodes (0, V0.2.1, V0.2.2.1, V0.2.2.2) V1 0 V1.1).bind (fun v1 => some v1)
set_option maxHeartbeats 4000000 in
set_option maxRecDepth 100000 in
theorem X6_copyFrom_go (K : KE) (l : Launch) (a : Nat → Nat) (b : Nat → Nat) (WC : va_W) {p : Program} {e : Env} {s : State} {m : MethodId} {args : Array Value} {below : List Frame} {meth : Method} {c : Code} (X : CX p s m args c K.1 vwCl (kT K) (va_A WC s.heap.size) cX6_copyFrom 2 wsX6_copyFrom RX6) (hr : meth.sig.returnType = none) (hlk : meth.locks = false) (V0 : Pg) (V1 : Pg) (res : Pg) (hf : X6_copyFrom V0 V1 = some res) : GO p l e rmX6_copyFrom s m args below meth c K.1 vwCl (va_A WC s.heap.size) (MQ below (QC K.1 vwCl none WC (c6 K a res ++ (c6 K b V1)) s.heap.size) args s 0 0 (va_A WC s.heap.size)) 2 0 0 0 [(0, .ref (a 0)), (1, .ref (b 0))] [] (c6 K a V0 ++ (c6 K b V1)) := by
  rw [X6_copyFrom] at hf
  refine g_aload_n X dX6_copyFrom_0 0 rfl rfl ?_
  refine g_iconst X dX6_copyFrom_1 ?_
  refine g_puti X 0 0 dX6_copyFrom_2 rfl rfl iw_X6_copyFrom_X6 tyX6_ok nmX6 (by decide) fl_X6_copyFrom_9 rfl rfl (Nat.le_of_ble_eq_true rfl) (ws' := c6 K a (0, V0.2.1, V0.2.2.1, V0.2.2.2) ++ (c6 K b V1)) rfl ?_
  refine g_aload_n X dX6_copyFrom_5 0 rfl rfl ?_
  refine g_aload_n X dX6_copyFrom_6 1 rfl rfl ?_
  refine g_iconst X dX6_copyFrom_7 ?_
  refine g_aload_n X dX6_copyFrom_8 1 rfl rfl ?_
  refine g_get X (v := ii V1.1) 4 0 dX6_copyFrom_9 rfl rfl iw_X6_copyFrom_X6 (by decide) fl_X6_copyFrom_9 rfl ?_
  obtain ⟨v1, hc2, hf⟩ := Option.bind_eq_some_iff.mp hf
  refine g_callV X (As := [.ref (b 0), ii 0, ii V1.1]) (st := []) (st1 := []) (ws' := c6 K a v1 ++ (c6 K b V1)) (X6_addNodes_ok K l a b (0, V0.2.1, V0.2.2.1, V0.2.2.2) V1 0 V1.1 v1 hc2) gX6_copyFrom_X6_addNodes rfl 3 (by decide +kernel) ⟨rfl, rfl⟩ ⟨Nat.le_of_ble_eq_true rfl, Nat.le_of_ble_eq_true rfl⟩ ⟨Nat.zero_le _, Nat.zero_le _⟩ 0 rfl rfl rfl rfl (Nat.le_of_ble_eq_true rfl) dX6_copyFrom_12 (SG.all rfl) rfl ?_
  cases hf
  exact g_vret X hr hlk dX6_copyFrom_15
set_option maxHeartbeats 4000000 in
set_option maxRecDepth 100000 in
theorem X6_copyFrom_ok (K : KE) (l : Launch) (a : Nat → Nat) (b : Nat → Nat) (V0 : Pg) (V1 : Pg) (res : Pg) (hf : X6_copyFrom V0 V1 = some res) : CT l K.1 vwCl (kT K) yX6_copyFrom wsX6_copyFrom rmX6_copyFrom [.ref (a 0), .ref (b 0)] none (c6 K a V0 ++ (c6 K b V1)) (c6 K a res ++ (c6 K b V1)) :=
  CT.mk (cc := cX6_copyFrom) (maxL := 2) (ret := none) (by decide) rfl (Nat.le_of_ble_eq_true rfl) (fun p e s m below meth c X hr hlk => X6_copyFrom_go K l a b _ X hr hlk V0 V1 res hf)
def rmJ7_fill_53178 : Room := { frames := 0, cells := 0, slots := 0, locals := 0 }
def J7_fill_53178_L5 (kx : Arr → Option (Arr)) (n0 : Nat) (x1 : Int) (x3 : Int) : Nat → Int → Arr → Option (Arr)
  | 0, _, _ => none
  | n + 1, y2, ar0 => brLT y2 x3 (wrK n0 ar0 y2 x1 (fun f1 => J7_fill_53178_L5 kx n0 x1 x3 n (y2 + 1) f1)) (kx ar0)
def J7_fill_53178 (n0 : Nat) (ar0 : Arr) (p1 : Int) : Option (Arr) := J7_fill_53178_L5 (fun w2 => some w2) n0 p1 ((n0 : Nat) : Int) FU 0 ar0
set_option maxHeartbeats 4000000 in
set_option maxRecDepth 100000 in
theorem J7_fill_53178_L5_ok (K : KE) (l : Launch) (n0 : Nat) (hn0 : n0 ≤ 1000) (a : Nat) (WC : va_W) {p : Program} {e : Env} {s : State} {m : MethodId} {args : Array Value} {below : List Frame} {meth : Method} {c : Code} (X : CX p s m args c K.1 vwCl (kT K) (va_A WC s.heap.size) cJ7_fill_53178 4 wsJ7_fill_53178 RJ7) (hr : meth.sig.returnType = none) (hlk : meth.locks = false)  (x1 : Int) (x3 : Int) (res : Arr) {kx : Arr → Option (Arr)} : ∀ (n : Nat) (y2 : Int) (ar0 : Arr), J7_fill_53178_L5 kx n0 x1 x3 n y2 ar0 = some res → (∀ (ar0z : Arr), kx ar0z = some res → GO p l e rmJ7_fill_53178 s m args below meth c K.1 vwCl (va_A WC s.heap.size) (MQ below (QC K.1 vwCl none WC ([(a, .inl (K.2.1, n0, .inl (arI res)))]) s.heap.size) args s 0 0 (va_A WC s.heap.size)) 4 0 0 20 [] [] ([(a, .inl (K.2.1, n0, .inl (arI ar0z)))])) → GO p l e rmJ7_fill_53178 s m args below meth c K.1 vwCl (va_A WC s.heap.size) (MQ below (QC K.1 vwCl none WC ([(a, .inl (K.2.1, n0, .inl (arI res)))]) s.heap.size) args s 0 0 (va_A WC s.heap.size)) 4 0 0 5 [(0, .ref (a)), (1, ii x1), (2, ii y2), (3, ii x3)] [] ([(a, .inl (K.2.1, n0, .inl (arI ar0)))]) := by
  intro n
  induction n with
  | zero =>
    intro y2 ar0 hf _
    rw [J7_fill_53178_L5] at hf
    cases hf
  | succ n ih =>
    intro y2 ar0 hf hk
    rw [J7_fill_53178_L5] at hf
    refine g_iload_n X dJ7_fill_53178_5 2 rfl rfl ?_
    refine g_iload_n X dJ7_fill_53178_6 3 rfl rfl ?_
    refine g_icmp_ge X hf 20 dJ7_fill_53178_7 (by decide) (fun hf => ?_) (fun hf => ?_)
    · refine g_aload_n X dJ7_fill_53178_10 0 rfl rfl ?_
      refine g_iload_n X dJ7_fill_53178_11 2 rfl rfl ?_
      refine g_iload_n X dJ7_fill_53178_12 1 rfl rfl ?_
      refine g_iast X hf (by omega) 0 0 dJ7_fill_53178_13 rfl rfl (fun f1 => [(a, .inl (K.2.1, n0, .inl (arI f1)))]) (fun _ => rfl) (fun f1 hf => ?_)
      refine g_iinc X (lv' := [(2, ii (y2 + 1)), (0, .ref (a)), (1, ii x1), (3, ii x3)]) dJ7_fill_53178_14 2 rfl (by decide) rfl ?_
      refine g_goto X 5 dJ7_fill_53178_17 (by decide) ?_
      refine g_sub (lv' := [(0, .ref (a)), (1, ii x1), (2, ii (y2 + 1)), (3, ii x3)]) [1, 2, 0, 3] rfl ?_
      exact ih (y2 + 1) f1 hf hk
    · refine g_sub (lv' := []) [] rfl ?_
      exact hk ar0 hf
set_option maxHeartbeats 4000000 in
set_option maxRecDepth 100000 in
theorem J7_fill_53178_go (K : KE) (l : Launch) (n0 : Nat) (hn0 : n0 ≤ 1000) (a : Nat) (WC : va_W) {p : Program} {e : Env} {s : State} {m : MethodId} {args : Array Value} {below : List Frame} {meth : Method} {c : Code} (X : CX p s m args c K.1 vwCl (kT K) (va_A WC s.heap.size) cJ7_fill_53178 4 wsJ7_fill_53178 RJ7) (hr : meth.sig.returnType = none) (hlk : meth.locks = false) (ar0 : Arr) (p1 : Int) (res : Arr) (hf : J7_fill_53178 n0 ar0 p1 = some res) : GO p l e rmJ7_fill_53178 s m args below meth c K.1 vwCl (va_A WC s.heap.size) (MQ below (QC K.1 vwCl none WC ([(a, .inl (K.2.1, n0, .inl (arI res)))]) s.heap.size) args s 0 0 (va_A WC s.heap.size)) 4 0 0 0 [(0, .ref (a)), (1, ii p1)] [] ([(a, .inl (K.2.1, n0, .inl (arI ar0)))]) := by
  rw [J7_fill_53178] at hf
  refine g_iconst X dJ7_fill_53178_0 ?_
  refine g_istore_n X (lv' := [(2, ii 0), (0, .ref (a)), (1, ii p1)]) dJ7_fill_53178_1 rfl (by decide) rfl ?_
  refine g_aload_n X dJ7_fill_53178_2 1 rfl rfl ?_
  refine g_alen X (n := n0) 0 0 dJ7_fill_53178_3 rfl rfl ?_
  refine g_istore_n X (lv' := [(3, ii ((n0 : Nat) : Int)), (2, ii 0), (0, .ref (a)), (1, ii p1)]) dJ7_fill_53178_4 rfl (by decide) rfl ?_
  refine g_sub (lv' := [(0, .ref (a)), (1, ii p1), (2, ii 0), (3, ii ((n0 : Nat) : Int))]) [2, 3, 1, 0] rfl ?_
  refine J7_fill_53178_L5_ok K l n0 hn0 a WC X hr hlk p1 ((n0 : Nat) : Int) res FU 0 ar0 hf (fun w2 hf => ?_)
  cases hf
  exact g_vret X hr hlk dJ7_fill_53178_20
set_option maxHeartbeats 4000000 in
set_option maxRecDepth 100000 in
theorem J7_fill_53178_ok (K : KE) (l : Launch) (n0 : Nat) (hn0 : n0 ≤ 1000) (a : Nat) (ar0 : Arr) (p1 : Int) (res : Arr) (hf : J7_fill_53178 n0 ar0 p1 = some res) : CT l K.1 vwCl (kT K) yJ7_fill_53178 wsJ7_fill_53178 rmJ7_fill_53178 [.ref (a), ii p1] none ([(a, .inl (K.2.1, n0, .inl (arI ar0)))]) ([(a, .inl (K.2.1, n0, .inl (arI res)))]) :=
  CT.mk (cc := cJ7_fill_53178) (maxL := 4) (ret := none) (by decide) rfl (Nat.le_of_ble_eq_true rfl) (fun p e s m below meth c X hr hlk => J7_fill_53178_go K l n0 hn0 a _ X hr hlk ar0 p1 res hf)
theorem iw_X8_canUseAdapter_X8 : ∀ w ∈ u_ws RX8 TX8 9, w ∈ wsX8_canUseAdapter := by decide +kernel
theorem fl_X8_canUseAdapter_34 : Cond.fieldLink RX8 34 (TX8 5).1 (TX8 5).2.1 (TX8 5).2.2.1 ∈ wsX8_canUseAdapter := by decide +kernel
theorem fl_X8_canUseAdapter_26 : Cond.fieldLink RX8 26 (TX8 3).1 (TX8 3).2.1 (TX8 3).2.2.1 ∈ wsX8_canUseAdapter := by decide +kernel
def rmX8_canUseAdapter : Room := { frames := 2, cells := 0, slots := 0, locals := 43 }
def X8_canUseAdapter (V0 : St) (p1 : Int) : Option (Int) := brEQ V0.2.2.2.2.2.1 1 ((X8_adapterNumber V0 p1).bind (fun v1 => brEQ v1 (-1) (brLT V0.2.2.2.1 4 (some 1) (some 0)) (some 1))) (some 0)
set_option maxHeartbeats 4000000 in
set_option maxRecDepth 100000 in
theorem X8_canUseAdapter_go (K : KE) (l : Launch) (a : Nat → Nat) (WC : va_W) {p : Program} {e : Env} {s : State} {m : MethodId} {args : Array Value} {below : List Frame} {meth : Method} {c : Code} (X : CX p s m args c K.1 vwCl (kT K) (va_A WC s.heap.size) cX8_canUseAdapter 2 wsX8_canUseAdapter RX8) (hr : meth.sig.returnType = (some .boolean)) (hlk : meth.locks = false) (V0 : St) (p1 : Int) (res : Int) (hf : X8_canUseAdapter V0 p1 = some res) : GO p l e rmX8_canUseAdapter s m args below meth c K.1 vwCl (va_A WC s.heap.size) (MQ below (QC K.1 vwCl (some (ii res)) WC (c8 K a V0) s.heap.size) args s 0 0 (va_A WC s.heap.size)) 2 0 0 0 [(0, .ref (a 0)), (1, ii p1)] [] (c8 K a V0) := by
  rw [X8_canUseAdapter] at hf
  refine g_aload_n X dX8_canUseAdapter_0 0 rfl rfl ?_
  refine g_get X (v := ii V0.2.2.2.2.2.1) 0 5 dX8_canUseAdapter_1 rfl rfl iw_X8_canUseAdapter_X8 (by decide) fl_X8_canUseAdapter_34 rfl ?_
  refine g_iconst X dX8_canUseAdapter_4 ?_
  refine g_icmp_ne X hf 29 dX8_canUseAdapter_5 (by decide) (fun hf => ?_) (fun hf => ?_)
  · refine g_aload_n X dX8_canUseAdapter_8 0 rfl rfl ?_
    refine g_iload_n X dX8_canUseAdapter_9 1 rfl rfl ?_
    obtain ⟨v1, hc2, hf⟩ := Option.bind_eq_some_iff.mp hf
    refine g_callV X (As := [ii p1]) (st := []) (st1 := [ii v1]) (ws' := c8 K a V0) (X8_adapterNumber_ok K l a V0 p1 v1 hc2) gX8_canUseAdapter_X8_adapterNumber rfl 1 (by decide +kernel) ⟨rfl, rfl⟩ ⟨Nat.le_of_ble_eq_true rfl, Nat.le_of_ble_eq_true rfl⟩ ⟨Nat.zero_le _, Nat.zero_le _⟩ 0 rfl rfl rfl rfl (Nat.le_of_ble_eq_true rfl) dX8_canUseAdapter_10 (SG.all rfl) rfl ?_
    refine g_iconst X dX8_canUseAdapter_13 ?_
    refine g_icmp_ne X hf 25 dX8_canUseAdapter_14 (by decide) (fun hf => ?_) (fun hf => ?_)
    · refine g_aload_n X dX8_canUseAdapter_17 0 rfl rfl ?_
      refine g_get X (v := ii V0.2.2.2.1) 0 3 dX8_canUseAdapter_18 rfl rfl iw_X8_canUseAdapter_X8 (by decide) fl_X8_canUseAdapter_26 rfl ?_
      refine g_iconst X dX8_canUseAdapter_21 ?_
      refine g_icmp_ge X hf 29 dX8_canUseAdapter_22 (by decide) (fun hf => ?_) (fun hf => ?_)
      · refine g_iconst X dX8_canUseAdapter_25 ?_
        refine g_goto X 30 dX8_canUseAdapter_26 (by decide) ?_
        cases hf
        exact g_zret X (Or.inr rfl) hr hlk dX8_canUseAdapter_30
      · refine g_iconst X dX8_canUseAdapter_29 ?_
        cases hf
        exact g_zret X (Or.inl rfl) hr hlk dX8_canUseAdapter_30
    · refine g_iconst X dX8_canUseAdapter_25 ?_
      refine g_goto X 30 dX8_canUseAdapter_26 (by decide) ?_
      cases hf
      exact g_zret X (Or.inr rfl) hr hlk dX8_canUseAdapter_30
  · refine g_iconst X dX8_canUseAdapter_29 ?_
    cases hf
    exact g_zret X (Or.inl rfl) hr hlk dX8_canUseAdapter_30
set_option maxHeartbeats 4000000 in
set_option maxRecDepth 100000 in
theorem X8_canUseAdapter_ok (K : KE) (l : Launch) (a : Nat → Nat) (V0 : St) (p1 : Int) (res : Int) (hf : X8_canUseAdapter V0 p1 = some res) : CT l K.1 vwCl (kT K) yX8_canUseAdapter wsX8_canUseAdapter rmX8_canUseAdapter [.ref (a 0), ii p1] (some (ii res)) (c8 K a V0) (c8 K a V0) :=
  CT.mk (cc := cX8_canUseAdapter) (maxL := 2) (ret := (some .boolean)) (by decide) rfl (Nat.le_of_ble_eq_true rfl) (fun p e s m below meth c X hr hlk => X8_canUseAdapter_go K l a _ X hr hlk V0 p1 res hf)
theorem iw_X1_copyFunction_X1 : ∀ w ∈ u_ws RX1 TX1 4, w ∈ wsX1_copyFunction := by decide +kernel
theorem fl_X1_copyFunction_15 : Cond.fieldLink RX1 15 (TX1 0).1 (TX1 0).2.1 (TX1 0).2.2.1 ∈ wsX1_copyFunction := by decide +kernel
theorem ne_X1_copyFunction_37 : (RX1, 37, yX9_within) ∈ nestL := by decide +kernel
theorem wd_X1_copyFunction_ini9 : Cond.initialized yX9_within.cls ∈ wsX1_copyFunction := by decide +kernel
theorem wd_X1_copyFunction_sta_X9_within : Cond.static yX9_within ∈ wsX1_copyFunction := by decide +kernel
theorem fl_X1_copyFunction_21 : Cond.fieldLink RX1 21 (TX1 1).1 (TX1 1).2.1 (TX1 1).2.2.1 ∈ wsX1_copyFunction := by decide +kernel
theorem fl_X1_copyFunction_25 : Cond.fieldLink RX1 25 (TX1 2).1 (TX1 2).2.1 (TX1 2).2.2.1 ∈ wsX1_copyFunction := by decide +kernel
theorem fl_X1_copyFunction_28 : Cond.fieldLink RX1 28 (TX1 3).1 (TX1 3).2.1 (TX1 3).2.2.1 ∈ wsX1_copyFunction := by decide +kernel
theorem wd_X1_copyFunction_ac44 : Cond.methodLink RX1 44 arraycopyName ∈ wsX1_copyFunction := by decide +kernel
theorem wd_X1_copyFunction_an : Cond.native arraycopyName ∈ wsX1_copyFunction := by decide +kernel
theorem wd_X1_copyFunction_as : Cond.static arraycopyName ∈ wsX1_copyFunction := by decide +kernel
theorem wd_X1_copyFunction_ai : Cond.initialized "java/lang/System" ∈ wsX1_copyFunction := by decide +kernel
def rmX1_copyFunction : Room := { frames := 1, cells := 0, slots := 0, locals := 26 }
def X1_copyFunction (cn0 : Nat) (cn1 : Nat) (V0 : FT) (V1 : FT) (p1 : Int) (p3 : Int) : Option (FT) := (X9_within p1 0 ((cn0 : Int) - 1)).bind (fun v1 => brEQ v1 0 (some V0) ((X9_within p3 0 ((cn1 : Int) - 1)).bind (fun v3 => brEQ v3 0 (some V0) (rdK cn1 V1.1 p3 (fun v5 => wrK cn0 V0.1 p1 v5 (fun f6 => rdK cn1 V1.2.1 p3 (fun v7 => wrK cn0 V0.2.1 p1 v7 (fun f8 => cpK (5 * cn1) (5 * cn0) V1.2.2 V0.2.2 (p3 * 5) (p1 * 5) 5 (fun f9 => some (f6, f8, f9))))))))))
set_option maxHeartbeats 4000000 in
set_option maxRecDepth 100000 in
theorem X1_copyFunction_go (K : KE) (l : Launch) (cn0 : Nat) (cn1 : Nat) (hcn0 : cn0 ≤ 1000) (hcn1 : cn1 ≤ 1000) (a : Nat → Nat) (b : Nat → Nat) (WC : va_W) {p : Program} {e : Env} {s : State} {m : MethodId} {args : Array Value} {below : List Frame} {meth : Method} {c : Code} (X : CX p s m args c K.1 vwCl (kT K) (va_A WC s.heap.size) cX1_copyFunction 4 wsX1_copyFunction RX1) (hr : meth.sig.returnType = none) (hlk : meth.locks = false) (V0 : FT) (V1 : FT) (p1 : Int) (p3 : Int) (res : FT) (hf : X1_copyFunction cn0 cn1 V0 V1 p1 p3 = some res) : GO p l e rmX1_copyFunction s m args below meth c K.1 vwCl (va_A WC s.heap.size) (MQ below (QC K.1 vwCl none WC (c1 K cn0 a res ++ (c1 K cn1 b V1)) s.heap.size) args s 0 0 (va_A WC s.heap.size)) 4 0 0 0 [(0, .ref (a 0)), (1, ii p1), (2, .ref (b 0)), (3, ii p3)] [] (c1 K cn0 a V0 ++ (c1 K cn1 b V1)) := by
  rw [X1_copyFunction] at hf
  refine g_iload_n X dX1_copyFunction_0 1 rfl rfl ?_
  refine g_iconst X dX1_copyFunction_1 ?_
  refine g_aload_n X dX1_copyFunction_2 0 rfl rfl ?_
  refine g_get X (v := ii (cn0 : Int)) 0 0 dX1_copyFunction_3 rfl rfl iw_X1_copyFunction_X1 (by decide) fl_X1_copyFunction_15 rfl ?_
  refine g_iconst X dX1_copyFunction_6 ?_
  refine g_isub X dX1_copyFunction_7 ?_
  obtain ⟨v1, hc2, hf⟩ := Option.bind_eq_some_iff.mp hf
  refine g_callSN X (As := [ii p1, ii 0, ii ((cn0 : Int) - 1)]) (st := []) (st1 := [ii v1]) (ws' := c1 K cn0 a V0 ++ (c1 K cn1 b V1)) (X9_within_ok K l p1 0 ((cn0 : Int) - 1) v1 hc2) ggX1_copyFunction_X9_within ne_X1_copyFunction_37 wd_X1_copyFunction_ini9 wd_X1_copyFunction_sta_X9_within rfl 3 (by decide +kernel) ⟨rfl, rfl⟩ ⟨Nat.le_of_ble_eq_true rfl, Nat.le_of_ble_eq_true rfl⟩ ⟨Nat.zero_le _, Nat.zero_le _⟩ rfl rfl (Nat.le_of_ble_eq_true rfl) dX1_copyFunction_8 SG.none rfl ?_
  refine g_if_eq X hf 28 dX1_copyFunction_11 (by decide) (fun hf => ?_) (fun hf => ?_)
  · cases hf
    exact g_vret X hr hlk dX1_copyFunction_28
  · refine g_iload_n X dX1_copyFunction_14 3 rfl rfl ?_
    refine g_iconst X dX1_copyFunction_15 ?_
    refine g_aload_n X dX1_copyFunction_16 2 rfl rfl ?_
    refine g_get X (v := ii (cn1 : Int)) 4 0 dX1_copyFunction_17 rfl rfl iw_X1_copyFunction_X1 (by decide) fl_X1_copyFunction_15 rfl ?_
    refine g_iconst X dX1_copyFunction_20 ?_
    refine g_isub X dX1_copyFunction_21 ?_
    obtain ⟨v3, hc4, hf⟩ := Option.bind_eq_some_iff.mp hf
    refine g_callSN X (As := [ii p3, ii 0, ii ((cn1 : Int) - 1)]) (st := []) (st1 := [ii v3]) (ws' := c1 K cn0 a V0 ++ (c1 K cn1 b V1)) (X9_within_ok K l p3 0 ((cn1 : Int) - 1) v3 hc4) ggX1_copyFunction_X9_within ne_X1_copyFunction_37 wd_X1_copyFunction_ini9 wd_X1_copyFunction_sta_X9_within rfl 3 (by decide +kernel) ⟨rfl, rfl⟩ ⟨Nat.le_of_ble_eq_true rfl, Nat.le_of_ble_eq_true rfl⟩ ⟨Nat.zero_le _, Nat.zero_le _⟩ rfl rfl (Nat.le_of_ble_eq_true rfl) dX1_copyFunction_22 SG.none rfl ?_
    refine g_if_ne X hf 29 dX1_copyFunction_25 (by decide) (fun hf => ?_) (fun hf => ?_)
    · cases hf
      exact g_vret X hr hlk dX1_copyFunction_28
    · refine g_aload_n X dX1_copyFunction_29 0 rfl rfl ?_
      refine g_get X (v := .ref (a 1)) 0 1 dX1_copyFunction_30 rfl rfl iw_X1_copyFunction_X1 (by decide) fl_X1_copyFunction_21 rfl ?_
      refine g_iload_n X dX1_copyFunction_33 1 rfl rfl ?_
      refine g_aload_n X dX1_copyFunction_34 2 rfl rfl ?_
      refine g_get X (v := .ref (b 1)) 4 1 dX1_copyFunction_35 rfl rfl iw_X1_copyFunction_X1 (by decide) fl_X1_copyFunction_21 rfl ?_
      refine g_iload_n X dX1_copyFunction_38 3 rfl rfl ?_
      refine g_iald X hf (by omega) 5 0 dX1_copyFunction_39 rfl rfl (fun v5 hf => ?_)
      refine g_iast X hf (by omega) 1 0 dX1_copyFunction_40 rfl rfl (fun f6 => c1 K cn0 a (f6, V0.2.1, V0.2.2) ++ (c1 K cn1 b V1)) (fun _ => rfl) (fun f6 hf => ?_)
      refine g_aload_n X dX1_copyFunction_41 0 rfl rfl ?_
      refine g_get X (v := .ref (a 2)) 0 2 dX1_copyFunction_42 rfl rfl iw_X1_copyFunction_X1 (by decide) fl_X1_copyFunction_25 rfl ?_
      refine g_iload_n X dX1_copyFunction_45 1 rfl rfl ?_
      refine g_aload_n X dX1_copyFunction_46 2 rfl rfl ?_
      refine g_get X (v := .ref (b 2)) 4 2 dX1_copyFunction_47 rfl rfl iw_X1_copyFunction_X1 (by decide) fl_X1_copyFunction_25 rfl ?_
      refine g_iload_n X dX1_copyFunction_50 3 rfl rfl ?_
      refine g_iald X hf (by omega) 6 0 dX1_copyFunction_51 rfl rfl (fun v7 hf => ?_)
      refine g_iast X hf (by omega) 2 0 dX1_copyFunction_52 rfl rfl (fun f8 => c1 K cn0 a (f6, f8, V0.2.2) ++ (c1 K cn1 b V1)) (fun _ => rfl) (fun f8 hf => ?_)
      refine g_aload_n X dX1_copyFunction_53 2 rfl rfl ?_
      refine g_get X (v := .ref (b 3)) 4 3 dX1_copyFunction_54 rfl rfl iw_X1_copyFunction_X1 (by decide) fl_X1_copyFunction_28 rfl ?_
      refine g_iload_n X dX1_copyFunction_57 3 rfl rfl ?_
      refine g_iconst X dX1_copyFunction_58 ?_
      refine g_imul X dX1_copyFunction_59 ?_
      refine g_aload_n X dX1_copyFunction_60 0 rfl rfl ?_
      refine g_get X (v := .ref (a 3)) 0 3 dX1_copyFunction_61 rfl rfl iw_X1_copyFunction_X1 (by decide) fl_X1_copyFunction_28 rfl ?_
      refine g_iload_n X dX1_copyFunction_64 1 rfl rfl ?_
      refine g_iconst X dX1_copyFunction_65 ?_
      refine g_imul X dX1_copyFunction_66 ?_
      refine g_iconst X dX1_copyFunction_67 ?_
      refine g_copy X hf (by omega) (by omega) wd_X1_copyFunction_ac44 wd_X1_copyFunction_an wd_X1_copyFunction_as wd_X1_copyFunction_ai 7 3 0 0 rfl rfl rfl rfl ⟨Nat.le_of_ble_eq_true rfl, Nat.le_of_ble_eq_true rfl⟩ dX1_copyFunction_68 (fun f9 => c1 K cn0 a (f6, f8, f9) ++ (c1 K cn1 b V1)) (fun _ => rfl) (fun f9 hf => ?_)
      cases hf
      exact g_vret X hr hlk dX1_copyFunction_71
set_option maxHeartbeats 4000000 in
set_option maxRecDepth 100000 in
theorem X1_copyFunction_ok (K : KE) (l : Launch) (cn0 : Nat) (cn1 : Nat) (hcn0 : cn0 ≤ 1000) (hcn1 : cn1 ≤ 1000) (a : Nat → Nat) (b : Nat → Nat) (V0 : FT) (V1 : FT) (p1 : Int) (p3 : Int) (res : FT) (hf : X1_copyFunction cn0 cn1 V0 V1 p1 p3 = some res) : CT l K.1 vwCl (kT K) yX1_copyFunction wsX1_copyFunction rmX1_copyFunction [.ref (a 0), ii p1, .ref (b 0), ii p3] none (c1 K cn0 a V0 ++ (c1 K cn1 b V1)) (c1 K cn0 a res ++ (c1 K cn1 b V1)) :=
  CT.mk (cc := cX1_copyFunction) (maxL := 4) (ret := none) (by decide) rfl (Nat.le_of_ble_eq_true rfl) (fun p e s m below meth c X hr hlk => X1_copyFunction_go K l cn0 cn1 hcn0 hcn1 a b _ X hr hlk V0 V1 p1 p3 res hf)
theorem ne_X8_provideAdapter_113 : (RX8, 113, yX9_within) ∈ nestL := by decide +kernel
theorem wd_X8_provideAdapter_ini9 : Cond.initialized yX9_within.cls ∈ wsX8_provideAdapter := by decide +kernel
theorem wd_X8_provideAdapter_sta_X9_within : Cond.static yX9_within ∈ wsX8_provideAdapter := by decide +kernel
theorem iw_X8_provideAdapter_X8 : ∀ w ∈ u_ws RX8 TX8 9, w ∈ wsX8_provideAdapter := by decide +kernel
theorem fl_X8_provideAdapter_30 : Cond.fieldLink RX8 30 (TX8 4).1 (TX8 4).2.1 (TX8 4).2.2.1 ∈ wsX8_provideAdapter := by decide +kernel
theorem fl_X8_provideAdapter_23 : Cond.fieldLink RX8 23 (TX8 2).1 (TX8 2).2.1 (TX8 2).2.2.1 ∈ wsX8_provideAdapter := by decide +kernel
theorem fl_X8_provideAdapter_26 : Cond.fieldLink RX8 26 (TX8 3).1 (TX8 3).2.1 (TX8 3).2.2.1 ∈ wsX8_provideAdapter := by decide +kernel
theorem fl_X8_provideAdapter_14 : Cond.fieldLink RX8 14 (TX8 0).1 (TX8 0).2.1 (TX8 0).2.2.1 ∈ wsX8_provideAdapter := by decide +kernel
def rmX8_provideAdapter : Room := { frames := 2, cells := 0, slots := 0, locals := 49 }
def X8_provideAdapter (V0 : St) (p1 : Int) : Option (Int × St) := (X9_within p1 0 5).bind (fun v1 => brEQ v1 0 ((X8_adapterNumber V0 p1).bind (fun v3 => some (v3, V0))) (rdK 6 V0.2.2.2.2.1 p1 (fun v5 => brEQ v5 (-1) ((X1_copyFunction 4 6 V0.2.2.1 V0.1 V0.2.2.2.1 p1).bind (fun v6 => wrK 6 V0.2.2.2.2.1 p1 V0.2.2.2.1 (fun f8 => (X8_adapterNumber (V0.1, V0.2.1, v6, (V0.2.2.2.1 + 1), f8, V0.2.2.2.2.2.1, V0.2.2.2.2.2.2.1, V0.2.2.2.2.2.2.2.1, V0.2.2.2.2.2.2.2.2) p1).bind (fun v9 => some (v9, (V0.1, V0.2.1, v6, (V0.2.2.2.1 + 1), f8, V0.2.2.2.2.2.1, V0.2.2.2.2.2.2.1, V0.2.2.2.2.2.2.2.1, V0.2.2.2.2.2.2.2.2)))))) ((X8_adapterNumber V0 p1).bind (fun v11 => some (v11, V0))))))
set_option maxHeartbeats 4000000 in
set_option maxRecDepth 100000 in
theorem X8_provideAdapter_go (K : KE) (l : Launch) (a : Nat → Nat) (WC : va_W) {p : Program} {e : Env} {s : State} {m : MethodId} {args : Array Value} {below : List Frame} {meth : Method} {c : Code} (X : CX p s m args c K.1 vwCl (kT K) (va_A WC s.heap.size) cX8_provideAdapter 2 wsX8_provideAdapter RX8) (hr : meth.sig.returnType = (some .int)) (hlk : meth.locks = false) (V0 : St) (p1 : Int) (res : Int × St) (hf : X8_provideAdapter V0 p1 = some res) : GO p l e rmX8_provideAdapter s m args below meth c K.1 vwCl (va_A WC s.heap.size) (MQ below (QC K.1 vwCl (some (ii res.1)) WC (c8 K a res.2) s.heap.size) args s 0 0 (va_A WC s.heap.size)) 2 0 0 0 [(0, .ref (a 0)), (1, ii p1)] [] (c8 K a V0) := by
  rw [X8_provideAdapter] at hf
  refine g_iload_n X dX8_provideAdapter_0 1 rfl rfl ?_
  refine g_iconst X dX8_provideAdapter_1 ?_
  refine g_iconst X dX8_provideAdapter_2 ?_
  obtain ⟨v1, hc2, hf⟩ := Option.bind_eq_some_iff.mp hf
  refine g_callSN X (As := [ii p1, ii 0, ii 5]) (st := []) (st1 := [ii v1]) (ws' := c8 K a V0) (X9_within_ok K l p1 0 5 v1 hc2) ggX8_provideAdapter_X9_within ne_X8_provideAdapter_113 wd_X8_provideAdapter_ini9 wd_X8_provideAdapter_sta_X9_within rfl 3 (by decide +kernel) ⟨rfl, rfl⟩ ⟨Nat.le_of_ble_eq_true rfl, Nat.le_of_ble_eq_true rfl⟩ ⟨Nat.zero_le _, Nat.zero_le _⟩ rfl rfl (Nat.le_of_ble_eq_true rfl) dX8_provideAdapter_3 SG.none rfl ?_
  refine g_if_eq X hf 55 dX8_provideAdapter_6 (by decide) (fun hf => ?_) (fun hf => ?_)
  · refine g_aload_n X dX8_provideAdapter_55 0 rfl rfl ?_
    refine g_iload_n X dX8_provideAdapter_56 1 rfl rfl ?_
    obtain ⟨v3, hc4, hf⟩ := Option.bind_eq_some_iff.mp hf
    refine g_callV X (As := [ii p1]) (st := []) (st1 := [ii v3]) (ws' := c8 K a V0) (X8_adapterNumber_ok K l a V0 p1 v3 hc4) gX8_provideAdapter_X8_adapterNumber rfl 1 (by decide +kernel) ⟨rfl, rfl⟩ ⟨Nat.le_of_ble_eq_true rfl, Nat.le_of_ble_eq_true rfl⟩ ⟨Nat.zero_le _, Nat.zero_le _⟩ 0 rfl rfl rfl rfl (Nat.le_of_ble_eq_true rfl) dX8_provideAdapter_57 (SG.all rfl) rfl ?_
    cases hf
    exact g_iret X hr hlk dX8_provideAdapter_60
  · refine g_aload_n X dX8_provideAdapter_9 0 rfl rfl ?_
    refine g_get X (v := .ref (a 13)) 0 4 dX8_provideAdapter_10 rfl rfl iw_X8_provideAdapter_X8 (by decide) fl_X8_provideAdapter_30 rfl ?_
    refine g_iload_n X dX8_provideAdapter_13 1 rfl rfl ?_
    refine g_iald X hf (by decide) 13 0 dX8_provideAdapter_14 rfl rfl (fun v5 hf => ?_)
    refine g_iconst X dX8_provideAdapter_15 ?_
    refine g_icmp_ne X hf 55 dX8_provideAdapter_16 (by decide) (fun hf => ?_) (fun hf => ?_)
    · refine g_aload_n X dX8_provideAdapter_19 0 rfl rfl ?_
      refine g_get X (v := .ref (ash a 9 0)) 0 2 dX8_provideAdapter_20 rfl rfl iw_X8_provideAdapter_X8 (by decide) fl_X8_provideAdapter_23 rfl ?_
      refine g_aload_n X dX8_provideAdapter_23 0 rfl rfl ?_
      refine g_get X (v := ii V0.2.2.2.1) 0 3 dX8_provideAdapter_24 rfl rfl iw_X8_provideAdapter_X8 (by decide) fl_X8_provideAdapter_26 rfl ?_
      refine g_aload_n X dX8_provideAdapter_27 0 rfl rfl ?_
      refine g_get X (v := .ref (ash a 1 0)) 0 0 dX8_provideAdapter_28 rfl rfl iw_X8_provideAdapter_X8 (by decide) fl_X8_provideAdapter_14 rfl ?_
      refine g_iload_n X dX8_provideAdapter_31 1 rfl rfl ?_
      obtain ⟨v6, hc7, hf⟩ := Option.bind_eq_some_iff.mp hf
      refine g_callV X (As := [ii V0.2.2.2.1, .ref (ash a 1 0), ii p1]) (st := []) (st1 := []) (ws' := c8 K a (V0.1, V0.2.1, v6, V0.2.2.2.1, V0.2.2.2.2.1, V0.2.2.2.2.2.1, V0.2.2.2.2.2.2.1, V0.2.2.2.2.2.2.2.1, V0.2.2.2.2.2.2.2.2)) (X1_copyFunction_ok K l 4 6 (by decide) (by decide) (ash a 9) (ash a 1) V0.2.2.1 V0.1 V0.2.2.2.1 p1 v6 hc7) gX8_provideAdapter_X1_copyFunction rfl 3 (by decide +kernel) ⟨rfl, rfl⟩ ⟨Nat.le_of_ble_eq_true rfl, Nat.le_of_ble_eq_true rfl⟩ ⟨Nat.zero_le _, Nat.zero_le _⟩ 9 rfl rfl rfl rfl (Nat.le_of_ble_eq_true rfl) dX8_provideAdapter_32 (SG.swap rfl rfl (SG.two ([(a 0, .inr (8, [.ref (ash a 1 0), .ref (ash a 5 0), .ref (ash a 9 0), ii V0.2.2.2.1, .ref (a 13), ii V0.2.2.2.2.2.1, .ref (ash a 14 0), .ref (ash a 18 0), .ref (a 22)]))]) (c1 K 6 (ash a 5) V0.2.1) ([(a 13, .inl (K.2.1, 6, .inl (arI V0.2.2.2.2.1)))] ++ (c4 K (ash a 14) V0.2.2.2.2.2.2.1 ++ (c6 K (ash a 18) V0.2.2.2.2.2.2.2.1 ++ ([(a 22, .inl (K.2.1, 8, .inl (arI V0.2.2.2.2.2.2.2.2)))])))) rfl rfl rfl)) rfl ?_
      refine g_aload_n X dX8_provideAdapter_35 0 rfl rfl ?_
      refine g_get X (v := .ref (a 13)) 0 4 dX8_provideAdapter_36 rfl rfl iw_X8_provideAdapter_X8 (by decide) fl_X8_provideAdapter_30 rfl ?_
      refine g_iload_n X dX8_provideAdapter_39 1 rfl rfl ?_
      refine g_aload_n X dX8_provideAdapter_40 0 rfl rfl ?_
      refine g_get X (v := ii V0.2.2.2.1) 0 3 dX8_provideAdapter_41 rfl rfl iw_X8_provideAdapter_X8 (by decide) fl_X8_provideAdapter_26 rfl ?_
      refine g_iast X hf (by decide) 13 0 dX8_provideAdapter_44 rfl rfl (fun f8 => c8 K a (V0.1, V0.2.1, v6, V0.2.2.2.1, f8, V0.2.2.2.2.2.1, V0.2.2.2.2.2.2.1, V0.2.2.2.2.2.2.2.1, V0.2.2.2.2.2.2.2.2)) (fun _ => rfl) (fun f8 hf => ?_)
      refine g_aload_n X dX8_provideAdapter_45 0 rfl rfl ?_
      refine g_dup X dX8_provideAdapter_46 rfl ?_
      refine g_get X (v := ii V0.2.2.2.1) 0 3 dX8_provideAdapter_47 rfl rfl iw_X8_provideAdapter_X8 (by decide) fl_X8_provideAdapter_26 rfl ?_
      refine g_iconst X dX8_provideAdapter_50 ?_
      refine g_iadd X dX8_provideAdapter_51 ?_
      refine g_puti X 0 3 dX8_provideAdapter_52 rfl rfl iw_X8_provideAdapter_X8 tyX8_ok nmX8 (by decide) fl_X8_provideAdapter_26 rfl rfl (Nat.le_of_ble_eq_true rfl) (ws' := c8 K a (V0.1, V0.2.1, v6, (V0.2.2.2.1 + 1), f8, V0.2.2.2.2.2.1, V0.2.2.2.2.2.2.1, V0.2.2.2.2.2.2.2.1, V0.2.2.2.2.2.2.2.2)) rfl ?_
      refine g_aload_n X dX8_provideAdapter_55 0 rfl rfl ?_
      refine g_iload_n X dX8_provideAdapter_56 1 rfl rfl ?_
      obtain ⟨v9, hc10, hf⟩ := Option.bind_eq_some_iff.mp hf
      refine g_callV X (As := [ii p1]) (st := []) (st1 := [ii v9]) (ws' := c8 K a (V0.1, V0.2.1, v6, (V0.2.2.2.1 + 1), f8, V0.2.2.2.2.2.1, V0.2.2.2.2.2.2.1, V0.2.2.2.2.2.2.2.1, V0.2.2.2.2.2.2.2.2)) (X8_adapterNumber_ok K l a (V0.1, V0.2.1, v6, (V0.2.2.2.1 + 1), f8, V0.2.2.2.2.2.1, V0.2.2.2.2.2.2.1, V0.2.2.2.2.2.2.2.1, V0.2.2.2.2.2.2.2.2) p1 v9 hc10) gX8_provideAdapter_X8_adapterNumber rfl 1 (by decide +kernel) ⟨rfl, rfl⟩ ⟨Nat.le_of_ble_eq_true rfl, Nat.le_of_ble_eq_true rfl⟩ ⟨Nat.zero_le _, Nat.zero_le _⟩ 0 rfl rfl rfl rfl (Nat.le_of_ble_eq_true rfl) dX8_provideAdapter_57 (SG.all rfl) rfl ?_
      cases hf
      exact g_iret X hr hlk dX8_provideAdapter_60
    · refine g_aload_n X dX8_provideAdapter_55 0 rfl rfl ?_
      refine g_iload_n X dX8_provideAdapter_56 1 rfl rfl ?_
      obtain ⟨v11, hc12, hf⟩ := Option.bind_eq_some_iff.mp hf
      refine g_callV X (As := [ii p1]) (st := []) (st1 := [ii v11]) (ws' := c8 K a V0) (X8_adapterNumber_ok K l a V0 p1 v11 hc12) gX8_provideAdapter_X8_adapterNumber rfl 1 (by decide +kernel) ⟨rfl, rfl⟩ ⟨Nat.le_of_ble_eq_true rfl, Nat.le_of_ble_eq_true rfl⟩ ⟨Nat.zero_le _, Nat.zero_le _⟩ 0 rfl rfl rfl rfl (Nat.le_of_ble_eq_true rfl) dX8_provideAdapter_57 (SG.all rfl) rfl ?_
      cases hf
      exact g_iret X hr hlk dX8_provideAdapter_60
set_option maxHeartbeats 4000000 in
set_option maxRecDepth 100000 in
theorem X8_provideAdapter_ok (K : KE) (l : Launch) (a : Nat → Nat) (V0 : St) (p1 : Int) (res : Int × St) (hf : X8_provideAdapter V0 p1 = some res) : CT l K.1 vwCl (kT K) yX8_provideAdapter wsX8_provideAdapter rmX8_provideAdapter [.ref (a 0), ii p1] (some (ii res.1)) (c8 K a V0) (c8 K a res.2) :=
  CT.mk (cc := cX8_provideAdapter) (maxL := 2) (ret := (some .int)) (by decide) rfl (Nat.le_of_ble_eq_true rfl) (fun p e s m below meth c X hr hlk => X8_provideAdapter_go K l a _ X hr hlk V0 p1 res hf)
theorem iw_X5_adaptOrReason_X8 : ∀ w ∈ u_ws RX8 TX8 9, w ∈ wsX5_adaptOrReason := by decide +kernel
theorem fl_X5_adaptOrReason_86 : Cond.fieldLink RX5 86 (TX8 6).1 (TX8 6).2.1 (TX8 6).2.2.1 ∈ wsX5_adaptOrReason := by decide +kernel
theorem fl_X5_adaptOrReason_26 : Cond.fieldLink RX5 26 (TX8 7).1 (TX8 7).2.1 (TX8 7).2.2.1 ∈ wsX5_adaptOrReason := by decide +kernel
theorem iw_X5_adaptOrReason_X6 : ∀ w ∈ u_ws RX6 TX6 4, w ∈ wsX5_adaptOrReason := by decide +kernel
theorem fl_X5_adaptOrReason_39 : Cond.fieldLink RX5 39 (TX6 1).1 (TX6 1).2.1 (TX6 1).2.2.1 ∈ wsX5_adaptOrReason := by decide +kernel
theorem fl_X5_adaptOrReason_60 : Cond.fieldLink RX5 60 (TX6 2).1 (TX6 2).2.1 (TX6 2).2.2.1 ∈ wsX5_adaptOrReason := by decide +kernel
def rmX5_adaptOrReason : Room := { frames := 3, cells := 0, slots := 0, locals := 70 }
def X5_adaptOrReason (V0 : St) (V1 : Mv) (p2 : Int) (p3 : Int) : Option (Int × St) := (X8_canUseAdapter V0 p3).bind (fun v1 => brEQ v1 0 ((X4_targetOf V0.2.2.2.2.2.2.1 p3).bind (fun v3 => brEQ v3 (-1) (some (2, V0)) (some (3, V0)))) (wrK 30 V0.2.2.2.2.2.2.2.1.2.1 p2 4 (fun f5 => (X8_provideAdapter (V0.1, V0.2.1, V0.2.2.1, V0.2.2.2.1, V0.2.2.2.2.1, V0.2.2.2.2.2.1, V0.2.2.2.2.2.2.1, (V0.2.2.2.2.2.2.2.1.1, f5, V0.2.2.2.2.2.2.2.1.2.2.1, V0.2.2.2.2.2.2.2.1.2.2.2), V0.2.2.2.2.2.2.2.2) p3).bind (fun w6 => wrK 30 w6.2.2.2.2.2.2.2.2.1.2.2.1 p2 w6.1 (fun f8 => some (0, (w6.2.1, w6.2.2.1, w6.2.2.2.1, w6.2.2.2.2.1, w6.2.2.2.2.2.1, w6.2.2.2.2.2.2.1, w6.2.2.2.2.2.2.2.1, (w6.2.2.2.2.2.2.2.2.1.1, w6.2.2.2.2.2.2.2.2.1.2.1, f8, w6.2.2.2.2.2.2.2.2.1.2.2.2), w6.2.2.2.2.2.2.2.2.2)))))))
set_option maxHeartbeats 4000000 in
set_option maxRecDepth 100000 in
theorem X5_adaptOrReason_go (K : KE) (l : Launch) (a : Nat → Nat) (b : Nat → Nat) (WC : va_W) {p : Program} {e : Env} {s : State} {m : MethodId} {args : Array Value} {below : List Frame} {meth : Method} {c : Code} (X : CX p s m args c K.1 vwCl (kT K) (va_A WC s.heap.size) cX5_adaptOrReason 4 wsX5_adaptOrReason RX5) (hr : meth.sig.returnType = (some .int)) (hlk : meth.locks = false) (V0 : St) (V1 : Mv) (p2 : Int) (p3 : Int) (res : Int × St) (hf : X5_adaptOrReason V0 V1 p2 p3 = some res) : GO p l e rmX5_adaptOrReason s m args below meth c K.1 vwCl (va_A WC s.heap.size) (MQ below (QC K.1 vwCl (some (ii res.1)) WC (c8 K a res.2 ++ (c5 K b V1)) s.heap.size) args s 0 0 (va_A WC s.heap.size)) 4 0 0 0 [(0, .ref (b 0)), (1, .ref (a 0)), (2, ii p2), (3, ii p3)] [] (c8 K a V0 ++ (c5 K b V1)) := by
  rw [X5_adaptOrReason] at hf
  refine g_aload_n X dX5_adaptOrReason_0 1 rfl rfl ?_
  refine g_iload_n X dX5_adaptOrReason_1 3 rfl rfl ?_
  obtain ⟨v1, hc2, hf⟩ := Option.bind_eq_some_iff.mp hf
  refine g_callV X (As := [ii p3]) (st := []) (st1 := [ii v1]) (ws' := c8 K a V0 ++ (c5 K b V1)) (X8_canUseAdapter_ok K l a V0 p3 v1 hc2) gX5_adaptOrReason_X8_canUseAdapter rfl 1 (by decide +kernel) ⟨rfl, rfl⟩ ⟨Nat.le_of_ble_eq_true rfl, Nat.le_of_ble_eq_true rfl⟩ ⟨Nat.zero_le _, Nat.zero_le _⟩ 0 rfl rfl rfl rfl (Nat.le_of_ble_eq_true rfl) dX5_adaptOrReason_2 (SG.one [] (c5 K b V1) rfl rfl rfl) rfl ?_
  refine g_if_eq X hf 34 dX5_adaptOrReason_5 (by decide) (fun hf => ?_) (fun hf => ?_)
  · refine g_aload_n X dX5_adaptOrReason_34 1 rfl rfl ?_
    refine g_get X (v := .ref (ash a 14 0)) 0 6 dX5_adaptOrReason_35 rfl rfl iw_X5_adaptOrReason_X8 (by decide) fl_X5_adaptOrReason_86 rfl ?_
    refine g_iload_n X dX5_adaptOrReason_38 3 rfl rfl ?_
    obtain ⟨v3, hc4, hf⟩ := Option.bind_eq_some_iff.mp hf
    refine g_callV X (As := [ii p3]) (st := []) (st1 := [ii v3]) (ws' := c8 K a V0 ++ (c5 K b V1)) (X4_targetOf_ok K l (ash a 14) V0.2.2.2.2.2.2.1 p3 v3 hc4) gX5_adaptOrReason_X4_targetOf rfl 1 (by decide +kernel) ⟨rfl, rfl⟩ ⟨Nat.le_of_ble_eq_true rfl, Nat.le_of_ble_eq_true rfl⟩ ⟨Nat.zero_le _, Nat.zero_le _⟩ 14 rfl rfl rfl rfl (Nat.le_of_ble_eq_true rfl) dX5_adaptOrReason_39 (SG.one ([(a 0, .inr (8, [.ref (ash a 1 0), .ref (ash a 5 0), .ref (ash a 9 0), ii V0.2.2.2.1, .ref (a 13), ii V0.2.2.2.2.2.1, .ref (ash a 14 0), .ref (ash a 18 0), .ref (a 22)]))] ++ (c1 K 6 (ash a 1) V0.1 ++ (c1 K 6 (ash a 5) V0.2.1 ++ (c1 K 4 (ash a 9) V0.2.2.1 ++ ([(a 13, .inl (K.2.1, 6, .inl (arI V0.2.2.2.2.1)))]))))) (c6 K (ash a 18) V0.2.2.2.2.2.2.2.1 ++ ([(a 22, .inl (K.2.1, 8, .inl (arI V0.2.2.2.2.2.2.2.2)))] ++ (c5 K b V1))) rfl rfl rfl) rfl ?_
    refine g_iconst X dX5_adaptOrReason_42 ?_
    refine g_icmp_ne X hf 50 dX5_adaptOrReason_43 (by decide) (fun hf => ?_) (fun hf => ?_)
    · refine g_iconst X dX5_adaptOrReason_46 ?_
      refine g_goto X 51 dX5_adaptOrReason_47 (by decide) ?_
      cases hf
      exact g_iret X hr hlk dX5_adaptOrReason_51
    · refine g_iconst X dX5_adaptOrReason_50 ?_
      cases hf
      exact g_iret X hr hlk dX5_adaptOrReason_51
  · refine g_aload_n X dX5_adaptOrReason_8 1 rfl rfl ?_
    refine g_get X (v := .ref (ash a 18 0)) 0 7 dX5_adaptOrReason_9 rfl rfl iw_X5_adaptOrReason_X8 (by decide) fl_X5_adaptOrReason_26 rfl ?_
    refine g_get X (v := .ref (ash a 18 1)) 18 1 dX5_adaptOrReason_12 rfl rfl iw_X5_adaptOrReason_X6 (by decide) fl_X5_adaptOrReason_39 rfl ?_
    refine g_iload_n X dX5_adaptOrReason_15 2 rfl rfl ?_
    refine g_iconst X dX5_adaptOrReason_16 ?_
    refine g_iast X hf (by decide) 19 0 dX5_adaptOrReason_17 rfl rfl (fun f5 => c8 K a (V0.1, V0.2.1, V0.2.2.1, V0.2.2.2.1, V0.2.2.2.2.1, V0.2.2.2.2.2.1, V0.2.2.2.2.2.2.1, (V0.2.2.2.2.2.2.2.1.1, f5, V0.2.2.2.2.2.2.2.1.2.2.1, V0.2.2.2.2.2.2.2.1.2.2.2), V0.2.2.2.2.2.2.2.2) ++ (c5 K b V1)) (fun _ => rfl) (fun f5 hf => ?_)
    refine g_aload_n X dX5_adaptOrReason_18 1 rfl rfl ?_
    refine g_get X (v := .ref (ash a 18 0)) 0 7 dX5_adaptOrReason_19 rfl rfl iw_X5_adaptOrReason_X8 (by decide) fl_X5_adaptOrReason_26 rfl ?_
    refine g_get X (v := .ref (ash a 18 2)) 18 2 dX5_adaptOrReason_22 rfl rfl iw_X5_adaptOrReason_X6 (by decide) fl_X5_adaptOrReason_60 rfl ?_
    refine g_iload_n X dX5_adaptOrReason_25 2 rfl rfl ?_
    refine g_aload_n X dX5_adaptOrReason_26 1 rfl rfl ?_
    refine g_iload_n X dX5_adaptOrReason_27 3 rfl rfl ?_
    obtain ⟨w6, hc7, hf⟩ := Option.bind_eq_some_iff.mp hf
    refine g_callV X (As := [ii p3]) (st := [ii p2, .ref (ash a 18 2)]) (st1 := [ii w6.1, ii p2, .ref (ash a 18 2)]) (ws' := c8 K a w6.2 ++ (c5 K b V1)) (X8_provideAdapter_ok K l a (V0.1, V0.2.1, V0.2.2.1, V0.2.2.2.1, V0.2.2.2.2.1, V0.2.2.2.2.2.1, V0.2.2.2.2.2.2.1, (V0.2.2.2.2.2.2.2.1.1, f5, V0.2.2.2.2.2.2.2.1.2.2.1, V0.2.2.2.2.2.2.2.1.2.2.2), V0.2.2.2.2.2.2.2.2) p3 w6 hc7) gX5_adaptOrReason_X8_provideAdapter rfl 1 (by decide +kernel) ⟨rfl, rfl⟩ ⟨Nat.le_of_ble_eq_true rfl, Nat.le_of_ble_eq_true rfl⟩ ⟨Nat.zero_le _, Nat.zero_le _⟩ 0 rfl rfl rfl rfl (Nat.le_of_ble_eq_true rfl) dX5_adaptOrReason_28 (SG.one [] (c5 K b V1) rfl rfl rfl) rfl ?_
    refine g_iast X hf (by decide) 20 0 dX5_adaptOrReason_31 rfl rfl (fun f8 => c8 K a (w6.2.1, w6.2.2.1, w6.2.2.2.1, w6.2.2.2.2.1, w6.2.2.2.2.2.1, w6.2.2.2.2.2.2.1, w6.2.2.2.2.2.2.2.1, (w6.2.2.2.2.2.2.2.2.1.1, w6.2.2.2.2.2.2.2.2.1.2.1, f8, w6.2.2.2.2.2.2.2.2.1.2.2.2), w6.2.2.2.2.2.2.2.2.2) ++ (c5 K b V1)) (fun _ => rfl) (fun f8 hf => ?_)
    refine g_iconst X dX5_adaptOrReason_32 ?_
    cases hf
    exact g_iret X hr hlk dX5_adaptOrReason_33
set_option maxHeartbeats 4000000 in
set_option maxRecDepth 100000 in
theorem X5_adaptOrReason_ok (K : KE) (l : Launch) (a : Nat → Nat) (b : Nat → Nat) (V0 : St) (V1 : Mv) (p2 : Int) (p3 : Int) (res : Int × St) (hf : X5_adaptOrReason V0 V1 p2 p3 = some res) : CT l K.1 vwCl (kT K) yX5_adaptOrReason wsX5_adaptOrReason rmX5_adaptOrReason [.ref (b 0), .ref (a 0), ii p2, ii p3] (some (ii res.1)) (c8 K a V0 ++ (c5 K b V1)) (c8 K a res.2 ++ (c5 K b V1)) :=
  CT.mk (cc := cX5_adaptOrReason) (maxL := 4) (ret := (some .int)) (by decide) rfl (Nat.le_of_ble_eq_true rfl) (fun p e s m below meth c X hr hlk => X5_adaptOrReason_go K l a b _ X hr hlk V0 V1 p2 p3 res hf)
theorem iw_X6_endOf_X6 : ∀ w ∈ u_ws RX6 TX6 4, w ∈ wsX6_endOf := by decide +kernel
theorem fl_X6_endOf_9 : Cond.fieldLink RX6 9 (TX6 0).1 (TX6 0).2.1 (TX6 0).2.2.1 ∈ wsX6_endOf := by decide +kernel
theorem ne_X6_endOf_35 : (RX6, 35, yX9_within) ∈ nestL := by decide +kernel
theorem wd_X6_endOf_ini9 : Cond.initialized yX9_within.cls ∈ wsX6_endOf := by decide +kernel
theorem wd_X6_endOf_sta_X9_within : Cond.static yX9_within ∈ wsX6_endOf := by decide +kernel
theorem fl_X6_endOf_22 : Cond.fieldLink RX6 22 (TX6 3).1 (TX6 3).2.1 (TX6 3).2.2.1 ∈ wsX6_endOf := by decide +kernel
def rmX6_endOf : Room := { frames := 1, cells := 0, slots := 0, locals := 22 }
def X6_endOf_L4 (kx : Int → Option (Int)) (V0 : Pg) : Nat → Int → Int → Option (Int)
  | 0, _, _ => none
  | n + 1, y2, y3 => brLE y2 0 (kx y3) ((X9_within y3 0 (V0.1 - 1)).bind (fun v1 => brEQ v1 0 (kx y3) (rdK 30 V0.2.2.2 y3 (fun v3 => X6_endOf_L4 kx V0 n (y2 + (v3 - 1)) (y3 + 1)))))
def X6_endOf (V0 : Pg) (p1 : Int) : Option (Int) := X6_endOf_L4 (fun w4 => some w4) V0 FU 1 p1
set_option maxHeartbeats 4000000 in
set_option maxRecDepth 100000 in
theorem X6_endOf_L4_ok (K : KE) (l : Launch) (a : Nat → Nat) (WC : va_W) {p : Program} {e : Env} {s : State} {m : MethodId} {args : Array Value} {below : List Frame} {meth : Method} {c : Code} (X : CX p s m args c K.1 vwCl (kT K) (va_A WC s.heap.size) cX6_endOf 4 wsX6_endOf RX6) (hr : meth.sig.returnType = (some .int)) (hlk : meth.locks = false) (V0 : Pg)  (res : Int) {kx : Int → Option (Int)} : ∀ (n : Nat) (y2 : Int) (y3 : Int), X6_endOf_L4 kx V0 n y2 y3 = some res → (∀ (z3 : Int), kx z3 = some res → GO p l e rmX6_endOf s m args below meth c K.1 vwCl (va_A WC s.heap.size) (MQ below (QC K.1 vwCl (some (ii res)) WC (c6 K a V0) s.heap.size) args s 0 0 (va_A WC s.heap.size)) 4 0 0 39 [(3, ii z3)] [] (c6 K a V0)) → GO p l e rmX6_endOf s m args below meth c K.1 vwCl (va_A WC s.heap.size) (MQ below (QC K.1 vwCl (some (ii res)) WC (c6 K a V0) s.heap.size) args s 0 0 (va_A WC s.heap.size)) 4 0 0 4 [(0, .ref (a 0)), (2, ii y2), (3, ii y3)] [] (c6 K a V0) := by
  intro n
  induction n with
  | zero =>
    intro y2 y3 hf _
    rw [X6_endOf_L4] at hf
    cases hf
  | succ n ih =>
    intro y2 y3 hf hk
    rw [X6_endOf_L4] at hf
    refine g_iload_n X dX6_endOf_4 1 rfl rfl ?_
    refine g_if_le X hf 39 dX6_endOf_5 (by decide) (fun hf => ?_) (fun hf => ?_)
    · refine g_sub (lv' := [(3, ii y3)]) [2] rfl ?_
      exact hk y3 hf
    · refine g_iload_n X dX6_endOf_8 2 rfl rfl ?_
      refine g_iconst X dX6_endOf_9 ?_
      refine g_aload_n X dX6_endOf_10 0 rfl rfl ?_
      refine g_get X (v := ii V0.1) 0 0 dX6_endOf_11 rfl rfl iw_X6_endOf_X6 (by decide) fl_X6_endOf_9 rfl ?_
      refine g_iconst X dX6_endOf_14 ?_
      refine g_isub X dX6_endOf_15 ?_
      obtain ⟨v1, hc2, hf⟩ := Option.bind_eq_some_iff.mp hf
      refine g_callSN X (As := [ii y3, ii 0, ii (V0.1 - 1)]) (st := []) (st1 := [ii v1]) (ws' := c6 K a V0) (X9_within_ok K l y3 0 (V0.1 - 1) v1 hc2) ggX6_endOf_X9_within ne_X6_endOf_35 wd_X6_endOf_ini9 wd_X6_endOf_sta_X9_within rfl 3 (by decide +kernel) ⟨rfl, rfl⟩ ⟨Nat.le_of_ble_eq_true rfl, Nat.le_of_ble_eq_true rfl⟩ ⟨Nat.zero_le _, Nat.zero_le _⟩ rfl rfl (Nat.le_of_ble_eq_true rfl) dX6_endOf_16 SG.none rfl ?_
      refine g_if_eq X hf 39 dX6_endOf_19 (by decide) (fun hf => ?_) (fun hf => ?_)
      · refine g_sub (lv' := [(3, ii y3)]) [2] rfl ?_
        exact hk y3 hf
      · refine g_iload_n X dX6_endOf_22 1 rfl rfl ?_
        refine g_aload_n X dX6_endOf_23 0 rfl rfl ?_
        refine g_get X (v := .ref (a 3)) 0 3 dX6_endOf_24 rfl rfl iw_X6_endOf_X6 (by decide) fl_X6_endOf_22 rfl ?_
        refine g_iload_n X dX6_endOf_27 2 rfl rfl ?_
        refine g_iald X hf (by decide) 3 0 dX6_endOf_28 rfl rfl (fun v3 hf => ?_)
        refine g_iconst X dX6_endOf_29 ?_
        refine g_isub X dX6_endOf_30 ?_
        refine g_iadd X dX6_endOf_31 ?_
        refine g_istore_n X (lv' := [(2, ii (y2 + (v3 - 1))), (0, .ref (a 0)), (3, ii y3)]) dX6_endOf_32 rfl (by decide) rfl ?_
        refine g_iinc X (lv' := [(3, ii (y3 + 1)), (2, ii (y2 + (v3 - 1))), (0, .ref (a 0))]) dX6_endOf_33 2 rfl (by decide) rfl ?_
        refine g_goto X 4 dX6_endOf_36 (by decide) ?_
        refine g_sub (lv' := [(0, .ref (a 0)), (2, ii (y2 + (v3 - 1))), (3, ii (y3 + 1))]) [2, 1, 0] rfl ?_
        exact ih (y2 + (v3 - 1)) (y3 + 1) hf hk
set_option maxHeartbeats 4000000 in
set_option maxRecDepth 100000 in
theorem X6_endOf_go (K : KE) (l : Launch) (a : Nat → Nat) (WC : va_W) {p : Program} {e : Env} {s : State} {m : MethodId} {args : Array Value} {below : List Frame} {meth : Method} {c : Code} (X : CX p s m args c K.1 vwCl (kT K) (va_A WC s.heap.size) cX6_endOf 4 wsX6_endOf RX6) (hr : meth.sig.returnType = (some .int)) (hlk : meth.locks = false) (V0 : Pg) (p1 : Int) (res : Int) (hf : X6_endOf V0 p1 = some res) : GO p l e rmX6_endOf s m args below meth c K.1 vwCl (va_A WC s.heap.size) (MQ below (QC K.1 vwCl (some (ii res)) WC (c6 K a V0) s.heap.size) args s 0 0 (va_A WC s.heap.size)) 4 0 0 0 [(0, .ref (a 0)), (1, ii p1)] [] (c6 K a V0) := by
  rw [X6_endOf] at hf
  refine g_iconst X dX6_endOf_0 ?_
  refine g_istore_n X (lv' := [(2, ii 1), (0, .ref (a 0)), (1, ii p1)]) dX6_endOf_1 rfl (by decide) rfl ?_
  refine g_iload_n X dX6_endOf_2 2 rfl rfl ?_
  refine g_istore_n X (lv' := [(3, ii p1), (2, ii 1), (0, .ref (a 0)), (1, ii p1)]) dX6_endOf_3 rfl (by decide) rfl ?_
  refine g_sub (lv' := [(0, .ref (a 0)), (2, ii 1), (3, ii p1)]) [2, 1, 0] rfl ?_
  refine X6_endOf_L4_ok K l a WC X hr hlk V0 res FU 1 p1 hf (fun w4 hf => ?_)
  refine g_iload_n X dX6_endOf_39 0 rfl rfl ?_
  cases hf
  exact g_iret X hr hlk dX6_endOf_40
set_option maxHeartbeats 4000000 in
set_option maxRecDepth 100000 in
theorem X6_endOf_ok (K : KE) (l : Launch) (a : Nat → Nat) (V0 : Pg) (p1 : Int) (res : Int) (hf : X6_endOf V0 p1 = some res) : CT l K.1 vwCl (kT K) yX6_endOf wsX6_endOf rmX6_endOf [.ref (a 0), ii p1] (some (ii res)) (c6 K a V0) (c6 K a V0) :=
  CT.mk (cc := cX6_endOf) (maxL := 4) (ret := (some .int)) (by decide) rfl (Nat.le_of_ble_eq_true rfl) (fun p e s m below meth c X hr hlk => X6_endOf_go K l a _ X hr hlk V0 p1 res hf)
def rmX9_isCall : Room := { frames := 0, cells := 0, slots := 0, locals := 0 }
def X9_isCall (p0 : Int) : Option (Int) := brEQ p0 2 (some 1) (brEQ p0 3 (some 1) (brEQ p0 4 (some 1) (some 0)))
set_option maxHeartbeats 4000000 in
set_option maxRecDepth 100000 in
theorem X9_isCall_go (K : KE) (l : Launch) (WC : va_W) {p : Program} {e : Env} {s : State} {m : MethodId} {args : Array Value} {below : List Frame} {meth : Method} {c : Code} (X : CX p s m args c K.1 vwCl (kT K) (va_A WC s.heap.size) cX9_isCall 1 wsX9_isCall RX9) (hr : meth.sig.returnType = (some .boolean)) (hlk : meth.locks = false) (p0 : Int) (res : Int) (hf : X9_isCall p0 = some res) : GO p l e rmX9_isCall s m args below meth c K.1 vwCl (va_A WC s.heap.size) (MQ below (QC K.1 vwCl (some (ii res)) WC ([]) s.heap.size) args s 0 0 (va_A WC s.heap.size)) 1 0 0 0 [(0, ii p0)] [] ([]) := by
  rw [X9_isCall] at hf
  refine g_iload_n X dX9_isCall_0 0 rfl rfl ?_
  refine g_iconst X dX9_isCall_1 ?_
  refine g_icmp_eq X hf 15 dX9_isCall_2 (by decide) (fun hf => ?_) (fun hf => ?_)
  · refine g_iconst X dX9_isCall_15 ?_
    refine g_goto X 20 dX9_isCall_16 (by decide) ?_
    cases hf
    exact g_zret X (Or.inr rfl) hr hlk dX9_isCall_20
  · refine g_iload_n X dX9_isCall_5 0 rfl rfl ?_
    refine g_iconst X dX9_isCall_6 ?_
    refine g_icmp_eq X hf 15 dX9_isCall_7 (by decide) (fun hf => ?_) (fun hf => ?_)
    · refine g_iconst X dX9_isCall_15 ?_
      refine g_goto X 20 dX9_isCall_16 (by decide) ?_
      cases hf
      exact g_zret X (Or.inr rfl) hr hlk dX9_isCall_20
    · refine g_iload_n X dX9_isCall_10 0 rfl rfl ?_
      refine g_iconst X dX9_isCall_11 ?_
      refine g_icmp_ne X hf 19 dX9_isCall_12 (by decide) (fun hf => ?_) (fun hf => ?_)
      · refine g_iconst X dX9_isCall_15 ?_
        refine g_goto X 20 dX9_isCall_16 (by decide) ?_
        cases hf
        exact g_zret X (Or.inr rfl) hr hlk dX9_isCall_20
      · refine g_iconst X dX9_isCall_19 ?_
        cases hf
        exact g_zret X (Or.inl rfl) hr hlk dX9_isCall_20
set_option maxHeartbeats 4000000 in
set_option maxRecDepth 100000 in
theorem X9_isCall_ok (K : KE) (l : Launch) (p0 : Int) (res : Int) (hf : X9_isCall p0 = some res) : CT l K.1 vwCl (kT K) yX9_isCall wsX9_isCall rmX9_isCall [ii p0] (some (ii res)) ([]) ([]) :=
  CT.mk (cc := cX9_isCall) (maxL := 1) (ret := (some .boolean)) (by decide) rfl (Nat.le_of_ble_eq_true rfl) (fun p e s m below meth c X hr hlk => X9_isCall_go K l  _ X hr hlk p0 res hf)
theorem iw_X1_effectOf_X1 : ∀ w ∈ u_ws RX1 TX1 4, w ∈ wsX1_effectOf := by decide +kernel
theorem fl_X1_effectOf_15 : Cond.fieldLink RX1 15 (TX1 0).1 (TX1 0).2.1 (TX1 0).2.2.1 ∈ wsX1_effectOf := by decide +kernel
theorem ne_X1_effectOf_37 : (RX1, 37, yX9_within) ∈ nestL := by decide +kernel
theorem wd_X1_effectOf_ini9 : Cond.initialized yX9_within.cls ∈ wsX1_effectOf := by decide +kernel
theorem wd_X1_effectOf_sta_X9_within : Cond.static yX9_within ∈ wsX1_effectOf := by decide +kernel
theorem fl_X1_effectOf_25 : Cond.fieldLink RX1 25 (TX1 2).1 (TX1 2).2.1 (TX1 2).2.2.1 ∈ wsX1_effectOf := by decide +kernel
def rmX1_effectOf : Room := { frames := 1, cells := 0, slots := 0, locals := 22 }
def X1_effectOf (cn0 : Nat) (V0 : FT) (p1 : Int) : Option (Int) := (X9_within p1 0 ((cn0 : Int) - 1)).bind (fun v1 => brEQ v1 0 (some 0) (rdK cn0 V0.2.1 p1 (fun v3 => some v3)))
set_option maxHeartbeats 4000000 in
set_option maxRecDepth 100000 in
theorem X1_effectOf_go (K : KE) (l : Launch) (cn0 : Nat) (hcn0 : cn0 ≤ 1000) (a : Nat → Nat) (WC : va_W) {p : Program} {e : Env} {s : State} {m : MethodId} {args : Array Value} {below : List Frame} {meth : Method} {c : Code} (X : CX p s m args c K.1 vwCl (kT K) (va_A WC s.heap.size) cX1_effectOf 2 wsX1_effectOf RX1) (hr : meth.sig.returnType = (some .int)) (hlk : meth.locks = false) (V0 : FT) (p1 : Int) (res : Int) (hf : X1_effectOf cn0 V0 p1 = some res) : GO p l e rmX1_effectOf s m args below meth c K.1 vwCl (va_A WC s.heap.size) (MQ below (QC K.1 vwCl (some (ii res)) WC (c1 K cn0 a V0) s.heap.size) args s 0 0 (va_A WC s.heap.size)) 2 0 0 0 [(0, .ref (a 0)), (1, ii p1)] [] (c1 K cn0 a V0) := by
  rw [X1_effectOf] at hf
  refine g_iload_n X dX1_effectOf_0 1 rfl rfl ?_
  refine g_iconst X dX1_effectOf_1 ?_
  refine g_aload_n X dX1_effectOf_2 0 rfl rfl ?_
  refine g_get X (v := ii (cn0 : Int)) 0 0 dX1_effectOf_3 rfl rfl iw_X1_effectOf_X1 (by decide) fl_X1_effectOf_15 rfl ?_
  refine g_iconst X dX1_effectOf_6 ?_
  refine g_isub X dX1_effectOf_7 ?_
  obtain ⟨v1, hc2, hf⟩ := Option.bind_eq_some_iff.mp hf
  refine g_callSN X (As := [ii p1, ii 0, ii ((cn0 : Int) - 1)]) (st := []) (st1 := [ii v1]) (ws' := c1 K cn0 a V0) (X9_within_ok K l p1 0 ((cn0 : Int) - 1) v1 hc2) ggX1_effectOf_X9_within ne_X1_effectOf_37 wd_X1_effectOf_ini9 wd_X1_effectOf_sta_X9_within rfl 3 (by decide +kernel) ⟨rfl, rfl⟩ ⟨Nat.le_of_ble_eq_true rfl, Nat.le_of_ble_eq_true rfl⟩ ⟨Nat.zero_le _, Nat.zero_le _⟩ rfl rfl (Nat.le_of_ble_eq_true rfl) dX1_effectOf_8 SG.none rfl ?_
  refine g_if_eq X hf 23 dX1_effectOf_11 (by decide) (fun hf => ?_) (fun hf => ?_)
  · refine g_iconst X dX1_effectOf_23 ?_
    cases hf
    exact g_iret X hr hlk dX1_effectOf_24
  · refine g_aload_n X dX1_effectOf_14 0 rfl rfl ?_
    refine g_get X (v := .ref (a 2)) 0 2 dX1_effectOf_15 rfl rfl iw_X1_effectOf_X1 (by decide) fl_X1_effectOf_25 rfl ?_
    refine g_iload_n X dX1_effectOf_18 1 rfl rfl ?_
    refine g_iald X hf (by omega) 2 0 dX1_effectOf_19 rfl rfl (fun v3 hf => ?_)
    refine g_goto X 24 dX1_effectOf_20 (by decide) ?_
    cases hf
    exact g_iret X hr hlk dX1_effectOf_24
set_option maxHeartbeats 4000000 in
set_option maxRecDepth 100000 in
theorem X1_effectOf_ok (K : KE) (l : Launch) (cn0 : Nat) (hcn0 : cn0 ≤ 1000) (a : Nat → Nat) (V0 : FT) (p1 : Int) (res : Int) (hf : X1_effectOf cn0 V0 p1 = some res) : CT l K.1 vwCl (kT K) yX1_effectOf wsX1_effectOf rmX1_effectOf [.ref (a 0), ii p1] (some (ii res)) (c1 K cn0 a V0) (c1 K cn0 a V0) :=
  CT.mk (cc := cX1_effectOf) (maxL := 2) (ret := (some .int)) (by decide) rfl (Nat.le_of_ble_eq_true rfl) (fun p e s m below meth c X hr hlk => X1_effectOf_go K l cn0 hcn0 a _ X hr hlk V0 p1 res hf)
theorem wd_X8_hasEffect_ml120 : Cond.methodLink RX8 120 Lib.Math.max.name ∈ wsX8_hasEffect := by decide +kernel
theorem wd_X8_hasEffect_ms120 : Cond.static Lib.Math.max.name ∈ wsX8_hasEffect := by decide +kernel
theorem wd_X8_hasEffect_mi120 : Cond.initialized "java/lang/Math" ∈ wsX8_hasEffect := by decide +kernel
theorem wd_X8_hasEffect_mc120 : Cond.code Lib.Math.max.name Lib.Math.max.code 2 (some .int) ∈ wsX8_hasEffect := by decide +kernel
theorem iw_X8_hasEffect_X8 : ∀ w ∈ u_ws RX8 TX8 9, w ∈ wsX8_hasEffect := by decide +kernel
theorem fl_X8_hasEffect_47 : Cond.fieldLink RX8 47 (TX8 7).1 (TX8 7).2.1 (TX8 7).2.2.1 ∈ wsX8_hasEffect := by decide +kernel
theorem iw_X8_hasEffect_X6 : ∀ w ∈ u_ws RX6 TX6 4, w ∈ wsX8_hasEffect := by decide +kernel
theorem fl_X8_hasEffect_125 : Cond.fieldLink RX8 125 (TX6 0).1 (TX6 0).2.1 (TX6 0).2.2.1 ∈ wsX8_hasEffect := by decide +kernel
theorem fl_X8_hasEffect_128 : Cond.fieldLink RX8 128 (TX6 1).1 (TX6 1).2.1 (TX6 1).2.2.1 ∈ wsX8_hasEffect := by decide +kernel
theorem ne_X8_hasEffect_131 : (RX8, 131, yX9_isCall) ∈ nestL := by decide +kernel
theorem wd_X8_hasEffect_ini9 : Cond.initialized yX9_isCall.cls ∈ wsX8_hasEffect := by decide +kernel
theorem wd_X8_hasEffect_sta_X9_isCall : Cond.static yX9_isCall ∈ wsX8_hasEffect := by decide +kernel
theorem fl_X8_hasEffect_139 : Cond.fieldLink RX8 139 (TX6 2).1 (TX6 2).2.1 (TX6 2).2.2.1 ∈ wsX8_hasEffect := by decide +kernel
def rmX8_hasEffect : Room := { frames := 2, cells := 0, slots := 0, locals := 43 }
def X8_hasEffect_L6 (kx : Option (Int)) (V0 : St) (x2 : Int) : Nat → Int → Option (Int)
  | 0, _ => none
  | n + 1, y3 => brLT y3 x2 (brLT y3 V0.2.2.2.2.2.2.2.1.1 (rdK 30 V0.2.2.2.2.2.2.2.1.2.1 y3 (fun v2 => (X9_isCall v2).bind (fun v3 => ltK (fun q5 : Unit => X8_hasEffect_L6 kx V0 x2 n (y3 + 1)) (fun j6 => brEQ v3 0 (j6 ()) ((X8_tableOf V0 v2).bind (fun v7 => sel3 v7 (rdK 30 V0.2.2.2.2.2.2.2.1.2.2.1 y3 (fun v9 => (X1_effectOf 6 V0.1 v9).bind (fun v10 => brEQ v10 1 (kx) (j6 ())))) (rdK 30 V0.2.2.2.2.2.2.2.1.2.2.1 y3 (fun v12 => (X1_effectOf 6 V0.2.1 v12).bind (fun v13 => brEQ v13 1 (kx) (j6 ())))) (rdK 30 V0.2.2.2.2.2.2.2.1.2.2.1 y3 (fun v15 => (X1_effectOf 4 V0.2.2.1 v15).bind (fun v16 => brEQ v16 1 (kx) (j6 ())))))))))) (some 0)) (some 0)
def X8_hasEffect (V0 : St) (p1 : Int) (p2 : Int) : Option (Int) := mxK p1 0 (fun v1 => X8_hasEffect_L6 (some 1) V0 p2 FU v1)
set_option maxHeartbeats 4000000 in
set_option maxRecDepth 100000 in
theorem X8_hasEffect_L6_ok (K : KE) (l : Launch) (a : Nat → Nat) (WC : va_W) {p : Program} {e : Env} {s : State} {m : MethodId} {args : Array Value} {below : List Frame} {meth : Method} {c : Code} (X : CX p s m args c K.1 vwCl (kT K) (va_A WC s.heap.size) cX8_hasEffect 5 wsX8_hasEffect RX8) (hr : meth.sig.returnType = (some .boolean)) (hlk : meth.locks = false) (V0 : St) (x2 : Int) (res : Int) {kx : Option (Int)} : ∀ (n : Nat) (y3 : Int), X8_hasEffect_L6 kx V0 x2 n y3 = some res → (kx = some res → GO p l e rmX8_hasEffect s m args below meth c K.1 vwCl (va_A WC s.heap.size) (MQ below (QC K.1 vwCl (some (ii res)) WC (c8 K a V0) s.heap.size) args s 0 0 (va_A WC s.heap.size)) 5 0 0 63 [] [] (c8 K a V0)) → GO p l e rmX8_hasEffect s m args below meth c K.1 vwCl (va_A WC s.heap.size) (MQ below (QC K.1 vwCl (some (ii res)) WC (c8 K a V0) s.heap.size) args s 0 0 (va_A WC s.heap.size)) 5 0 0 6 [(0, .ref (a 0)), (2, ii x2), (3, ii y3)] [] (c8 K a V0) := by
  intro n
  induction n with
  | zero =>
    intro y3 hf _
    rw [X8_hasEffect_L6] at hf
    cases hf
  | succ n ih =>
    intro y3 hf hk
    rw [X8_hasEffect_L6] at hf
    refine g_iload_n X dX8_hasEffect_6 2 rfl rfl ?_
    refine g_iload_n X dX8_hasEffect_7 1 rfl rfl ?_
    refine g_icmp_ge X hf 71 dX8_hasEffect_8 (by decide) (fun hf => ?_) (fun hf => ?_)
    · refine g_iload_n X dX8_hasEffect_11 2 rfl rfl ?_
      refine g_aload_n X dX8_hasEffect_12 0 rfl rfl ?_
      refine g_get X (v := .ref (ash a 18 0)) 0 7 dX8_hasEffect_13 rfl rfl iw_X8_hasEffect_X8 (by decide) fl_X8_hasEffect_47 rfl ?_
      refine g_get X (v := ii V0.2.2.2.2.2.2.2.1.1) 18 0 dX8_hasEffect_16 rfl rfl iw_X8_hasEffect_X6 (by decide) fl_X8_hasEffect_125 rfl ?_
      refine g_icmp_ge X hf 71 dX8_hasEffect_19 (by decide) (fun hf => ?_) (fun hf => ?_)
      · refine g_aload_n X dX8_hasEffect_22 0 rfl rfl ?_
        refine g_get X (v := .ref (ash a 18 0)) 0 7 dX8_hasEffect_23 rfl rfl iw_X8_hasEffect_X8 (by decide) fl_X8_hasEffect_47 rfl ?_
        refine g_get X (v := .ref (ash a 18 1)) 18 1 dX8_hasEffect_26 rfl rfl iw_X8_hasEffect_X6 (by decide) fl_X8_hasEffect_128 rfl ?_
        refine g_iload_n X dX8_hasEffect_29 2 rfl rfl ?_
        refine g_iald X hf (by decide) 19 0 dX8_hasEffect_30 rfl rfl (fun v2 hf => ?_)
        refine g_istore X (lv' := [(4, ii v2), (0, .ref (a 0)), (2, ii x2), (3, ii y3)]) dX8_hasEffect_31 (by decide) rfl ?_
        refine g_iload X dX8_hasEffect_33 0 rfl ?_
        obtain ⟨v3, hc4, hf⟩ := Option.bind_eq_some_iff.mp hf
        refine g_callSN X (As := [ii v2]) (st := []) (st1 := [ii v3]) (ws' := c8 K a V0) (X9_isCall_ok K l v2 v3 hc4) ggX8_hasEffect_X9_isCall ne_X8_hasEffect_131 wd_X8_hasEffect_ini9 wd_X8_hasEffect_sta_X9_isCall rfl 1 (by decide +kernel) ⟨rfl, rfl⟩ ⟨Nat.le_of_ble_eq_true rfl, Nat.le_of_ble_eq_true rfl⟩ ⟨Nat.zero_le _, Nat.zero_le _⟩ rfl rfl (Nat.le_of_ble_eq_true rfl) dX8_hasEffect_35 SG.none rfl ?_
        refine g_let (G := fun q5 : Unit => GO p l e rmX8_hasEffect s m args below meth c K.1 vwCl (va_A WC s.heap.size) (MQ below (QC K.1 vwCl (some (ii res)) WC (c8 K a V0) s.heap.size) args s 0 0 (va_A WC s.heap.size)) 5 0 0 65 [(0, .ref (a 0)), (2, ii x2), (3, ii y3)] [] (c8 K a V0)) hf (fun q5 hf => ?_) (fun j6 hj6 hf => ?_)
        · refine g_iinc X (lv' := [(3, ii (y3 + 1)), (0, .ref (a 0)), (2, ii x2)]) dX8_hasEffect_65 2 rfl (by decide) rfl ?_
          refine g_goto X 6 dX8_hasEffect_68 (by decide) ?_
          refine g_sub (lv' := [(0, .ref (a 0)), (2, ii x2), (3, ii (y3 + 1))]) [1, 2, 0] rfl ?_
          exact ih (y3 + 1) hf hk
        · refine g_if_eq X hf 65 dX8_hasEffect_38 (by decide) (fun hf => ?_) (fun hf => ?_)
          · refine g_sub (lv' := [(0, .ref (a 0)), (2, ii x2), (3, ii y3)]) [1, 2, 3] rfl ?_
            exact hj6 () hf
          · refine g_aload_n X dX8_hasEffect_41 1 rfl rfl ?_
            refine g_iload X dX8_hasEffect_42 0 rfl ?_
            obtain ⟨v7, hc8, hf⟩ := Option.bind_eq_some_iff.mp hf
            refine g_callV X (As := [ii v2]) (st := []) (st1 := [.ref (tbA a v7)]) (ws' := c8 K a V0) (X8_tableOf_ok K l a V0 v2 v7 hc8) gX8_hasEffect_X8_tableOf rfl 1 (by decide +kernel) ⟨rfl, rfl⟩ ⟨Nat.le_of_ble_eq_true rfl, Nat.le_of_ble_eq_true rfl⟩ ⟨Nat.zero_le _, Nat.zero_le _⟩ 0 rfl rfl rfl rfl (Nat.le_of_ble_eq_true rfl) dX8_hasEffect_44 (SG.all rfl) rfl ?_
            replace hf := sel3_some hf
            rcases hf with ⟨hv, hf⟩ | ⟨hv, hf⟩ | ⟨hv, hf⟩
            · subst hv
              refine g_stk (st' := [.ref (ash a 1 0)]) rfl ?_
              refine g_aload_n X dX8_hasEffect_47 1 rfl rfl ?_
              refine g_get X (v := .ref (ash a 18 0)) 0 7 dX8_hasEffect_48 rfl rfl iw_X8_hasEffect_X8 (by decide) fl_X8_hasEffect_47 rfl ?_
              refine g_get X (v := .ref (ash a 18 2)) 18 2 dX8_hasEffect_51 rfl rfl iw_X8_hasEffect_X6 (by decide) fl_X8_hasEffect_139 rfl ?_
              refine g_iload_n X dX8_hasEffect_54 3 rfl rfl ?_
              refine g_iald X hf (by decide) 20 0 dX8_hasEffect_55 rfl rfl (fun v9 hf => ?_)
              obtain ⟨v10, hc11, hf⟩ := Option.bind_eq_some_iff.mp hf
              refine g_callV X (As := [ii v9]) (st := []) (st1 := [ii v10]) (ws' := c8 K a V0) (X1_effectOf_ok K l 6 (by decide) (ash a 1) V0.1 v9 v10 hc11) gX8_hasEffect_X1_effectOf rfl 1 (by decide +kernel) ⟨rfl, rfl⟩ ⟨Nat.le_of_ble_eq_true rfl, Nat.le_of_ble_eq_true rfl⟩ ⟨Nat.zero_le _, Nat.zero_le _⟩ 1 rfl rfl rfl rfl (Nat.le_of_ble_eq_true rfl) dX8_hasEffect_56 (SG.one ([(a 0, .inr (8, [.ref (ash a 1 0), .ref (ash a 5 0), .ref (ash a 9 0), ii V0.2.2.2.1, .ref (a 13), ii V0.2.2.2.2.2.1, .ref (ash a 14 0), .ref (ash a 18 0), .ref (a 22)]))]) (c1 K 6 (ash a 5) V0.2.1 ++ (c1 K 4 (ash a 9) V0.2.2.1 ++ ([(a 13, .inl (K.2.1, 6, .inl (arI V0.2.2.2.2.1)))] ++ (c4 K (ash a 14) V0.2.2.2.2.2.2.1 ++ (c6 K (ash a 18) V0.2.2.2.2.2.2.2.1 ++ ([(a 22, .inl (K.2.1, 8, .inl (arI V0.2.2.2.2.2.2.2.2)))])))))) rfl rfl rfl) rfl ?_
              refine g_iconst X dX8_hasEffect_59 ?_
              refine g_icmp_ne X hf 65 dX8_hasEffect_60 (by decide) (fun hf => ?_) (fun hf => ?_)
              · refine g_sub (lv' := []) [] rfl ?_
                exact hk hf
              · refine g_sub (lv' := [(0, .ref (a 0)), (2, ii x2), (3, ii y3)]) [1, 2, 3] rfl ?_
                exact hj6 () hf
            · subst hv
              refine g_stk (st' := [.ref (ash a 5 0)]) rfl ?_
              refine g_aload_n X dX8_hasEffect_47 1 rfl rfl ?_
              refine g_get X (v := .ref (ash a 18 0)) 0 7 dX8_hasEffect_48 rfl rfl iw_X8_hasEffect_X8 (by decide) fl_X8_hasEffect_47 rfl ?_
              refine g_get X (v := .ref (ash a 18 2)) 18 2 dX8_hasEffect_51 rfl rfl iw_X8_hasEffect_X6 (by decide) fl_X8_hasEffect_139 rfl ?_
              refine g_iload_n X dX8_hasEffect_54 3 rfl rfl ?_
              refine g_iald X hf (by decide) 20 0 dX8_hasEffect_55 rfl rfl (fun v12 hf => ?_)
              obtain ⟨v13, hc14, hf⟩ := Option.bind_eq_some_iff.mp hf
              refine g_callV X (As := [ii v12]) (st := []) (st1 := [ii v13]) (ws' := c8 K a V0) (X1_effectOf_ok K l 6 (by decide) (ash a 5) V0.2.1 v12 v13 hc14) gX8_hasEffect_X1_effectOf rfl 1 (by decide +kernel) ⟨rfl, rfl⟩ ⟨Nat.le_of_ble_eq_true rfl, Nat.le_of_ble_eq_true rfl⟩ ⟨Nat.zero_le _, Nat.zero_le _⟩ 5 rfl rfl rfl rfl (Nat.le_of_ble_eq_true rfl) dX8_hasEffect_56 (SG.one ([(a 0, .inr (8, [.ref (ash a 1 0), .ref (ash a 5 0), .ref (ash a 9 0), ii V0.2.2.2.1, .ref (a 13), ii V0.2.2.2.2.2.1, .ref (ash a 14 0), .ref (ash a 18 0), .ref (a 22)]))] ++ (c1 K 6 (ash a 1) V0.1)) (c1 K 4 (ash a 9) V0.2.2.1 ++ ([(a 13, .inl (K.2.1, 6, .inl (arI V0.2.2.2.2.1)))] ++ (c4 K (ash a 14) V0.2.2.2.2.2.2.1 ++ (c6 K (ash a 18) V0.2.2.2.2.2.2.2.1 ++ ([(a 22, .inl (K.2.1, 8, .inl (arI V0.2.2.2.2.2.2.2.2)))]))))) rfl rfl rfl) rfl ?_
              refine g_iconst X dX8_hasEffect_59 ?_
              refine g_icmp_ne X hf 65 dX8_hasEffect_60 (by decide) (fun hf => ?_) (fun hf => ?_)
              · refine g_sub (lv' := []) [] rfl ?_
                exact hk hf
              · refine g_sub (lv' := [(0, .ref (a 0)), (2, ii x2), (3, ii y3)]) [1, 2, 3] rfl ?_
                exact hj6 () hf
            · subst hv
              refine g_stk (st' := [.ref (ash a 9 0)]) rfl ?_
              refine g_aload_n X dX8_hasEffect_47 1 rfl rfl ?_
              refine g_get X (v := .ref (ash a 18 0)) 0 7 dX8_hasEffect_48 rfl rfl iw_X8_hasEffect_X8 (by decide) fl_X8_hasEffect_47 rfl ?_
              refine g_get X (v := .ref (ash a 18 2)) 18 2 dX8_hasEffect_51 rfl rfl iw_X8_hasEffect_X6 (by decide) fl_X8_hasEffect_139 rfl ?_
              refine g_iload_n X dX8_hasEffect_54 3 rfl rfl ?_
              refine g_iald X hf (by decide) 20 0 dX8_hasEffect_55 rfl rfl (fun v15 hf => ?_)
              obtain ⟨v16, hc17, hf⟩ := Option.bind_eq_some_iff.mp hf
              refine g_callV X (As := [ii v15]) (st := []) (st1 := [ii v16]) (ws' := c8 K a V0) (X1_effectOf_ok K l 4 (by decide) (ash a 9) V0.2.2.1 v15 v16 hc17) gX8_hasEffect_X1_effectOf rfl 1 (by decide +kernel) ⟨rfl, rfl⟩ ⟨Nat.le_of_ble_eq_true rfl, Nat.le_of_ble_eq_true rfl⟩ ⟨Nat.zero_le _, Nat.zero_le _⟩ 9 rfl rfl rfl rfl (Nat.le_of_ble_eq_true rfl) dX8_hasEffect_56 (SG.one ([(a 0, .inr (8, [.ref (ash a 1 0), .ref (ash a 5 0), .ref (ash a 9 0), ii V0.2.2.2.1, .ref (a 13), ii V0.2.2.2.2.2.1, .ref (ash a 14 0), .ref (ash a 18 0), .ref (a 22)]))] ++ (c1 K 6 (ash a 1) V0.1 ++ (c1 K 6 (ash a 5) V0.2.1))) ([(a 13, .inl (K.2.1, 6, .inl (arI V0.2.2.2.2.1)))] ++ (c4 K (ash a 14) V0.2.2.2.2.2.2.1 ++ (c6 K (ash a 18) V0.2.2.2.2.2.2.2.1 ++ ([(a 22, .inl (K.2.1, 8, .inl (arI V0.2.2.2.2.2.2.2.2)))])))) rfl rfl rfl) rfl ?_
              refine g_iconst X dX8_hasEffect_59 ?_
              refine g_icmp_ne X hf 65 dX8_hasEffect_60 (by decide) (fun hf => ?_) (fun hf => ?_)
              · refine g_sub (lv' := []) [] rfl ?_
                exact hk hf
              · refine g_sub (lv' := [(0, .ref (a 0)), (2, ii x2), (3, ii y3)]) [1, 2, 3] rfl ?_
                exact hj6 () hf
      · refine g_iconst X dX8_hasEffect_71 ?_
        cases hf
        exact g_zret X (Or.inl rfl) hr hlk dX8_hasEffect_72
    · refine g_iconst X dX8_hasEffect_71 ?_
      cases hf
      exact g_zret X (Or.inl rfl) hr hlk dX8_hasEffect_72
set_option maxHeartbeats 4000000 in
set_option maxRecDepth 100000 in
theorem X8_hasEffect_go (K : KE) (l : Launch) (a : Nat → Nat) (WC : va_W) {p : Program} {e : Env} {s : State} {m : MethodId} {args : Array Value} {below : List Frame} {meth : Method} {c : Code} (X : CX p s m args c K.1 vwCl (kT K) (va_A WC s.heap.size) cX8_hasEffect 5 wsX8_hasEffect RX8) (hr : meth.sig.returnType = (some .boolean)) (hlk : meth.locks = false) (V0 : St) (p1 : Int) (p2 : Int) (res : Int) (hf : X8_hasEffect V0 p1 p2 = some res) : GO p l e rmX8_hasEffect s m args below meth c K.1 vwCl (va_A WC s.heap.size) (MQ below (QC K.1 vwCl (some (ii res)) WC (c8 K a V0) s.heap.size) args s 0 0 (va_A WC s.heap.size)) 5 0 0 0 [(0, .ref (a 0)), (1, ii p1), (2, ii p2)] [] (c8 K a V0) := by
  rw [X8_hasEffect] at hf
  refine g_iload_n X dX8_hasEffect_0 1 rfl rfl ?_
  refine g_iconst X dX8_hasEffect_1 ?_
  refine g_mmax X hf wd_X8_hasEffect_ml120 wd_X8_hasEffect_ms120 wd_X8_hasEffect_mi120 wd_X8_hasEffect_mc120 ⟨Nat.le_of_ble_eq_true rfl, Nat.le_of_ble_eq_true rfl, Nat.zero_le _, Nat.zero_le _⟩ dX8_hasEffect_2 (fun v1 hf => ?_)
  refine g_istore_n X (lv' := [(3, ii v1), (0, .ref (a 0)), (1, ii p1), (2, ii p2)]) dX8_hasEffect_5 rfl (by decide) rfl ?_
  refine g_sub (lv' := [(0, .ref (a 0)), (2, ii p2), (3, ii v1)]) [1, 3, 0] rfl ?_
  refine X8_hasEffect_L6_ok K l a WC X hr hlk V0 p2 res FU v1 hf (fun hf => ?_)
  refine g_iconst X dX8_hasEffect_63 ?_
  cases hf
  exact g_zret X (Or.inr rfl) hr hlk dX8_hasEffect_64
set_option maxHeartbeats 4000000 in
set_option maxRecDepth 100000 in
theorem X8_hasEffect_ok (K : KE) (l : Launch) (a : Nat → Nat) (V0 : St) (p1 : Int) (p2 : Int) (res : Int) (hf : X8_hasEffect V0 p1 p2 = some res) : CT l K.1 vwCl (kT K) yX8_hasEffect wsX8_hasEffect rmX8_hasEffect [.ref (a 0), ii p1, ii p2] (some (ii res)) (c8 K a V0) (c8 K a V0) :=
  CT.mk (cc := cX8_hasEffect) (maxL := 5) (ret := (some .boolean)) (by decide) rfl (Nat.le_of_ble_eq_true rfl) (fun p e s m below meth c X hr hlk => X8_hasEffect_go K l a _ X hr hlk V0 p1 p2 res hf)
theorem iw_X5_findArguments_X8 : ∀ w ∈ u_ws RX8 TX8 9, w ∈ wsX5_findArguments := by decide +kernel
theorem fl_X5_findArguments_26 : Cond.fieldLink RX5 26 (TX8 7).1 (TX8 7).2.1 (TX8 7).2.2.1 ∈ wsX5_findArguments := by decide +kernel
theorem iw_X5_findArguments_X6 : ∀ w ∈ u_ws RX6 TX6 4, w ∈ wsX5_findArguments := by decide +kernel
theorem fl_X5_findArguments_53 : Cond.fieldLink RX5 53 (TX6 3).1 (TX6 3).2.1 (TX6 3).2.2.1 ∈ wsX5_findArguments := by decide +kernel
theorem wd_X5_findArguments_ml113 : Cond.methodLink RX5 113 Lib.Math.min.name ∈ wsX5_findArguments := by decide +kernel
theorem wd_X5_findArguments_ms113 : Cond.static Lib.Math.min.name ∈ wsX5_findArguments := by decide +kernel
theorem wd_X5_findArguments_mi113 : Cond.initialized "java/lang/Math" ∈ wsX5_findArguments := by decide +kernel
theorem wd_X5_findArguments_mc113 : Cond.code Lib.Math.min.name Lib.Math.min.code 2 (some .int) ∈ wsX5_findArguments := by decide +kernel
theorem iw_X5_findArguments_X5 : ∀ w ∈ u_ws RX5 TX5 3, w ∈ wsX5_findArguments := by decide +kernel
theorem fl_X5_findArguments_18 : Cond.fieldLink RX5 18 (TX5 1).1 (TX5 1).2.1 (TX5 1).2.2.1 ∈ wsX5_findArguments := by decide +kernel
theorem fl_X5_findArguments_22 : Cond.fieldLink RX5 22 (TX5 2).1 (TX5 2).2.1 (TX5 2).2.2.1 ∈ wsX5_findArguments := by decide +kernel
def rmX5_findArguments : Room := { frames := 3, cells := 0, slots := 0, locals := 67 }
def X5_findArguments_L26 (kx : Mv → Option (Mv)) (V0 : St) (x3 : Int) : Nat → Int → Mv → Option (Mv)
  | 0, _, _ => none
  | n + 1, y4, V1 => brLT y4 x3 (rdK 4 V1.2.1 y4 (fun v4 => (X6_endOf V0.2.2.2.2.2.2.2.1 v4).bind (fun v5 => wrK 4 V1.2.1 (y4 + 1) v5 (fun f7 => rdK 4 f7 y4 (fun v8 => rdK 4 f7 (y4 + 1) (fun v9 => (X8_hasEffect V0 v8 v9).bind (fun v10 => boK v10 (wrK 3 V1.2.2 y4 v10 (fun f12 => X5_findArguments_L26 kx V0 x3 n (y4 + 1) (V1.1, f7, f12)))))))))) (kx V1)
def X5_findArguments (V0 : St) (V1 : Mv) (p2 : Int) : Option (Mv) := rdK 30 V0.2.2.2.2.2.2.2.1.2.2.2 p2 (fun v1 => mnK v1 3 (fun v2 => wrK 4 V1.2.1 0 (p2 + 1) (fun f3 => X5_findArguments_L26 (fun w13 => some w13) V0 v2 FU 0 (V1.1, f3, V1.2.2))))
set_option maxHeartbeats 4000000 in
set_option maxRecDepth 100000 in
theorem X5_findArguments_L26_ok (K : KE) (l : Launch) (a : Nat → Nat) (b : Nat → Nat) (WC : va_W) {p : Program} {e : Env} {s : State} {m : MethodId} {args : Array Value} {below : List Frame} {meth : Method} {c : Code} (X : CX p s m args c K.1 vwCl (kT K) (va_A WC s.heap.size) cX5_findArguments 5 wsX5_findArguments RX5) (hr : meth.sig.returnType = none) (hlk : meth.locks = false) (V0 : St) (x3 : Int) (res : Mv) {kx : Mv → Option (Mv)} : ∀ (n : Nat) (y4 : Int) (V1 : Mv), X5_findArguments_L26 kx V0 x3 n y4 V1 = some res → (∀ (V1z : Mv), kx V1z = some res → GO p l e rmX5_findArguments s m args below meth c K.1 vwCl (va_A WC s.heap.size) (MQ below (QC K.1 vwCl none WC (c8 K a V0 ++ (c5 K b res)) s.heap.size) args s 0 0 (va_A WC s.heap.size)) 5 0 0 88 [] [] (c8 K a V0 ++ (c5 K b V1z))) → GO p l e rmX5_findArguments s m args below meth c K.1 vwCl (va_A WC s.heap.size) (MQ below (QC K.1 vwCl none WC (c8 K a V0 ++ (c5 K b res)) s.heap.size) args s 0 0 (va_A WC s.heap.size)) 5 0 0 26 [(0, .ref (b 0)), (1, .ref (a 0)), (3, ii x3), (4, ii y4)] [] (c8 K a V0 ++ (c5 K b V1)) := by
  intro n
  induction n with
  | zero =>
    intro y4 V1 hf _
    rw [X5_findArguments_L26] at hf
    cases hf
  | succ n ih =>
    intro y4 V1 hf hk
    rw [X5_findArguments_L26] at hf
    refine g_iload X dX5_findArguments_26 3 rfl ?_
    refine g_iload_n X dX5_findArguments_28 2 rfl rfl ?_
    refine g_icmp_ge X hf 88 dX5_findArguments_29 (by decide) (fun hf => ?_) (fun hf => ?_)
    · refine g_aload_n X dX5_findArguments_32 0 rfl rfl ?_
      refine g_get X (v := .ref (b 5)) 23 1 dX5_findArguments_33 rfl rfl iw_X5_findArguments_X5 (by decide) fl_X5_findArguments_18 rfl ?_
      refine g_iload X dX5_findArguments_36 3 rfl ?_
      refine g_iconst X dX5_findArguments_38 ?_
      refine g_iadd X dX5_findArguments_39 ?_
      refine g_aload_n X dX5_findArguments_40 1 rfl rfl ?_
      refine g_get X (v := .ref (ash a 18 0)) 0 7 dX5_findArguments_41 rfl rfl iw_X5_findArguments_X8 (by decide) fl_X5_findArguments_26 rfl ?_
      refine g_aload_n X dX5_findArguments_44 0 rfl rfl ?_
      refine g_get X (v := .ref (b 5)) 23 1 dX5_findArguments_45 rfl rfl iw_X5_findArguments_X5 (by decide) fl_X5_findArguments_18 rfl ?_
      refine g_iload X dX5_findArguments_48 3 rfl ?_
      refine g_iald X hf (by decide) 28 0 dX5_findArguments_50 rfl rfl (fun v4 hf => ?_)
      obtain ⟨v5, hc6, hf⟩ := Option.bind_eq_some_iff.mp hf
      refine g_callV X (As := [ii v4]) (st := [ii (y4 + 1), .ref (b 5)]) (st1 := [ii v5, ii (y4 + 1), .ref (b 5)]) (ws' := c8 K a V0 ++ (c5 K b V1)) (X6_endOf_ok K l (ash a 18) V0.2.2.2.2.2.2.2.1 v4 v5 hc6) gX5_findArguments_X6_endOf rfl 1 (by decide +kernel) ⟨rfl, rfl⟩ ⟨Nat.le_of_ble_eq_true rfl, Nat.le_of_ble_eq_true rfl⟩ ⟨Nat.zero_le _, Nat.zero_le _⟩ 18 rfl rfl rfl rfl (Nat.le_of_ble_eq_true rfl) dX5_findArguments_51 (SG.one ([(a 0, .inr (8, [.ref (ash a 1 0), .ref (ash a 5 0), .ref (ash a 9 0), ii V0.2.2.2.1, .ref (a 13), ii V0.2.2.2.2.2.1, .ref (ash a 14 0), .ref (ash a 18 0), .ref (a 22)]))] ++ (c1 K 6 (ash a 1) V0.1 ++ (c1 K 6 (ash a 5) V0.2.1 ++ (c1 K 4 (ash a 9) V0.2.2.1 ++ ([(a 13, .inl (K.2.1, 6, .inl (arI V0.2.2.2.2.1)))] ++ (c4 K (ash a 14) V0.2.2.2.2.2.2.1)))))) ([(a 22, .inl (K.2.1, 8, .inl (arI V0.2.2.2.2.2.2.2.2)))] ++ (c5 K b V1)) rfl rfl rfl) rfl ?_
      refine g_iast X hf (by decide) 28 0 dX5_findArguments_54 rfl rfl (fun f7 => c8 K a V0 ++ (c5 K b (V1.1, f7, V1.2.2))) (fun _ => rfl) (fun f7 hf => ?_)
      refine g_aload_n X dX5_findArguments_55 0 rfl rfl ?_
      refine g_get X (v := .ref (b 6)) 23 2 dX5_findArguments_56 rfl rfl iw_X5_findArguments_X5 (by decide) fl_X5_findArguments_22 rfl ?_
      refine g_iload X dX5_findArguments_59 3 rfl ?_
      refine g_aload_n X dX5_findArguments_61 1 rfl rfl ?_
      refine g_aload_n X dX5_findArguments_62 0 rfl rfl ?_
      refine g_get X (v := .ref (b 5)) 23 1 dX5_findArguments_63 rfl rfl iw_X5_findArguments_X5 (by decide) fl_X5_findArguments_18 rfl ?_
      refine g_iload X dX5_findArguments_66 3 rfl ?_
      refine g_iald X hf (by decide) 28 0 dX5_findArguments_68 rfl rfl (fun v8 hf => ?_)
      refine g_aload_n X dX5_findArguments_69 0 rfl rfl ?_
      refine g_get X (v := .ref (b 5)) 23 1 dX5_findArguments_70 rfl rfl iw_X5_findArguments_X5 (by decide) fl_X5_findArguments_18 rfl ?_
      refine g_iload X dX5_findArguments_73 3 rfl ?_
      refine g_iconst X dX5_findArguments_75 ?_
      refine g_iadd X dX5_findArguments_76 ?_
      refine g_iald X hf (by decide) 28 0 dX5_findArguments_77 rfl rfl (fun v9 hf => ?_)
      obtain ⟨v10, hc11, hf⟩ := Option.bind_eq_some_iff.mp hf
      refine g_callV X (As := [ii v8, ii v9]) (st := [ii y4, .ref (b 6)]) (st1 := [ii v10, ii y4, .ref (b 6)]) (ws' := c8 K a V0 ++ (c5 K b (V1.1, f7, V1.2.2))) (X8_hasEffect_ok K l a V0 v8 v9 v10 hc11) gX5_findArguments_X8_hasEffect rfl 2 (by decide +kernel) ⟨rfl, rfl⟩ ⟨Nat.le_of_ble_eq_true rfl, Nat.le_of_ble_eq_true rfl⟩ ⟨Nat.zero_le _, Nat.zero_le _⟩ 0 rfl rfl rfl rfl (Nat.le_of_ble_eq_true rfl) dX5_findArguments_78 (SG.one [] (c5 K b (V1.1, f7, V1.2.2)) rfl rfl rfl) rfl ?_
      refine g_zast X hf (by decide) 29 1 dX5_findArguments_81 rfl rfl (fun f12 => c8 K a V0 ++ (c5 K b (V1.1, f7, f12))) (fun _ => rfl) (fun f12 hf => ?_)
      refine g_iinc X (lv' := [(4, ii (y4 + 1)), (0, .ref (b 0)), (1, .ref (a 0)), (3, ii x3)]) dX5_findArguments_82 3 rfl (by decide) rfl ?_
      refine g_goto X 26 dX5_findArguments_85 (by decide) ?_
      refine g_sub (lv' := [(0, .ref (b 0)), (1, .ref (a 0)), (3, ii x3), (4, ii (y4 + 1))]) [1, 2, 3, 0] rfl ?_
      exact ih (y4 + 1) (V1.1, f7, f12) hf hk
    · refine g_sub (lv' := []) [] rfl ?_
      exact hk V1 hf
set_option maxHeartbeats 4000000 in
set_option maxRecDepth 100000 in
theorem X5_findArguments_go (K : KE) (l : Launch) (a : Nat → Nat) (b : Nat → Nat) (WC : va_W) {p : Program} {e : Env} {s : State} {m : MethodId} {args : Array Value} {below : List Frame} {meth : Method} {c : Code} (X : CX p s m args c K.1 vwCl (kT K) (va_A WC s.heap.size) cX5_findArguments 5 wsX5_findArguments RX5) (hr : meth.sig.returnType = none) (hlk : meth.locks = false) (V0 : St) (V1 : Mv) (p2 : Int) (res : Mv) (hf : X5_findArguments V0 V1 p2 = some res) : GO p l e rmX5_findArguments s m args below meth c K.1 vwCl (va_A WC s.heap.size) (MQ below (QC K.1 vwCl none WC (c8 K a V0 ++ (c5 K b res)) s.heap.size) args s 0 0 (va_A WC s.heap.size)) 5 0 0 0 [(0, .ref (b 0)), (1, .ref (a 0)), (2, ii p2)] [] (c8 K a V0 ++ (c5 K b V1)) := by
  rw [X5_findArguments] at hf
  refine g_aload_n X dX5_findArguments_0 1 rfl rfl ?_
  refine g_get X (v := .ref (ash a 18 0)) 0 7 dX5_findArguments_1 rfl rfl iw_X5_findArguments_X8 (by decide) fl_X5_findArguments_26 rfl ?_
  refine g_get X (v := .ref (ash a 18 3)) 18 3 dX5_findArguments_4 rfl rfl iw_X5_findArguments_X6 (by decide) fl_X5_findArguments_53 rfl ?_
  refine g_iload_n X dX5_findArguments_7 2 rfl rfl ?_
  refine g_iald X hf (by decide) 21 0 dX5_findArguments_8 rfl rfl (fun v1 hf => ?_)
  refine g_iconst X dX5_findArguments_9 ?_
  refine g_mmin X hf wd_X5_findArguments_ml113 wd_X5_findArguments_ms113 wd_X5_findArguments_mi113 wd_X5_findArguments_mc113 ⟨Nat.le_of_ble_eq_true rfl, Nat.le_of_ble_eq_true rfl, Nat.zero_le _, Nat.zero_le _⟩ dX5_findArguments_10 (fun v2 hf => ?_)
  refine g_istore_n X (lv' := [(3, ii v2), (0, .ref (b 0)), (1, .ref (a 0)), (2, ii p2)]) dX5_findArguments_13 rfl (by decide) rfl ?_
  refine g_aload_n X dX5_findArguments_14 1 rfl rfl ?_
  refine g_get X (v := .ref (b 5)) 23 1 dX5_findArguments_15 rfl rfl iw_X5_findArguments_X5 (by decide) fl_X5_findArguments_18 rfl ?_
  refine g_iconst X dX5_findArguments_18 ?_
  refine g_iload_n X dX5_findArguments_19 3 rfl rfl ?_
  refine g_iconst X dX5_findArguments_20 ?_
  refine g_iadd X dX5_findArguments_21 ?_
  refine g_iast X hf (by decide) 28 0 dX5_findArguments_22 rfl rfl (fun f3 => c8 K a V0 ++ (c5 K b (V1.1, f3, V1.2.2))) (fun _ => rfl) (fun f3 hf => ?_)
  refine g_iconst X dX5_findArguments_23 ?_
  refine g_istore X (lv' := [(4, ii 0), (3, ii v2), (0, .ref (b 0)), (1, .ref (a 0)), (2, ii p2)]) dX5_findArguments_24 (by decide) rfl ?_
  refine g_sub (lv' := [(0, .ref (b 0)), (1, .ref (a 0)), (3, ii v2), (4, ii 0)]) [2, 3, 1, 0] rfl ?_
  refine X5_findArguments_L26_ok K l a b WC X hr hlk V0 v2 res FU 0 (V1.1, f3, V1.2.2) hf (fun w13 hf => ?_)
  cases hf
  exact g_vret X hr hlk dX5_findArguments_88
set_option maxHeartbeats 4000000 in
set_option maxRecDepth 100000 in
theorem X5_findArguments_ok (K : KE) (l : Launch) (a : Nat → Nat) (b : Nat → Nat) (V0 : St) (V1 : Mv) (p2 : Int) (res : Mv) (hf : X5_findArguments V0 V1 p2 = some res) : CT l K.1 vwCl (kT K) yX5_findArguments wsX5_findArguments rmX5_findArguments [.ref (b 0), .ref (a 0), ii p2] none (c8 K a V0 ++ (c5 K b V1)) (c8 K a V0 ++ (c5 K b res)) :=
  CT.mk (cc := cX5_findArguments) (maxL := 5) (ret := none) (by decide) rfl (Nat.le_of_ble_eq_true rfl) (fun p e s m below meth c X hr hlk => X5_findArguments_go K l a b _ X hr hlk V0 V1 p2 res hf)
def rmX5_countUses : Room := { frames := 2, cells := 0, slots := 0, locals := 45 }
def X5_countUses_L6 (kx : Int → Option (Int)) (V0 : Mp) (x1 : Int) (x2 : Int) (x3 : Int) : Nat → Int → Int → Option (Int)
  | 0, _, _ => none
  | n + 1, y4, y5 => brLT y5 x2 ((X4_sourceAt V0 x1 y5).bind (fun v1 => ltK (fun q3 : Int => X5_countUses_L6 kx V0 x1 x2 x3 n q3 (y5 + 1)) (fun j4 => brEQ v1 x3 (j4 (y4 + 1)) (j4 y4)))) (kx y4)
def X5_countUses (V0 : Mp) (p1 : Int) (p2 : Int) (p3 : Int) : Option (Int) := X5_countUses_L6 (fun w5 => some w5) V0 p1 p2 p3 FU 0 0
set_option maxHeartbeats 4000000 in
set_option maxRecDepth 100000 in
theorem X5_countUses_L6_ok (K : KE) (l : Launch) (a : Nat → Nat) (WC : va_W) {p : Program} {e : Env} {s : State} {m : MethodId} {args : Array Value} {below : List Frame} {meth : Method} {c : Code} (X : CX p s m args c K.1 vwCl (kT K) (va_A WC s.heap.size) cX5_countUses 6 wsX5_countUses RX5) (hr : meth.sig.returnType = (some .int)) (hlk : meth.locks = false) (V0 : Mp) (x1 : Int) (x2 : Int) (x3 : Int) (res : Int) {kx : Int → Option (Int)} : ∀ (n : Nat) (y4 : Int) (y5 : Int), X5_countUses_L6 kx V0 x1 x2 x3 n y4 y5 = some res → (∀ (z4 : Int), kx z4 = some res → GO p l e rmX5_countUses s m args below meth c K.1 vwCl (va_A WC s.heap.size) (MQ below (QC K.1 vwCl (some (ii res)) WC (c4 K a V0) s.heap.size) args s 0 0 (va_A WC s.heap.size)) 6 0 0 32 [(4, ii z4)] [] (c4 K a V0)) → GO p l e rmX5_countUses s m args below meth c K.1 vwCl (va_A WC s.heap.size) (MQ below (QC K.1 vwCl (some (ii res)) WC (c4 K a V0) s.heap.size) args s 0 0 (va_A WC s.heap.size)) 6 0 0 6 [(0, .ref (a 0)), (1, ii x1), (2, ii x2), (3, ii x3), (4, ii y4), (5, ii y5)] [] (c4 K a V0) := by
  intro n
  induction n with
  | zero =>
    intro y4 y5 hf _
    rw [X5_countUses_L6] at hf
    cases hf
  | succ n ih =>
    intro y4 y5 hf hk
    rw [X5_countUses_L6] at hf
    refine g_iload X dX5_countUses_6 5 rfl ?_
    refine g_iload_n X dX5_countUses_8 2 rfl rfl ?_
    refine g_icmp_ge X hf 32 dX5_countUses_9 (by decide) (fun hf => ?_) (fun hf => ?_)
    · refine g_aload_n X dX5_countUses_12 0 rfl rfl ?_
      refine g_iload_n X dX5_countUses_13 1 rfl rfl ?_
      refine g_iload X dX5_countUses_14 5 rfl ?_
      obtain ⟨v1, hc2, hf⟩ := Option.bind_eq_some_iff.mp hf
      refine g_callV X (As := [ii x1, ii y5]) (st := []) (st1 := [ii v1]) (ws' := c4 K a V0) (X4_sourceAt_ok K l a V0 x1 y5 v1 hc2) gX5_countUses_X4_sourceAt rfl 2 (by decide +kernel) ⟨rfl, rfl⟩ ⟨Nat.le_of_ble_eq_true rfl, Nat.le_of_ble_eq_true rfl⟩ ⟨Nat.zero_le _, Nat.zero_le _⟩ 0 rfl rfl rfl rfl (Nat.le_of_ble_eq_true rfl) dX5_countUses_16 (SG.all rfl) rfl ?_
      refine g_iload_n X dX5_countUses_19 3 rfl rfl ?_
      refine g_let (G := fun q3 : Int => GO p l e rmX5_countUses s m args below meth c K.1 vwCl (va_A WC s.heap.size) (MQ below (QC K.1 vwCl (some (ii res)) WC (c4 K a V0) s.heap.size) args s 0 0 (va_A WC s.heap.size)) 6 0 0 26 [(0, .ref (a 0)), (1, ii x1), (2, ii x2), (3, ii x3), (4, ii q3), (5, ii y5)] [] (c4 K a V0)) hf (fun q3 hf => ?_) (fun j4 hj4 hf => ?_)
      · refine g_iinc X (lv' := [(5, ii (y5 + 1)), (0, .ref (a 0)), (1, ii x1), (2, ii x2), (3, ii x3), (4, ii q3)]) dX5_countUses_26 5 rfl (by decide) rfl ?_
        refine g_goto X 6 dX5_countUses_29 (by decide) ?_
        refine g_sub (lv' := [(0, .ref (a 0)), (1, ii x1), (2, ii x2), (3, ii x3), (4, ii q3), (5, ii (y5 + 1))]) [1, 2, 3, 4, 5, 0] rfl ?_
        exact ih q3 (y5 + 1) hf hk
      · refine g_icmp_ne X hf 26 dX5_countUses_20 (by decide) (fun hf => ?_) (fun hf => ?_)
        · refine g_iinc X (lv' := [(4, ii (y4 + 1)), (0, .ref (a 0)), (1, ii x1), (2, ii x2), (3, ii x3), (5, ii y5)]) dX5_countUses_23 4 rfl (by decide) rfl ?_
          refine g_sub (lv' := [(0, .ref (a 0)), (1, ii x1), (2, ii x2), (3, ii x3), (4, ii (y4 + 1)), (5, ii y5)]) [1, 2, 3, 4, 0, 5] rfl ?_
          exact hj4 (y4 + 1) hf
        · exact hj4 y4 hf
    · refine g_sub (lv' := [(4, ii y4)]) [4] rfl ?_
      exact hk y4 hf
set_option maxHeartbeats 4000000 in
set_option maxRecDepth 100000 in
theorem X5_countUses_go (K : KE) (l : Launch) (a : Nat → Nat) (WC : va_W) {p : Program} {e : Env} {s : State} {m : MethodId} {args : Array Value} {below : List Frame} {meth : Method} {c : Code} (X : CX p s m args c K.1 vwCl (kT K) (va_A WC s.heap.size) cX5_countUses 6 wsX5_countUses RX5) (hr : meth.sig.returnType = (some .int)) (hlk : meth.locks = false) (V0 : Mp) (p1 : Int) (p2 : Int) (p3 : Int) (res : Int) (hf : X5_countUses V0 p1 p2 p3 = some res) : GO p l e rmX5_countUses s m args below meth c K.1 vwCl (va_A WC s.heap.size) (MQ below (QC K.1 vwCl (some (ii res)) WC (c4 K a V0) s.heap.size) args s 0 0 (va_A WC s.heap.size)) 6 0 0 0 [(0, .ref (a 0)), (1, ii p1), (2, ii p2), (3, ii p3)] [] (c4 K a V0) := by
  rw [X5_countUses] at hf
  refine g_iconst X dX5_countUses_0 ?_
  refine g_istore X (lv' := [(4, ii 0), (0, .ref (a 0)), (1, ii p1), (2, ii p2), (3, ii p3)]) dX5_countUses_1 (by decide) rfl ?_
  refine g_iconst X dX5_countUses_3 ?_
  refine g_istore X (lv' := [(5, ii 0), (4, ii 0), (0, .ref (a 0)), (1, ii p1), (2, ii p2), (3, ii p3)]) dX5_countUses_4 (by decide) rfl ?_
  refine g_sub (lv' := [(0, .ref (a 0)), (1, ii p1), (2, ii p2), (3, ii p3), (4, ii 0), (5, ii 0)]) [2, 3, 4, 5, 1, 0] rfl ?_
  refine X5_countUses_L6_ok K l a WC X hr hlk V0 p1 p2 p3 res FU 0 0 hf (fun w5 hf => ?_)
  refine g_iload X dX5_countUses_32 0 rfl ?_
  cases hf
  exact g_iret X hr hlk dX5_countUses_34
set_option maxHeartbeats 4000000 in
set_option maxRecDepth 100000 in
theorem X5_countUses_ok (K : KE) (l : Launch) (a : Nat → Nat) (V0 : Mp) (p1 : Int) (p2 : Int) (p3 : Int) (res : Int) (hf : X5_countUses V0 p1 p2 p3 = some res) : CT l K.1 vwCl (kT K) yX5_countUses wsX5_countUses rmX5_countUses [.ref (a 0), ii p1, ii p2, ii p3] (some (ii res)) (c4 K a V0) (c4 K a V0) :=
  CT.mk (cc := cX5_countUses) (maxL := 6) (ret := (some .int)) (by decide) rfl (Nat.le_of_ble_eq_true rfl) (fun p e s m below meth c X hr hlk => X5_countUses_go K l a _ X hr hlk V0 p1 p2 p3 res hf)
theorem ne_X5_reordersEffects_133 : (RX5, 133, yX9_isSource) ∈ nestL := by decide +kernel
theorem wd_X5_reordersEffects_ini9 : Cond.initialized yX9_isSource.cls ∈ wsX5_reordersEffects := by decide +kernel
theorem wd_X5_reordersEffects_sta_X9_isSource : Cond.static yX9_isSource ∈ wsX5_reordersEffects := by decide +kernel
theorem iw_X5_reordersEffects_X5 : ∀ w ∈ u_ws RX5 TX5 3, w ∈ wsX5_reordersEffects := by decide +kernel
theorem fl_X5_reordersEffects_22 : Cond.fieldLink RX5 22 (TX5 2).1 (TX5 2).2.1 (TX5 2).2.2.1 ∈ wsX5_reordersEffects := by decide +kernel
def rmX5_reordersEffects : Room := { frames := 2, cells := 0, slots := 0, locals := 45 }
def X5_reordersEffects_L6 (kx : Option (Int)) (V0 : Mp) (V1 : Mv) (x2 : Int) (x3 : Int) : Nat → Int → Int → Option (Int)
  | 0, _, _ => none
  | n + 1, y4, y5 => brLT y5 x3 ((X4_sourceAt V0 x2 y5).bind (fun v1 => (X9_isSource v1).bind (fun v3 => ltK (fun q5 : Int => X5_reordersEffects_L6 kx V0 V1 x2 x3 n q5 (y5 + 1)) (fun j6 => brEQ v3 0 (j6 y4) (rdK 3 V1.2.2 v1 (fun v7 => brEQ v7 0 (j6 y4) (brLT v1 y4 (some 1) (j6 v1)))))))) (kx)
def X5_reordersEffects (V0 : Mp) (V1 : Mv) (p2 : Int) (p3 : Int) : Option (Int) := X5_reordersEffects_L6 (some 0) V0 V1 p2 p3 FU (-1) 0
set_option maxHeartbeats 4000000 in
set_option maxRecDepth 100000 in
theorem X5_reordersEffects_L6_ok (K : KE) (l : Launch) (a : Nat → Nat) (b : Nat → Nat) (WC : va_W) {p : Program} {e : Env} {s : State} {m : MethodId} {args : Array Value} {below : List Frame} {meth : Method} {c : Code} (X : CX p s m args c K.1 vwCl (kT K) (va_A WC s.heap.size) cX5_reordersEffects 7 wsX5_reordersEffects RX5) (hr : meth.sig.returnType = (some .boolean)) (hlk : meth.locks = false) (V0 : Mp) (V1 : Mv) (x2 : Int) (x3 : Int) (res : Int) {kx : Option (Int)} : ∀ (n : Nat) (y4 : Int) (y5 : Int), X5_reordersEffects_L6 kx V0 V1 x2 x3 n y4 y5 = some res → (kx = some res → GO p l e rmX5_reordersEffects s m args below meth c K.1 vwCl (va_A WC s.heap.size) (MQ below (QC K.1 vwCl (some (ii res)) WC (c4 K a V0 ++ (c5 K b V1)) s.heap.size) args s 0 0 (va_A WC s.heap.size)) 7 0 0 58 [] [] (c4 K a V0 ++ (c5 K b V1))) → GO p l e rmX5_reordersEffects s m args below meth c K.1 vwCl (va_A WC s.heap.size) (MQ below (QC K.1 vwCl (some (ii res)) WC (c4 K a V0 ++ (c5 K b V1)) s.heap.size) args s 0 0 (va_A WC s.heap.size)) 7 0 0 6 [(0, .ref (b 0)), (1, .ref (a 0)), (2, ii x2), (3, ii x3), (4, ii y4), (5, ii y5)] [] (c4 K a V0 ++ (c5 K b V1)) := by
  intro n
  induction n with
  | zero =>
    intro y4 y5 hf _
    rw [X5_reordersEffects_L6] at hf
    cases hf
  | succ n ih =>
    intro y4 y5 hf hk
    rw [X5_reordersEffects_L6] at hf
    refine g_iload X dX5_reordersEffects_6 5 rfl ?_
    refine g_iload_n X dX5_reordersEffects_8 3 rfl rfl ?_
    refine g_icmp_ge X hf 58 dX5_reordersEffects_9 (by decide) (fun hf => ?_) (fun hf => ?_)
    · refine g_aload_n X dX5_reordersEffects_12 1 rfl rfl ?_
      refine g_iload_n X dX5_reordersEffects_13 2 rfl rfl ?_
      refine g_iload X dX5_reordersEffects_14 5 rfl ?_
      obtain ⟨v1, hc2, hf⟩ := Option.bind_eq_some_iff.mp hf
      refine g_callV X (As := [ii x2, ii y5]) (st := []) (st1 := [ii v1]) (ws' := c4 K a V0 ++ (c5 K b V1)) (X4_sourceAt_ok K l a V0 x2 y5 v1 hc2) gX5_reordersEffects_X4_sourceAt rfl 2 (by decide +kernel) ⟨rfl, rfl⟩ ⟨Nat.le_of_ble_eq_true rfl, Nat.le_of_ble_eq_true rfl⟩ ⟨Nat.zero_le _, Nat.zero_le _⟩ 0 rfl rfl rfl rfl (Nat.le_of_ble_eq_true rfl) dX5_reordersEffects_16 (SG.one [] (c5 K b V1) rfl rfl rfl) rfl ?_
      refine g_istore X (lv' := [(6, ii v1), (0, .ref (b 0)), (1, .ref (a 0)), (2, ii x2), (3, ii x3), (4, ii y4), (5, ii y5)]) dX5_reordersEffects_19 (by decide) rfl ?_
      refine g_iload X dX5_reordersEffects_21 0 rfl ?_
      obtain ⟨v3, hc4, hf⟩ := Option.bind_eq_some_iff.mp hf
      refine g_callSN X (As := [ii v1]) (st := []) (st1 := [ii v3]) (ws' := c4 K a V0 ++ (c5 K b V1)) (X9_isSource_ok K l v1 v3 hc4) ggX5_reordersEffects_X9_isSource ne_X5_reordersEffects_133 wd_X5_reordersEffects_ini9 wd_X5_reordersEffects_sta_X9_isSource rfl 1 (by decide +kernel) ⟨rfl, rfl⟩ ⟨Nat.le_of_ble_eq_true rfl, Nat.le_of_ble_eq_true rfl⟩ ⟨Nat.zero_le _, Nat.zero_le _⟩ rfl rfl (Nat.le_of_ble_eq_true rfl) dX5_reordersEffects_23 SG.none rfl ?_
      refine g_let (G := fun q5 : Int => GO p l e rmX5_reordersEffects s m args below meth c K.1 vwCl (va_A WC s.heap.size) (MQ below (QC K.1 vwCl (some (ii res)) WC (c4 K a V0 ++ (c5 K b V1)) s.heap.size) args s 0 0 (va_A WC s.heap.size)) 7 0 0 52 [(0, .ref (b 0)), (1, .ref (a 0)), (2, ii x2), (3, ii x3), (4, ii q5), (5, ii y5)] [] (c4 K a V0 ++ (c5 K b V1))) hf (fun q5 hf => ?_) (fun j6 hj6 hf => ?_)
      · refine g_iinc X (lv' := [(5, ii (y5 + 1)), (0, .ref (b 0)), (1, .ref (a 0)), (2, ii x2), (3, ii x3), (4, ii q5)]) dX5_reordersEffects_52 5 rfl (by decide) rfl ?_
        refine g_goto X 6 dX5_reordersEffects_55 (by decide) ?_
        refine g_sub (lv' := [(0, .ref (b 0)), (1, .ref (a 0)), (2, ii x2), (3, ii x3), (4, ii q5), (5, ii (y5 + 1))]) [1, 2, 3, 4, 5, 0] rfl ?_
        exact ih q5 (y5 + 1) hf hk
      · refine g_if_eq X hf 52 dX5_reordersEffects_26 (by decide) (fun hf => ?_) (fun hf => ?_)
        · refine g_sub (lv' := [(0, .ref (b 0)), (1, .ref (a 0)), (2, ii x2), (3, ii x3), (4, ii y4), (5, ii y5)]) [1, 2, 3, 4, 5, 6] rfl ?_
          exact hj6 y4 hf
        · refine g_aload_n X dX5_reordersEffects_29 1 rfl rfl ?_
          refine g_get X (v := .ref (b 6)) 4 2 dX5_reordersEffects_30 rfl rfl iw_X5_reordersEffects_X5 (by decide) fl_X5_reordersEffects_22 rfl ?_
          refine g_iload X dX5_reordersEffects_33 0 rfl ?_
          refine g_zald X hf (by decide) 10 1 dX5_reordersEffects_35 rfl rfl (fun v7 hf => ?_)
          refine g_if_eq X hf 52 dX5_reordersEffects_36 (by decide) (fun hf => ?_) (fun hf => ?_)
          · refine g_sub (lv' := [(0, .ref (b 0)), (1, .ref (a 0)), (2, ii x2), (3, ii x3), (4, ii y4), (5, ii y5)]) [1, 2, 3, 4, 5, 6] rfl ?_
            exact hj6 y4 hf
          · refine g_iload X dX5_reordersEffects_39 0 rfl ?_
            refine g_iload X dX5_reordersEffects_41 5 rfl ?_
            refine g_icmp_ge X hf 48 dX5_reordersEffects_43 (by decide) (fun hf => ?_) (fun hf => ?_)
            · refine g_iconst X dX5_reordersEffects_46 ?_
              cases hf
              exact g_zret X (Or.inr rfl) hr hlk dX5_reordersEffects_47
            · refine g_iload X dX5_reordersEffects_48 0 rfl ?_
              refine g_istore X (lv' := [(4, ii v1), (6, ii v1), (0, .ref (b 0)), (1, .ref (a 0)), (2, ii x2), (3, ii x3), (5, ii y5)]) dX5_reordersEffects_50 (by decide) rfl ?_
              refine g_sub (lv' := [(0, .ref (b 0)), (1, .ref (a 0)), (2, ii x2), (3, ii x3), (4, ii v1), (5, ii y5)]) [2, 3, 4, 5, 0, 6] rfl ?_
              exact hj6 v1 hf
    · refine g_sub (lv' := []) [] rfl ?_
      exact hk hf
set_option maxHeartbeats 4000000 in
set_option maxRecDepth 100000 in
theorem X5_reordersEffects_go (K : KE) (l : Launch) (a : Nat → Nat) (b : Nat → Nat) (WC : va_W) {p : Program} {e : Env} {s : State} {m : MethodId} {args : Array Value} {below : List Frame} {meth : Method} {c : Code} (X : CX p s m args c K.1 vwCl (kT K) (va_A WC s.heap.size) cX5_reordersEffects 7 wsX5_reordersEffects RX5) (hr : meth.sig.returnType = (some .boolean)) (hlk : meth.locks = false) (V0 : Mp) (V1 : Mv) (p2 : Int) (p3 : Int) (res : Int) (hf : X5_reordersEffects V0 V1 p2 p3 = some res) : GO p l e rmX5_reordersEffects s m args below meth c K.1 vwCl (va_A WC s.heap.size) (MQ below (QC K.1 vwCl (some (ii res)) WC (c4 K a V0 ++ (c5 K b V1)) s.heap.size) args s 0 0 (va_A WC s.heap.size)) 7 0 0 0 [(0, .ref (b 0)), (1, .ref (a 0)), (2, ii p2), (3, ii p3)] [] (c4 K a V0 ++ (c5 K b V1)) := by
  rw [X5_reordersEffects] at hf
  refine g_iconst X dX5_reordersEffects_0 ?_
  refine g_istore X (lv' := [(4, ii (-1)), (0, .ref (b 0)), (1, .ref (a 0)), (2, ii p2), (3, ii p3)]) dX5_reordersEffects_1 (by decide) rfl ?_
  refine g_iconst X dX5_reordersEffects_3 ?_
  refine g_istore X (lv' := [(5, ii 0), (4, ii (-1)), (0, .ref (b 0)), (1, .ref (a 0)), (2, ii p2), (3, ii p3)]) dX5_reordersEffects_4 (by decide) rfl ?_
  refine g_sub (lv' := [(0, .ref (b 0)), (1, .ref (a 0)), (2, ii p2), (3, ii p3), (4, ii (-1)), (5, ii 0)]) [2, 3, 4, 5, 1, 0] rfl ?_
  refine X5_reordersEffects_L6_ok K l a b WC X hr hlk V0 V1 p2 p3 res FU (-1) 0 hf (fun hf => ?_)
  refine g_iconst X dX5_reordersEffects_58 ?_
  cases hf
  exact g_zret X (Or.inl rfl) hr hlk dX5_reordersEffects_59
set_option maxHeartbeats 4000000 in
set_option maxRecDepth 100000 in
theorem X5_reordersEffects_ok (K : KE) (l : Launch) (a : Nat → Nat) (b : Nat → Nat) (V0 : Mp) (V1 : Mv) (p2 : Int) (p3 : Int) (res : Int) (hf : X5_reordersEffects V0 V1 p2 p3 = some res) : CT l K.1 vwCl (kT K) yX5_reordersEffects wsX5_reordersEffects rmX5_reordersEffects [.ref (b 0), .ref (a 0), ii p2, ii p3] (some (ii res)) (c4 K a V0 ++ (c5 K b V1)) (c4 K a V0 ++ (c5 K b V1)) :=
  CT.mk (cc := cX5_reordersEffects) (maxL := 7) (ret := (some .boolean)) (by decide) rfl (Nat.le_of_ble_eq_true rfl) (fun p e s m below meth c X hr hlk => X5_reordersEffects_go K l a b _ X hr hlk V0 V1 p2 p3 res hf)
theorem iw_X5_effectReason_X5 : ∀ w ∈ u_ws RX5 TX5 3, w ∈ wsX5_effectReason := by decide +kernel
theorem fl_X5_effectReason_22 : Cond.fieldLink RX5 22 (TX5 2).1 (TX5 2).2.1 (TX5 2).2.2.1 ∈ wsX5_effectReason := by decide +kernel
def rmX5_effectReason : Room := { frames := 3, cells := 0, slots := 0, locals := 71 }
def X5_effectReason_L9 (kx : Int → Int → Option (Int)) (V0 : Mp) (V1 : Mv) (x2 : Int) (x3 : Int) (x4 : Int) : Nat → Int → Int → Int → Option (Int)
  | 0, _, _, _ => none
  | n + 1, y5, y6, y7 => brLT y7 x4 (brLT y7 3 ((X5_countUses V0 x2 x3 y7).bind (fun v1 => ltK (fun q3 : Int => ltK (fun q5 : Int => X5_effectReason_L9 kx V0 V1 x2 x3 x4 n q3 q5 (y7 + 1)) (fun j6 => ltK (fun q7 : Unit => j6 1) (fun j8 => brEQ y6 0 (rdK 3 V1.2.2 y7 (fun v9 => ltK (fun q10 : Unit => j6 0) (fun j11 => brEQ v9 0 (j11 ()) (brEQ v1 0 (j8 ()) (j11 ()))))) (j8 ())))) (fun j4 => ltK (fun q12 : Unit => j4 1) (fun j13 => brEQ y5 0 (rdK 3 V1.2.2 y7 (fun v14 => ltK (fun q15 : Unit => j4 0) (fun j16 => brEQ v14 0 (j16 ()) (brLE v1 1 (j16 ()) (j13 ()))))) (j13 ()))))) (kx y5 y6)) (kx y5 y6)
def X5_effectReason (V0 : Mp) (V1 : Mv) (p2 : Int) (p3 : Int) (p4 : Int) : Option (Int) := X5_effectReason_L9 (fun w17 w18 => brEQ w17 0 (brEQ w18 0 ((X5_reordersEffects V0 V1 p2 p3).bind (fun v19 => brEQ v19 0 (some 0) (some 6))) (some 5)) (some 4)) V0 V1 p2 p3 p4 FU 0 0 0
set_option maxHeartbeats 4000000 in
set_option maxRecDepth 100000 in
theorem X5_effectReason_L9_ok (K : KE) (l : Launch) (a : Nat → Nat) (b : Nat → Nat) (WC : va_W) {p : Program} {e : Env} {s : State} {m : MethodId} {args : Array Value} {below : List Frame} {meth : Method} {c : Code} (X : CX p s m args c K.1 vwCl (kT K) (va_A WC s.heap.size) cX5_effectReason 9 wsX5_effectReason RX5) (hr : meth.sig.returnType = (some .int)) (hlk : meth.locks = false) (V0 : Mp) (V1 : Mv) (x2 : Int) (x3 : Int) (x4 : Int) (res : Int) {kx : Int → Int → Option (Int)} : ∀ (n : Nat) (y5 : Int) (y6 : Int) (y7 : Int), X5_effectReason_L9 kx V0 V1 x2 x3 x4 n y5 y6 y7 = some res → (∀ (z5 : Int) (z6 : Int), kx z5 z6 = some res → GO p l e rmX5_effectReason s m args below meth c K.1 vwCl (va_A WC s.heap.size) (MQ below (QC K.1 vwCl (some (ii res)) WC (c4 K a V0 ++ (c5 K b V1)) s.heap.size) args s 0 0 (va_A WC s.heap.size)) 9 0 0 93 [(0, .ref (b 0)), (1, .ref (a 0)), (2, ii x2), (3, ii x3), (5, ii z5), (6, ii z6)] [] (c4 K a V0 ++ (c5 K b V1))) → GO p l e rmX5_effectReason s m args below meth c K.1 vwCl (va_A WC s.heap.size) (MQ below (QC K.1 vwCl (some (ii res)) WC (c4 K a V0 ++ (c5 K b V1)) s.heap.size) args s 0 0 (va_A WC s.heap.size)) 9 0 0 9 [(0, .ref (b 0)), (1, .ref (a 0)), (2, ii x2), (3, ii x3), (4, ii x4), (5, ii y5), (6, ii y6), (7, ii y7)] [] (c4 K a V0 ++ (c5 K b V1)) := by
  intro n
  induction n with
  | zero =>
    intro y5 y6 y7 hf _
    rw [X5_effectReason_L9] at hf
    cases hf
  | succ n ih =>
    intro y5 y6 y7 hf hk
    rw [X5_effectReason_L9] at hf
    refine g_iload X dX5_effectReason_9 7 rfl ?_
    refine g_iload X dX5_effectReason_11 4 rfl ?_
    refine g_icmp_ge X hf 93 dX5_effectReason_13 (by decide) (fun hf => ?_) (fun hf => ?_)
    · refine g_iload X dX5_effectReason_16 7 rfl ?_
      refine g_iconst X dX5_effectReason_18 ?_
      refine g_icmp_ge X hf 93 dX5_effectReason_19 (by decide) (fun hf => ?_) (fun hf => ?_)
      · refine g_aload_n X dX5_effectReason_22 1 rfl rfl ?_
        refine g_iload_n X dX5_effectReason_23 2 rfl rfl ?_
        refine g_iload_n X dX5_effectReason_24 3 rfl rfl ?_
        refine g_iload X dX5_effectReason_25 7 rfl ?_
        obtain ⟨v1, hc2, hf⟩ := Option.bind_eq_some_iff.mp hf
        refine g_callS X (As := [.ref (a 0), ii x2, ii x3, ii y7]) (st := []) (st1 := [ii v1]) (ws' := c4 K a V0 ++ (c5 K b V1)) (X5_countUses_ok K l a V0 x2 x3 y7 v1 hc2) gX5_effectReason_X5_countUses rfl 4 (by decide +kernel) ⟨rfl, rfl⟩ ⟨Nat.le_of_ble_eq_true rfl, Nat.le_of_ble_eq_true rfl⟩ ⟨Nat.zero_le _, Nat.zero_le _⟩ rfl rfl (Nat.le_of_ble_eq_true rfl) dX5_effectReason_27 (SG.one [] (c5 K b V1) rfl rfl rfl) rfl ?_
        refine g_istore X (lv' := [(8, ii v1), (0, .ref (b 0)), (1, .ref (a 0)), (2, ii x2), (3, ii x3), (4, ii x4), (5, ii y5), (6, ii y6), (7, ii y7)]) dX5_effectReason_30 (by decide) rfl ?_
        refine g_iload X dX5_effectReason_32 6 rfl ?_
        refine g_let (G := fun q3 : Int => GO p l e rmX5_effectReason s m args below meth c K.1 vwCl (va_A WC s.heap.size) (MQ below (QC K.1 vwCl (some (ii res)) WC (c4 K a V0 ++ (c5 K b V1)) s.heap.size) args s 0 0 (va_A WC s.heap.size)) 9 0 0 58 [(0, .ref (b 0)), (1, .ref (a 0)), (2, ii x2), (3, ii x3), (4, ii x4), (6, ii y6), (7, ii y7), (8, ii v1)] [ii q3] (c4 K a V0 ++ (c5 K b V1))) hf (fun q3 hf => ?_) (fun j4 hj4 hf => ?_)
        · refine g_istore X (lv' := [(5, ii q3), (0, .ref (b 0)), (1, .ref (a 0)), (2, ii x2), (3, ii x3), (4, ii x4), (6, ii y6), (7, ii y7), (8, ii v1)]) dX5_effectReason_58 (by decide) rfl ?_
          refine g_iload X dX5_effectReason_60 6 rfl ?_
          refine g_let (G := fun q5 : Int => GO p l e rmX5_effectReason s m args below meth c K.1 vwCl (va_A WC s.heap.size) (MQ below (QC K.1 vwCl (some (ii res)) WC (c4 K a V0 ++ (c5 K b V1)) s.heap.size) args s 0 0 (va_A WC s.heap.size)) 9 0 0 85 [(0, .ref (b 0)), (1, .ref (a 0)), (2, ii x2), (3, ii x3), (4, ii x4), (5, ii q3), (7, ii y7)] [ii q5] (c4 K a V0 ++ (c5 K b V1))) hf (fun q5 hf => ?_) (fun j6 hj6 hf => ?_)
          · refine g_istore X (lv' := [(6, ii q5), (0, .ref (b 0)), (1, .ref (a 0)), (2, ii x2), (3, ii x3), (4, ii x4), (5, ii q3), (7, ii y7)]) dX5_effectReason_85 (by decide) rfl ?_
            refine g_iinc X (lv' := [(7, ii (y7 + 1)), (6, ii q5), (0, .ref (b 0)), (1, .ref (a 0)), (2, ii x2), (3, ii x3), (4, ii x4), (5, ii q3)]) dX5_effectReason_87 7 rfl (by decide) rfl ?_
            refine g_goto X 9 dX5_effectReason_90 (by decide) ?_
            refine g_sub (lv' := [(0, .ref (b 0)), (1, .ref (a 0)), (2, ii x2), (3, ii x3), (4, ii x4), (5, ii q3), (6, ii q5), (7, ii (y7 + 1))]) [2, 3, 4, 5, 6, 7, 1, 0] rfl ?_
            exact ih q3 q5 (y7 + 1) hf hk
          · refine g_let (G := fun q7 : Unit => GO p l e rmX5_effectReason s m args below meth c K.1 vwCl (va_A WC s.heap.size) (MQ below (QC K.1 vwCl (some (ii res)) WC (c4 K a V0 ++ (c5 K b V1)) s.heap.size) args s 0 0 (va_A WC s.heap.size)) 9 0 0 80 [(0, .ref (b 0)), (1, .ref (a 0)), (2, ii x2), (3, ii x3), (4, ii x4), (5, ii q3), (7, ii y7)] [] (c4 K a V0 ++ (c5 K b V1))) hf (fun q7 hf => ?_) (fun j8 hj8 hf => ?_)
            · refine g_iconst X dX5_effectReason_80 ?_
              refine g_goto X 85 dX5_effectReason_81 (by decide) ?_
              exact hj6 1 hf
            · refine g_if_ne X hf 80 dX5_effectReason_62 (by decide) (fun hf => ?_) (fun hf => ?_)
              · refine g_aload_n X dX5_effectReason_65 1 rfl rfl ?_
                refine g_get X (v := .ref (b 6)) 4 2 dX5_effectReason_66 rfl rfl iw_X5_effectReason_X5 (by decide) fl_X5_effectReason_22 rfl ?_
                refine g_iload X dX5_effectReason_69 7 rfl ?_
                refine g_zald X hf (by decide) 10 1 dX5_effectReason_71 rfl rfl (fun v9 hf => ?_)
                refine g_let (G := fun q10 : Unit => GO p l e rmX5_effectReason s m args below meth c K.1 vwCl (va_A WC s.heap.size) (MQ below (QC K.1 vwCl (some (ii res)) WC (c4 K a V0 ++ (c5 K b V1)) s.heap.size) args s 0 0 (va_A WC s.heap.size)) 9 0 0 84 [(0, .ref (b 0)), (1, .ref (a 0)), (2, ii x2), (3, ii x3), (4, ii x4), (5, ii q3), (7, ii y7)] [] (c4 K a V0 ++ (c5 K b V1))) hf (fun q10 hf => ?_) (fun j11 hj11 hf => ?_)
                · refine g_iconst X dX5_effectReason_84 ?_
                  exact hj6 0 hf
                · refine g_if_eq X hf 84 dX5_effectReason_72 (by decide) (fun hf => ?_) (fun hf => ?_)
                  · refine g_sub (lv' := [(0, .ref (b 0)), (1, .ref (a 0)), (2, ii x2), (3, ii x3), (4, ii x4), (5, ii q3), (7, ii y7)]) [1, 2, 3, 4, 5, 0, 7] rfl ?_
                    exact hj11 () hf
                  · refine g_iload X dX5_effectReason_75 8 rfl ?_
                    refine g_if_ne X hf 84 dX5_effectReason_77 (by decide) (fun hf => ?_) (fun hf => ?_)
                    · refine g_sub (lv' := [(0, .ref (b 0)), (1, .ref (a 0)), (2, ii x2), (3, ii x3), (4, ii x4), (5, ii q3), (7, ii y7)]) [1, 2, 3, 4, 5, 0, 7] rfl ?_
                      exact hj8 () hf
                    · refine g_sub (lv' := [(0, .ref (b 0)), (1, .ref (a 0)), (2, ii x2), (3, ii x3), (4, ii x4), (5, ii q3), (7, ii y7)]) [1, 2, 3, 4, 5, 0, 7] rfl ?_
                      exact hj11 () hf
              · refine g_sub (lv' := [(0, .ref (b 0)), (1, .ref (a 0)), (2, ii x2), (3, ii x3), (4, ii x4), (5, ii q3), (7, ii y7)]) [1, 2, 3, 4, 5, 0, 7] rfl ?_
                exact hj8 () hf
        · refine g_let (G := fun q12 : Unit => GO p l e rmX5_effectReason s m args below meth c K.1 vwCl (va_A WC s.heap.size) (MQ below (QC K.1 vwCl (some (ii res)) WC (c4 K a V0 ++ (c5 K b V1)) s.heap.size) args s 0 0 (va_A WC s.heap.size)) 9 0 0 53 [(0, .ref (b 0)), (1, .ref (a 0)), (2, ii x2), (3, ii x3), (4, ii x4), (6, ii y6), (7, ii y7), (8, ii v1)] [] (c4 K a V0 ++ (c5 K b V1))) hf (fun q12 hf => ?_) (fun j13 hj13 hf => ?_)
          · refine g_iconst X dX5_effectReason_53 ?_
            refine g_goto X 58 dX5_effectReason_54 (by decide) ?_
            exact hj4 1 hf
          · refine g_if_ne X hf 53 dX5_effectReason_34 (by decide) (fun hf => ?_) (fun hf => ?_)
            · refine g_aload_n X dX5_effectReason_37 1 rfl rfl ?_
              refine g_get X (v := .ref (b 6)) 4 2 dX5_effectReason_38 rfl rfl iw_X5_effectReason_X5 (by decide) fl_X5_effectReason_22 rfl ?_
              refine g_iload X dX5_effectReason_41 8 rfl ?_
              refine g_zald X hf (by decide) 10 1 dX5_effectReason_43 rfl rfl (fun v14 hf => ?_)
              refine g_let (G := fun q15 : Unit => GO p l e rmX5_effectReason s m args below meth c K.1 vwCl (va_A WC s.heap.size) (MQ below (QC K.1 vwCl (some (ii res)) WC (c4 K a V0 ++ (c5 K b V1)) s.heap.size) args s 0 0 (va_A WC s.heap.size)) 9 0 0 57 [(0, .ref (b 0)), (1, .ref (a 0)), (2, ii x2), (3, ii x3), (4, ii x4), (6, ii y6), (7, ii y7), (8, ii v1)] [] (c4 K a V0 ++ (c5 K b V1))) hf (fun q15 hf => ?_) (fun j16 hj16 hf => ?_)
              · refine g_iconst X dX5_effectReason_57 ?_
                exact hj4 0 hf
              · refine g_if_eq X hf 57 dX5_effectReason_44 (by decide) (fun hf => ?_) (fun hf => ?_)
                · refine g_sub (lv' := [(0, .ref (b 0)), (1, .ref (a 0)), (2, ii x2), (3, ii x3), (4, ii x4), (6, ii y6), (7, ii y7), (8, ii v1)]) [1, 2, 3, 4, 5, 7, 8, 0] rfl ?_
                  exact hj16 () hf
                · refine g_iload X dX5_effectReason_47 0 rfl ?_
                  refine g_iconst X dX5_effectReason_49 ?_
                  refine g_icmp_le X hf 57 dX5_effectReason_50 (by decide) (fun hf => ?_) (fun hf => ?_)
                  · refine g_sub (lv' := [(0, .ref (b 0)), (1, .ref (a 0)), (2, ii x2), (3, ii x3), (4, ii x4), (6, ii y6), (7, ii y7), (8, ii v1)]) [1, 2, 3, 4, 5, 7, 8, 0] rfl ?_
                    exact hj16 () hf
                  · refine g_sub (lv' := [(0, .ref (b 0)), (1, .ref (a 0)), (2, ii x2), (3, ii x3), (4, ii x4), (6, ii y6), (7, ii y7), (8, ii v1)]) [1, 2, 3, 4, 5, 7, 8, 0] rfl ?_
                    exact hj13 () hf
            · refine g_sub (lv' := [(0, .ref (b 0)), (1, .ref (a 0)), (2, ii x2), (3, ii x3), (4, ii x4), (6, ii y6), (7, ii y7), (8, ii v1)]) [1, 2, 3, 4, 5, 7, 8, 0] rfl ?_
              exact hj13 () hf
      · refine g_sub (lv' := [(0, .ref (b 0)), (1, .ref (a 0)), (2, ii x2), (3, ii x3), (5, ii y5), (6, ii y6)]) [0, 1, 2, 3, 5, 6] rfl ?_
        exact hk y5 y6 hf
    · refine g_sub (lv' := [(0, .ref (b 0)), (1, .ref (a 0)), (2, ii x2), (3, ii x3), (5, ii y5), (6, ii y6)]) [0, 1, 2, 3, 5, 6] rfl ?_
      exact hk y5 y6 hf
set_option maxHeartbeats 4000000 in
set_option maxRecDepth 100000 in
theorem X5_effectReason_go (K : KE) (l : Launch) (a : Nat → Nat) (b : Nat → Nat) (WC : va_W) {p : Program} {e : Env} {s : State} {m : MethodId} {args : Array Value} {below : List Frame} {meth : Method} {c : Code} (X : CX p s m args c K.1 vwCl (kT K) (va_A WC s.heap.size) cX5_effectReason 9 wsX5_effectReason RX5) (hr : meth.sig.returnType = (some .int)) (hlk : meth.locks = false) (V0 : Mp) (V1 : Mv) (p2 : Int) (p3 : Int) (p4 : Int) (res : Int) (hf : X5_effectReason V0 V1 p2 p3 p4 = some res) : GO p l e rmX5_effectReason s m args below meth c K.1 vwCl (va_A WC s.heap.size) (MQ below (QC K.1 vwCl (some (ii res)) WC (c4 K a V0 ++ (c5 K b V1)) s.heap.size) args s 0 0 (va_A WC s.heap.size)) 9 0 0 0 [(0, .ref (b 0)), (1, .ref (a 0)), (2, ii p2), (3, ii p3), (4, ii p4)] [] (c4 K a V0 ++ (c5 K b V1)) := by
  rw [X5_effectReason] at hf
  refine g_iconst X dX5_effectReason_0 ?_
  refine g_istore X (lv' := [(5, ii 0), (0, .ref (b 0)), (1, .ref (a 0)), (2, ii p2), (3, ii p3), (4, ii p4)]) dX5_effectReason_1 (by decide) rfl ?_
  refine g_iconst X dX5_effectReason_3 ?_
  refine g_istore X (lv' := [(6, ii 0), (5, ii 0), (0, .ref (b 0)), (1, .ref (a 0)), (2, ii p2), (3, ii p3), (4, ii p4)]) dX5_effectReason_4 (by decide) rfl ?_
  refine g_iconst X dX5_effectReason_6 ?_
  refine g_istore X (lv' := [(7, ii 0), (6, ii 0), (5, ii 0), (0, .ref (b 0)), (1, .ref (a 0)), (2, ii p2), (3, ii p3), (4, ii p4)]) dX5_effectReason_7 (by decide) rfl ?_
  refine g_sub (lv' := [(0, .ref (b 0)), (1, .ref (a 0)), (2, ii p2), (3, ii p3), (4, ii p4), (5, ii 0), (6, ii 0), (7, ii 0)]) [3, 4, 5, 6, 7, 2, 1, 0] rfl ?_
  refine X5_effectReason_L9_ok K l a b WC X hr hlk V0 V1 p2 p3 p4 res FU 0 0 0 hf (fun w17 w18 hf => ?_)
  refine g_iload X dX5_effectReason_93 4 rfl ?_
  refine g_if_eq X hf 100 dX5_effectReason_95 (by decide) (fun hf => ?_) (fun hf => ?_)
  · refine g_iload X dX5_effectReason_100 5 rfl ?_
    refine g_if_eq X hf 107 dX5_effectReason_102 (by decide) (fun hf => ?_) (fun hf => ?_)
    · refine g_aload_n X dX5_effectReason_107 0 rfl rfl ?_
      refine g_aload_n X dX5_effectReason_108 1 rfl rfl ?_
      refine g_iload_n X dX5_effectReason_109 2 rfl rfl ?_
      refine g_iload_n X dX5_effectReason_110 3 rfl rfl ?_
      obtain ⟨v19, hc20, hf⟩ := Option.bind_eq_some_iff.mp hf
      refine g_callV X (As := [.ref (a 0), ii p2, ii p3]) (st := []) (st1 := [ii v19]) (ws' := c4 K a V0 ++ (c5 K b V1)) (X5_reordersEffects_ok K l a b V0 V1 p2 p3 v19 hc20) gX5_effectReason_X5_reordersEffects rfl 3 (by decide +kernel) ⟨rfl, rfl⟩ ⟨Nat.le_of_ble_eq_true rfl, Nat.le_of_ble_eq_true rfl⟩ ⟨Nat.zero_le _, Nat.zero_le _⟩ 4 rfl rfl rfl rfl (Nat.le_of_ble_eq_true rfl) dX5_effectReason_111 (SG.all rfl) rfl ?_
      refine g_if_eq X hf 122 dX5_effectReason_114 (by decide) (fun hf => ?_) (fun hf => ?_)
      · refine g_iconst X dX5_effectReason_122 ?_
        cases hf
        exact g_iret X hr hlk dX5_effectReason_123
      · refine g_bipush X dX5_effectReason_117 (by decide +kernel) ?_
        refine g_goto X 123 dX5_effectReason_119 (by decide) ?_
        cases hf
        exact g_iret X hr hlk dX5_effectReason_123
    · refine g_iconst X dX5_effectReason_105 ?_
      cases hf
      exact g_iret X hr hlk dX5_effectReason_106
  · refine g_iconst X dX5_effectReason_98 ?_
    cases hf
    exact g_iret X hr hlk dX5_effectReason_99
set_option maxHeartbeats 4000000 in
set_option maxRecDepth 100000 in
theorem X5_effectReason_ok (K : KE) (l : Launch) (a : Nat → Nat) (b : Nat → Nat) (V0 : Mp) (V1 : Mv) (p2 : Int) (p3 : Int) (p4 : Int) (res : Int) (hf : X5_effectReason V0 V1 p2 p3 p4 = some res) : CT l K.1 vwCl (kT K) yX5_effectReason wsX5_effectReason rmX5_effectReason [.ref (b 0), .ref (a 0), ii p2, ii p3, ii p4] (some (ii res)) (c4 K a V0 ++ (c5 K b V1)) (c4 K a V0 ++ (c5 K b V1)) :=
  CT.mk (cc := cX5_effectReason) (maxL := 9) (ret := (some .int)) (by decide) rfl (Nat.le_of_ble_eq_true rfl) (fun p e s m below meth c X hr hlk => X5_effectReason_go K l a b _ X hr hlk V0 V1 p2 p3 p4 res hf)
theorem iw_X5_sizeAfterReplacing_X8 : ∀ w ∈ u_ws RX8 TX8 9, w ∈ wsX5_sizeAfterReplacing := by decide +kernel
theorem fl_X5_sizeAfterReplacing_26 : Cond.fieldLink RX5 26 (TX8 7).1 (TX8 7).2.1 (TX8 7).2.2.1 ∈ wsX5_sizeAfterReplacing := by decide +kernel
theorem iw_X5_sizeAfterReplacing_X6 : ∀ w ∈ u_ws RX6 TX6 4, w ∈ wsX5_sizeAfterReplacing := by decide +kernel
theorem fl_X5_sizeAfterReplacing_31 : Cond.fieldLink RX5 31 (TX6 0).1 (TX6 0).2.1 (TX6 0).2.2.1 ∈ wsX5_sizeAfterReplacing := by decide +kernel
theorem fl_X5_sizeAfterReplacing_86 : Cond.fieldLink RX5 86 (TX8 6).1 (TX8 6).2.1 (TX8 6).2.2.1 ∈ wsX5_sizeAfterReplacing := by decide +kernel
theorem ne_X5_sizeAfterReplacing_133 : (RX5, 133, yX9_isSource) ∈ nestL := by decide +kernel
theorem wd_X5_sizeAfterReplacing_ini9 : Cond.initialized yX9_isSource.cls ∈ wsX5_sizeAfterReplacing := by decide +kernel
theorem wd_X5_sizeAfterReplacing_sta_X9_isSource : Cond.static yX9_isSource ∈ wsX5_sizeAfterReplacing := by decide +kernel
theorem iw_X5_sizeAfterReplacing_X5 : ∀ w ∈ u_ws RX5 TX5 3, w ∈ wsX5_sizeAfterReplacing := by decide +kernel
theorem fl_X5_sizeAfterReplacing_18 : Cond.fieldLink RX5 18 (TX5 1).1 (TX5 1).2.1 (TX5 1).2.2.1 ∈ wsX5_sizeAfterReplacing := by decide +kernel
def rmX5_sizeAfterReplacing : Room := { frames := 2, cells := 0, slots := 0, locals := 45 }
def X5_sizeAfterReplacing_L25 (kx : Int → Option (Int)) (V0 : St) (V1 : Mv) (x3 : Int) (x4 : Int) : Nat → Int → Int → Option (Int)
  | 0, _, _ => none
  | n + 1, y5, y6 => brLT y6 x4 ((X4_sourceAt V0.2.2.2.2.2.2.1 x3 y6).bind (fun v3 => (X9_isSource v3).bind (fun v5 => ltK (fun q7 : Int => X5_sizeAfterReplacing_L25 kx V0 V1 x3 x4 n (y5 + q7) (y6 + 1)) (fun j8 => brEQ v5 0 (j8 1) (rdK 4 V1.2.1 (v3 + 1) (fun v9 => rdK 4 V1.2.1 v3 (fun v10 => j8 (v9 - v10)))))))) (kx y5)
def X5_sizeAfterReplacing (V0 : St) (V1 : Mv) (p2 : Int) (p3 : Int) (p4 : Int) : Option (Int) := (X6_endOf V0.2.2.2.2.2.2.2.1 p2).bind (fun v1 => X5_sizeAfterReplacing_L25 (fun w11 => some w11) V0 V1 p3 p4 FU ((V0.2.2.2.2.2.2.2.1.1 - (v1 - p2)) + 1) 0)
set_option maxHeartbeats 4000000 in
set_option maxRecDepth 100000 in
theorem X5_sizeAfterReplacing_L25_ok (K : KE) (l : Launch) (a : Nat → Nat) (b : Nat → Nat) (WC : va_W) {p : Program} {e : Env} {s : State} {m : MethodId} {args : Array Value} {below : List Frame} {meth : Method} {c : Code} (X : CX p s m args c K.1 vwCl (kT K) (va_A WC s.heap.size) cX5_sizeAfterReplacing 8 wsX5_sizeAfterReplacing RX5) (hr : meth.sig.returnType = (some .int)) (hlk : meth.locks = false) (V0 : St) (V1 : Mv) (x3 : Int) (x4 : Int) (res : Int) {kx : Int → Option (Int)} : ∀ (n : Nat) (y5 : Int) (y6 : Int), X5_sizeAfterReplacing_L25 kx V0 V1 x3 x4 n y5 y6 = some res → (∀ (z5 : Int), kx z5 = some res → GO p l e rmX5_sizeAfterReplacing s m args below meth c K.1 vwCl (va_A WC s.heap.size) (MQ below (QC K.1 vwCl (some (ii res)) WC (c8 K a V0 ++ (c5 K b V1)) s.heap.size) args s 0 0 (va_A WC s.heap.size)) 8 0 0 84 [(5, ii z5)] [] (c8 K a V0 ++ (c5 K b V1))) → GO p l e rmX5_sizeAfterReplacing s m args below meth c K.1 vwCl (va_A WC s.heap.size) (MQ below (QC K.1 vwCl (some (ii res)) WC (c8 K a V0 ++ (c5 K b V1)) s.heap.size) args s 0 0 (va_A WC s.heap.size)) 8 0 0 25 [(0, .ref (b 0)), (1, .ref (a 0)), (3, ii x3), (4, ii x4), (5, ii y5), (6, ii y6)] [] (c8 K a V0 ++ (c5 K b V1)) := by
  intro n
  induction n with
  | zero =>
    intro y5 y6 hf _
    rw [X5_sizeAfterReplacing_L25] at hf
    cases hf
  | succ n ih =>
    intro y5 y6 hf hk
    rw [X5_sizeAfterReplacing_L25] at hf
    refine g_iload X dX5_sizeAfterReplacing_25 5 rfl ?_
    refine g_iload X dX5_sizeAfterReplacing_27 3 rfl ?_
    refine g_icmp_ge X hf 84 dX5_sizeAfterReplacing_29 (by decide) (fun hf => ?_) (fun hf => ?_)
    · refine g_aload_n X dX5_sizeAfterReplacing_32 1 rfl rfl ?_
      refine g_get X (v := .ref (ash a 14 0)) 0 6 dX5_sizeAfterReplacing_33 rfl rfl iw_X5_sizeAfterReplacing_X8 (by decide) fl_X5_sizeAfterReplacing_86 rfl ?_
      refine g_iload_n X dX5_sizeAfterReplacing_36 2 rfl rfl ?_
      refine g_iload X dX5_sizeAfterReplacing_37 5 rfl ?_
      obtain ⟨v3, hc4, hf⟩ := Option.bind_eq_some_iff.mp hf
      refine g_callV X (As := [ii x3, ii y6]) (st := []) (st1 := [ii v3]) (ws' := c8 K a V0 ++ (c5 K b V1)) (X4_sourceAt_ok K l (ash a 14) V0.2.2.2.2.2.2.1 x3 y6 v3 hc4) gX5_sizeAfterReplacing_X4_sourceAt rfl 2 (by decide +kernel) ⟨rfl, rfl⟩ ⟨Nat.le_of_ble_eq_true rfl, Nat.le_of_ble_eq_true rfl⟩ ⟨Nat.zero_le _, Nat.zero_le _⟩ 14 rfl rfl rfl rfl (Nat.le_of_ble_eq_true rfl) dX5_sizeAfterReplacing_39 (SG.one ([(a 0, .inr (8, [.ref (ash a 1 0), .ref (ash a 5 0), .ref (ash a 9 0), ii V0.2.2.2.1, .ref (a 13), ii V0.2.2.2.2.2.1, .ref (ash a 14 0), .ref (ash a 18 0), .ref (a 22)]))] ++ (c1 K 6 (ash a 1) V0.1 ++ (c1 K 6 (ash a 5) V0.2.1 ++ (c1 K 4 (ash a 9) V0.2.2.1 ++ ([(a 13, .inl (K.2.1, 6, .inl (arI V0.2.2.2.2.1)))]))))) (c6 K (ash a 18) V0.2.2.2.2.2.2.2.1 ++ ([(a 22, .inl (K.2.1, 8, .inl (arI V0.2.2.2.2.2.2.2.2)))] ++ (c5 K b V1))) rfl rfl rfl) rfl ?_
      refine g_istore X (lv' := [(7, ii v3), (0, .ref (b 0)), (1, .ref (a 0)), (3, ii x3), (4, ii x4), (5, ii y5), (6, ii y6)]) dX5_sizeAfterReplacing_42 (by decide) rfl ?_
      refine g_iload X dX5_sizeAfterReplacing_44 5 rfl ?_
      refine g_iload X dX5_sizeAfterReplacing_46 0 rfl ?_
      obtain ⟨v5, hc6, hf⟩ := Option.bind_eq_some_iff.mp hf
      refine g_callSN X (As := [ii v3]) (st := [ii y5]) (st1 := [ii v5, ii y5]) (ws' := c8 K a V0 ++ (c5 K b V1)) (X9_isSource_ok K l v3 v5 hc6) ggX5_sizeAfterReplacing_X9_isSource ne_X5_sizeAfterReplacing_133 wd_X5_sizeAfterReplacing_ini9 wd_X5_sizeAfterReplacing_sta_X9_isSource rfl 1 (by decide +kernel) ⟨rfl, rfl⟩ ⟨Nat.le_of_ble_eq_true rfl, Nat.le_of_ble_eq_true rfl⟩ ⟨Nat.zero_le _, Nat.zero_le _⟩ rfl rfl (Nat.le_of_ble_eq_true rfl) dX5_sizeAfterReplacing_48 SG.none rfl ?_
      refine g_let (G := fun q7 : Int => GO p l e rmX5_sizeAfterReplacing s m args below meth c K.1 vwCl (va_A WC s.heap.size) (MQ below (QC K.1 vwCl (some (ii res)) WC (c8 K a V0 ++ (c5 K b V1)) s.heap.size) args s 0 0 (va_A WC s.heap.size)) 8 0 0 75 [(0, .ref (b 0)), (1, .ref (a 0)), (3, ii x3), (4, ii x4), (6, ii y6)] [ii q7, ii y5] (c8 K a V0 ++ (c5 K b V1))) hf (fun q7 hf => ?_) (fun j8 hj8 hf => ?_)
      · refine g_iadd X dX5_sizeAfterReplacing_75 ?_
        refine g_istore X (lv' := [(5, ii (y5 + q7)), (0, .ref (b 0)), (1, .ref (a 0)), (3, ii x3), (4, ii x4), (6, ii y6)]) dX5_sizeAfterReplacing_76 (by decide) rfl ?_
        refine g_iinc X (lv' := [(6, ii (y6 + 1)), (5, ii (y5 + q7)), (0, .ref (b 0)), (1, .ref (a 0)), (3, ii x3), (4, ii x4)]) dX5_sizeAfterReplacing_78 5 rfl (by decide) rfl ?_
        refine g_goto X 25 dX5_sizeAfterReplacing_81 (by decide) ?_
        refine g_sub (lv' := [(0, .ref (b 0)), (1, .ref (a 0)), (3, ii x3), (4, ii x4), (5, ii (y5 + q7)), (6, ii (y6 + 1))]) [2, 3, 4, 5, 1, 0] rfl ?_
        exact ih (y5 + q7) (y6 + 1) hf hk
      · refine g_if_eq X hf 74 dX5_sizeAfterReplacing_51 (by decide) (fun hf => ?_) (fun hf => ?_)
        · refine g_iconst X dX5_sizeAfterReplacing_74 ?_
          refine g_sub (lv' := [(0, .ref (b 0)), (1, .ref (a 0)), (3, ii x3), (4, ii x4), (6, ii y6)]) [1, 2, 3, 4, 6] rfl ?_
          exact hj8 1 hf
        · refine g_aload_n X dX5_sizeAfterReplacing_54 1 rfl rfl ?_
          refine g_get X (v := .ref (b 5)) 23 1 dX5_sizeAfterReplacing_55 rfl rfl iw_X5_sizeAfterReplacing_X5 (by decide) fl_X5_sizeAfterReplacing_18 rfl ?_
          refine g_iload X dX5_sizeAfterReplacing_58 0 rfl ?_
          refine g_iconst X dX5_sizeAfterReplacing_60 ?_
          refine g_iadd X dX5_sizeAfterReplacing_61 ?_
          refine g_iald X hf (by decide) 28 0 dX5_sizeAfterReplacing_62 rfl rfl (fun v9 hf => ?_)
          refine g_aload_n X dX5_sizeAfterReplacing_63 1 rfl rfl ?_
          refine g_get X (v := .ref (b 5)) 23 1 dX5_sizeAfterReplacing_64 rfl rfl iw_X5_sizeAfterReplacing_X5 (by decide) fl_X5_sizeAfterReplacing_18 rfl ?_
          refine g_iload X dX5_sizeAfterReplacing_67 0 rfl ?_
          refine g_iald X hf (by decide) 28 0 dX5_sizeAfterReplacing_69 rfl rfl (fun v10 hf => ?_)
          refine g_isub X dX5_sizeAfterReplacing_70 ?_
          refine g_goto X 75 dX5_sizeAfterReplacing_71 (by decide) ?_
          refine g_sub (lv' := [(0, .ref (b 0)), (1, .ref (a 0)), (3, ii x3), (4, ii x4), (6, ii y6)]) [1, 2, 3, 4, 6] rfl ?_
          exact hj8 (v9 - v10) hf
    · refine g_sub (lv' := [(5, ii y5)]) [4] rfl ?_
      exact hk y5 hf
set_option maxHeartbeats 4000000 in
set_option maxRecDepth 100000 in
theorem X5_sizeAfterReplacing_go (K : KE) (l : Launch) (a : Nat → Nat) (b : Nat → Nat) (WC : va_W) {p : Program} {e : Env} {s : State} {m : MethodId} {args : Array Value} {below : List Frame} {meth : Method} {c : Code} (X : CX p s m args c K.1 vwCl (kT K) (va_A WC s.heap.size) cX5_sizeAfterReplacing 8 wsX5_sizeAfterReplacing RX5) (hr : meth.sig.returnType = (some .int)) (hlk : meth.locks = false) (V0 : St) (V1 : Mv) (p2 : Int) (p3 : Int) (p4 : Int) (res : Int) (hf : X5_sizeAfterReplacing V0 V1 p2 p3 p4 = some res) : GO p l e rmX5_sizeAfterReplacing s m args below meth c K.1 vwCl (va_A WC s.heap.size) (MQ below (QC K.1 vwCl (some (ii res)) WC (c8 K a V0 ++ (c5 K b V1)) s.heap.size) args s 0 0 (va_A WC s.heap.size)) 8 0 0 0 [(0, .ref (b 0)), (1, .ref (a 0)), (2, ii p2), (3, ii p3), (4, ii p4)] [] (c8 K a V0 ++ (c5 K b V1)) := by
  rw [X5_sizeAfterReplacing] at hf
  refine g_aload_n X dX5_sizeAfterReplacing_0 1 rfl rfl ?_
  refine g_get X (v := .ref (ash a 18 0)) 0 7 dX5_sizeAfterReplacing_1 rfl rfl iw_X5_sizeAfterReplacing_X8 (by decide) fl_X5_sizeAfterReplacing_26 rfl ?_
  refine g_get X (v := ii V0.2.2.2.2.2.2.2.1.1) 18 0 dX5_sizeAfterReplacing_4 rfl rfl iw_X5_sizeAfterReplacing_X6 (by decide) fl_X5_sizeAfterReplacing_31 rfl ?_
  refine g_aload_n X dX5_sizeAfterReplacing_7 1 rfl rfl ?_
  refine g_get X (v := .ref (ash a 18 0)) 0 7 dX5_sizeAfterReplacing_8 rfl rfl iw_X5_sizeAfterReplacing_X8 (by decide) fl_X5_sizeAfterReplacing_26 rfl ?_
  refine g_iload_n X dX5_sizeAfterReplacing_11 2 rfl rfl ?_
  obtain ⟨v1, hc2, hf⟩ := Option.bind_eq_some_iff.mp hf
  refine g_callV X (As := [ii p2]) (st := [ii V0.2.2.2.2.2.2.2.1.1]) (st1 := [ii v1, ii V0.2.2.2.2.2.2.2.1.1]) (ws' := c8 K a V0 ++ (c5 K b V1)) (X6_endOf_ok K l (ash a 18) V0.2.2.2.2.2.2.2.1 p2 v1 hc2) gX5_sizeAfterReplacing_X6_endOf rfl 1 (by decide +kernel) ⟨rfl, rfl⟩ ⟨Nat.le_of_ble_eq_true rfl, Nat.le_of_ble_eq_true rfl⟩ ⟨Nat.zero_le _, Nat.zero_le _⟩ 18 rfl rfl rfl rfl (Nat.le_of_ble_eq_true rfl) dX5_sizeAfterReplacing_12 (SG.one ([(a 0, .inr (8, [.ref (ash a 1 0), .ref (ash a 5 0), .ref (ash a 9 0), ii V0.2.2.2.1, .ref (a 13), ii V0.2.2.2.2.2.1, .ref (ash a 14 0), .ref (ash a 18 0), .ref (a 22)]))] ++ (c1 K 6 (ash a 1) V0.1 ++ (c1 K 6 (ash a 5) V0.2.1 ++ (c1 K 4 (ash a 9) V0.2.2.1 ++ ([(a 13, .inl (K.2.1, 6, .inl (arI V0.2.2.2.2.1)))] ++ (c4 K (ash a 14) V0.2.2.2.2.2.2.1)))))) ([(a 22, .inl (K.2.1, 8, .inl (arI V0.2.2.2.2.2.2.2.2)))] ++ (c5 K b V1)) rfl rfl rfl) rfl ?_
  refine g_iload_n X dX5_sizeAfterReplacing_15 2 rfl rfl ?_
  refine g_isub X dX5_sizeAfterReplacing_16 ?_
  refine g_isub X dX5_sizeAfterReplacing_17 ?_
  refine g_iconst X dX5_sizeAfterReplacing_18 ?_
  refine g_iadd X dX5_sizeAfterReplacing_19 ?_
  refine g_istore X (lv' := [(5, ii ((V0.2.2.2.2.2.2.2.1.1 - (v1 - p2)) + 1)), (0, .ref (b 0)), (1, .ref (a 0)), (2, ii p2), (3, ii p3), (4, ii p4)]) dX5_sizeAfterReplacing_20 (by decide) rfl ?_
  refine g_iconst X dX5_sizeAfterReplacing_22 ?_
  refine g_istore X (lv' := [(6, ii 0), (5, ii ((V0.2.2.2.2.2.2.2.1.1 - (v1 - p2)) + 1)), (0, .ref (b 0)), (1, .ref (a 0)), (2, ii p2), (3, ii p3), (4, ii p4)]) dX5_sizeAfterReplacing_23 (by decide) rfl ?_
  refine g_sub (lv' := [(0, .ref (b 0)), (1, .ref (a 0)), (3, ii p3), (4, ii p4), (5, ii ((V0.2.2.2.2.2.2.2.1.1 - (v1 - p2)) + 1)), (6, ii 0)]) [2, 3, 5, 6, 1, 0] rfl ?_
  refine X5_sizeAfterReplacing_L25_ok K l a b WC X hr hlk V0 V1 p3 p4 res FU ((V0.2.2.2.2.2.2.2.1.1 - (v1 - p2)) + 1) 0 hf (fun w11 hf => ?_)
  refine g_iload X dX5_sizeAfterReplacing_84 0 rfl ?_
  cases hf
  exact g_iret X hr hlk dX5_sizeAfterReplacing_86
set_option maxHeartbeats 4000000 in
set_option maxRecDepth 100000 in
theorem X5_sizeAfterReplacing_ok (K : KE) (l : Launch) (a : Nat → Nat) (b : Nat → Nat) (V0 : St) (V1 : Mv) (p2 : Int) (p3 : Int) (p4 : Int) (res : Int) (hf : X5_sizeAfterReplacing V0 V1 p2 p3 p4 = some res) : CT l K.1 vwCl (kT K) yX5_sizeAfterReplacing wsX5_sizeAfterReplacing rmX5_sizeAfterReplacing [.ref (b 0), .ref (a 0), ii p2, ii p3, ii p4] (some (ii res)) (c8 K a V0 ++ (c5 K b V1)) (c8 K a V0 ++ (c5 K b V1)) :=
  CT.mk (cc := cX5_sizeAfterReplacing) (maxL := 8) (ret := (some .int)) (by decide) rfl (Nat.le_of_ble_eq_true rfl) (fun p e s m below meth c X hr hlk => X5_sizeAfterReplacing_go K l a b _ X hr hlk V0 V1 p2 p3 p4 res hf)
theorem wd_X6_replaceIn_ac42 : Cond.methodLink RX6 42 arraycopyName ∈ wsX6_replaceIn := by decide +kernel
theorem wd_X6_replaceIn_an : Cond.native arraycopyName ∈ wsX6_replaceIn := by decide +kernel
theorem wd_X6_replaceIn_as : Cond.static arraycopyName ∈ wsX6_replaceIn := by decide +kernel
theorem wd_X6_replaceIn_ai : Cond.initialized "java/lang/System" ∈ wsX6_replaceIn := by decide +kernel
def rmX6_replaceIn : Room := { frames := 1, cells := 0, slots := 0, locals := 26 }
def X6_replaceIn (n0 : Nat) (n1 : Nat) (ar0 : Arr) (ar1 : Arr) (p1 : Int) (p2 : Int) (p4 : Int) (p5 : Int) : Option (Arr) := cpK n0 n0 ar0 ar0 p1 (p4 + p5) p2 (fun f1 => cpK n1 n0 ar1 f1 0 p4 p5 (fun f2 => some f2))
set_option maxHeartbeats 4000000 in
set_option maxRecDepth 100000 in
theorem X6_replaceIn_go (K : KE) (l : Launch) (n0 : Nat) (n1 : Nat) (hn0 : n0 ≤ 1000) (hn1 : n1 ≤ 1000) (a : Nat) (b : Nat) (WC : va_W) {p : Program} {e : Env} {s : State} {m : MethodId} {args : Array Value} {below : List Frame} {meth : Method} {c : Code} (X : CX p s m args c K.1 vwCl (kT K) (va_A WC s.heap.size) cX6_replaceIn 6 wsX6_replaceIn RX6) (hr : meth.sig.returnType = none) (hlk : meth.locks = false) (ar0 : Arr) (ar1 : Arr) (p1 : Int) (p2 : Int) (p4 : Int) (p5 : Int) (res : Arr) (hf : X6_replaceIn n0 n1 ar0 ar1 p1 p2 p4 p5 = some res) : GO p l e rmX6_replaceIn s m args below meth c K.1 vwCl (va_A WC s.heap.size) (MQ below (QC K.1 vwCl none WC ([(a, .inl (K.2.1, n0, .inl (arI res)))] ++ ([(b, .inl (K.2.1, n1, .inl (arI ar1)))])) s.heap.size) args s 0 0 (va_A WC s.heap.size)) 6 0 0 0 [(0, .ref (a)), (1, ii p1), (2, ii p2), (3, .ref (b)), (4, ii p4), (5, ii p5)] [] ([(a, .inl (K.2.1, n0, .inl (arI ar0)))] ++ ([(b, .inl (K.2.1, n1, .inl (arI ar1)))])) := by
  rw [X6_replaceIn] at hf
  refine g_aload_n X dX6_replaceIn_0 0 rfl rfl ?_
  refine g_iload_n X dX6_replaceIn_1 1 rfl rfl ?_
  refine g_aload_n X dX6_replaceIn_2 0 rfl rfl ?_
  refine g_iload X dX6_replaceIn_3 4 rfl ?_
  refine g_iload X dX6_replaceIn_5 5 rfl ?_
  refine g_iadd X dX6_replaceIn_7 ?_
  refine g_iload_n X dX6_replaceIn_8 2 rfl rfl ?_
  refine g_copy X hf (by omega) (by omega) wd_X6_replaceIn_ac42 wd_X6_replaceIn_an wd_X6_replaceIn_as wd_X6_replaceIn_ai 0 0 0 0 rfl rfl rfl rfl ⟨Nat.le_of_ble_eq_true rfl, Nat.le_of_ble_eq_true rfl⟩ dX6_replaceIn_9 (fun f1 => [(a, .inl (K.2.1, n0, .inl (arI f1)))] ++ ([(b, .inl (K.2.1, n1, .inl (arI ar1)))])) (fun _ => rfl) (fun f1 hf => ?_)
  refine g_aload_n X dX6_replaceIn_12 3 rfl rfl ?_
  refine g_iconst X dX6_replaceIn_13 ?_
  refine g_aload_n X dX6_replaceIn_14 0 rfl rfl ?_
  refine g_iload X dX6_replaceIn_15 4 rfl ?_
  refine g_iload X dX6_replaceIn_17 5 rfl ?_
  refine g_copy X hf (by omega) (by omega) wd_X6_replaceIn_ac42 wd_X6_replaceIn_an wd_X6_replaceIn_as wd_X6_replaceIn_ai 1 0 0 0 rfl rfl rfl rfl ⟨Nat.le_of_ble_eq_true rfl, Nat.le_of_ble_eq_true rfl⟩ dX6_replaceIn_19 (fun f2 => [(a, .inl (K.2.1, n0, .inl (arI f2)))] ++ ([(b, .inl (K.2.1, n1, .inl (arI ar1)))])) (fun _ => rfl) (fun f2 hf => ?_)
  cases hf
  exact g_vret X hr hlk dX6_replaceIn_22
set_option maxHeartbeats 4000000 in
set_option maxRecDepth 100000 in
theorem X6_replaceIn_ok (K : KE) (l : Launch) (n0 : Nat) (n1 : Nat) (hn0 : n0 ≤ 1000) (hn1 : n1 ≤ 1000) (a : Nat) (b : Nat) (ar0 : Arr) (ar1 : Arr) (p1 : Int) (p2 : Int) (p4 : Int) (p5 : Int) (res : Arr) (hf : X6_replaceIn n0 n1 ar0 ar1 p1 p2 p4 p5 = some res) : CT l K.1 vwCl (kT K) yX6_replaceIn wsX6_replaceIn rmX6_replaceIn [.ref (a), ii p1, ii p2, .ref (b), ii p4, ii p5] none ([(a, .inl (K.2.1, n0, .inl (arI ar0)))] ++ ([(b, .inl (K.2.1, n1, .inl (arI ar1)))])) ([(a, .inl (K.2.1, n0, .inl (arI res)))] ++ ([(b, .inl (K.2.1, n1, .inl (arI ar1)))])) :=
  CT.mk (cc := cX6_replaceIn) (maxL := 6) (ret := none) (by decide) rfl (Nat.le_of_ble_eq_true rfl) (fun p e s m below meth c X hr hlk => X6_replaceIn_go K l n0 n1 hn0 hn1 a b _ X hr hlk ar0 ar1 p1 p2 p4 p5 res hf)
theorem iw_X6_replace_X6 : ∀ w ∈ u_ws RX6 TX6 4, w ∈ wsX6_replace := by decide +kernel
theorem fl_X6_replace_9 : Cond.fieldLink RX6 9 (TX6 0).1 (TX6 0).2.1 (TX6 0).2.2.1 ∈ wsX6_replace := by decide +kernel
theorem fl_X6_replace_15 : Cond.fieldLink RX6 15 (TX6 1).1 (TX6 1).2.1 (TX6 1).2.2.1 ∈ wsX6_replace := by decide +kernel
theorem fl_X6_replace_19 : Cond.fieldLink RX6 19 (TX6 2).1 (TX6 2).2.1 (TX6 2).2.2.1 ∈ wsX6_replace := by decide +kernel
theorem fl_X6_replace_22 : Cond.fieldLink RX6 22 (TX6 3).1 (TX6 3).2.1 (TX6 3).2.2.1 ∈ wsX6_replace := by decide +kernel
def rmX6_replace : Room := { frames := 2, cells := 0, slots := 0, locals := 51 }
def X6_replace (V0 : Pg) (V1 : Pg) (p1 : Int) (p2 : Int) : Option (Pg) := brLT p1 0 (some V0) (brLT p2 p1 (some V0) (brLT (V0.1 - p2) 0 (some V0) (brLE ((p1 + V1.1) + (V0.1 - p2)) 30 ((X6_replaceIn 30 30 V0.2.1 V1.2.1 p2 (V0.1 - p2) p1 V1.1).bind (fun v1 => (X6_replaceIn 30 30 V0.2.2.1 V1.2.2.1 p2 (V0.1 - p2) p1 V1.1).bind (fun v3 => (X6_replaceIn 30 30 V0.2.2.2 V1.2.2.2 p2 (V0.1 - p2) p1 V1.1).bind (fun v5 => some (((p1 + V1.1) + (V0.1 - p2)), v1, v3, v5))))) (some V0))))
set_option maxHeartbeats 4000000 in
set_option maxRecDepth 100000 in
theorem X6_replace_go (K : KE) (l : Launch) (a : Nat → Nat) (b : Nat → Nat) (WC : va_W) {p : Program} {e : Env} {s : State} {m : MethodId} {args : Array Value} {below : List Frame} {meth : Method} {c : Code} (X : CX p s m args c K.1 vwCl (kT K) (va_A WC s.heap.size) cX6_replace 6 wsX6_replace RX6) (hr : meth.sig.returnType = none) (hlk : meth.locks = false) (V0 : Pg) (V1 : Pg) (p1 : Int) (p2 : Int) (res : Pg) (hf : X6_replace V0 V1 p1 p2 = some res) : GO p l e rmX6_replace s m args below meth c K.1 vwCl (va_A WC s.heap.size) (MQ below (QC K.1 vwCl none WC (c6 K a res ++ (c6 K b V1)) s.heap.size) args s 0 0 (va_A WC s.heap.size)) 6 0 0 0 [(0, .ref (a 0)), (1, ii p1), (2, ii p2), (3, .ref (b 0))] [] (c6 K a V0 ++ (c6 K b V1)) := by
  rw [X6_replace] at hf
  refine g_aload_n X dX6_replace_0 0 rfl rfl ?_
  refine g_get X (v := ii V0.1) 0 0 dX6_replace_1 rfl rfl iw_X6_replace_X6 (by decide) fl_X6_replace_9 rfl ?_
  refine g_iload_n X dX6_replace_4 2 rfl rfl ?_
  refine g_isub X dX6_replace_5 ?_
  refine g_istore X (lv' := [(4, ii (V0.1 - p2)), (0, .ref (a 0)), (1, ii p1), (2, ii p2), (3, .ref (b 0))]) dX6_replace_6 (by decide) rfl ?_
  refine g_iload_n X dX6_replace_8 2 rfl rfl ?_
  refine g_aload_n X dX6_replace_9 4 rfl rfl ?_
  refine g_get X (v := ii V1.1) 4 0 dX6_replace_10 rfl rfl iw_X6_replace_X6 (by decide) fl_X6_replace_9 rfl ?_
  refine g_iadd X dX6_replace_13 ?_
  refine g_iload X dX6_replace_14 0 rfl ?_
  refine g_iadd X dX6_replace_16 ?_
  refine g_istore X (lv' := [(5, ii ((p1 + V1.1) + (V0.1 - p2))), (4, ii (V0.1 - p2)), (0, .ref (a 0)), (1, ii p1), (2, ii p2), (3, .ref (b 0))]) dX6_replace_17 (by decide) rfl ?_
  refine g_iload_n X dX6_replace_19 3 rfl rfl ?_
  refine g_if_lt X hf 40 dX6_replace_20 (by decide) (fun hf => ?_) (fun hf => ?_)
  · cases hf
    exact g_vret X hr hlk dX6_replace_40
  · refine g_iload_n X dX6_replace_23 4 rfl rfl ?_
    refine g_iload_n X dX6_replace_24 3 rfl rfl ?_
    refine g_icmp_lt X hf 40 dX6_replace_25 (by decide) (fun hf => ?_) (fun hf => ?_)
    · cases hf
      exact g_vret X hr hlk dX6_replace_40
    · refine g_iload X dX6_replace_28 1 rfl ?_
      refine g_if_lt X hf 40 dX6_replace_30 (by decide) (fun hf => ?_) (fun hf => ?_)
      · cases hf
        exact g_vret X hr hlk dX6_replace_40
      · refine g_iload X dX6_replace_33 0 rfl ?_
        refine g_bipush X dX6_replace_35 (by decide +kernel) ?_
        refine g_icmp_le X hf 41 dX6_replace_37 (by decide) (fun hf => ?_) (fun hf => ?_)
        · refine g_aload_n X dX6_replace_41 2 rfl rfl ?_
          refine g_get X (v := .ref (a 1)) 0 1 dX6_replace_42 rfl rfl iw_X6_replace_X6 (by decide) fl_X6_replace_15 rfl ?_
          refine g_iload_n X dX6_replace_45 4 rfl rfl ?_
          refine g_iload X dX6_replace_46 1 rfl ?_
          refine g_aload_n X dX6_replace_48 5 rfl rfl ?_
          refine g_get X (v := .ref (b 1)) 4 1 dX6_replace_49 rfl rfl iw_X6_replace_X6 (by decide) fl_X6_replace_15 rfl ?_
          refine g_iload_n X dX6_replace_52 3 rfl rfl ?_
          refine g_aload_n X dX6_replace_53 5 rfl rfl ?_
          refine g_get X (v := ii V1.1) 4 0 dX6_replace_54 rfl rfl iw_X6_replace_X6 (by decide) fl_X6_replace_9 rfl ?_
          obtain ⟨v1, hc2, hf⟩ := Option.bind_eq_some_iff.mp hf
          refine g_callS X (As := [.ref (a 1), ii p2, ii (V0.1 - p2), .ref (b 1), ii p1, ii V1.1]) (st := []) (st1 := []) (ws' := c6 K a (V0.1, v1, V0.2.2.1, V0.2.2.2) ++ (c6 K b V1)) (X6_replaceIn_ok K l 30 30 (by decide) (by decide) (a 1) (b 1) V0.2.1 V1.2.1 p2 (V0.1 - p2) p1 V1.1 v1 hc2) gX6_replace_X6_replaceIn rfl 6 (by decide +kernel) ⟨rfl, rfl⟩ ⟨Nat.le_of_ble_eq_true rfl, Nat.le_of_ble_eq_true rfl⟩ ⟨Nat.zero_le _, Nat.zero_le _⟩ rfl rfl (Nat.le_of_ble_eq_true rfl) dX6_replace_57 (SG.two ([(a 0, .inr (6, [ii V0.1, .ref (a 1), .ref (a 2), .ref (a 3)]))]) ([(a 2, .inl (K.2.1, 30, .inl (arI V0.2.2.1)))] ++ ([(a 3, .inl (K.2.1, 30, .inl (arI V0.2.2.2)))] ++ ([(b 0, .inr (6, [ii V1.1, .ref (b 1), .ref (b 2), .ref (b 3)]))]))) ([(b 2, .inl (K.2.1, 30, .inl (arI V1.2.2.1)))] ++ ([(b 3, .inl (K.2.1, 30, .inl (arI V1.2.2.2)))])) rfl rfl rfl) rfl ?_
          refine g_aload_n X dX6_replace_60 2 rfl rfl ?_
          refine g_get X (v := .ref (a 2)) 0 2 dX6_replace_61 rfl rfl iw_X6_replace_X6 (by decide) fl_X6_replace_19 rfl ?_
          refine g_iload_n X dX6_replace_64 4 rfl rfl ?_
          refine g_iload X dX6_replace_65 1 rfl ?_
          refine g_aload_n X dX6_replace_67 5 rfl rfl ?_
          refine g_get X (v := .ref (b 2)) 4 2 dX6_replace_68 rfl rfl iw_X6_replace_X6 (by decide) fl_X6_replace_19 rfl ?_
          refine g_iload_n X dX6_replace_71 3 rfl rfl ?_
          refine g_aload_n X dX6_replace_72 5 rfl rfl ?_
          refine g_get X (v := ii V1.1) 4 0 dX6_replace_73 rfl rfl iw_X6_replace_X6 (by decide) fl_X6_replace_9 rfl ?_
          obtain ⟨v3, hc4, hf⟩ := Option.bind_eq_some_iff.mp hf
          refine g_callS X (As := [.ref (a 2), ii p2, ii (V0.1 - p2), .ref (b 2), ii p1, ii V1.1]) (st := []) (st1 := []) (ws' := c6 K a (V0.1, v1, v3, V0.2.2.2) ++ (c6 K b V1)) (X6_replaceIn_ok K l 30 30 (by decide) (by decide) (a 2) (b 2) V0.2.2.1 V1.2.2.1 p2 (V0.1 - p2) p1 V1.1 v3 hc4) gX6_replace_X6_replaceIn rfl 6 (by decide +kernel) ⟨rfl, rfl⟩ ⟨Nat.le_of_ble_eq_true rfl, Nat.le_of_ble_eq_true rfl⟩ ⟨Nat.zero_le _, Nat.zero_le _⟩ rfl rfl (Nat.le_of_ble_eq_true rfl) dX6_replace_76 (SG.two ([(a 0, .inr (6, [ii V0.1, .ref (a 1), .ref (a 2), .ref (a 3)]))] ++ ([(a 1, .inl (K.2.1, 30, .inl (arI v1)))])) ([(a 3, .inl (K.2.1, 30, .inl (arI V0.2.2.2)))] ++ ([(b 0, .inr (6, [ii V1.1, .ref (b 1), .ref (b 2), .ref (b 3)]))] ++ ([(b 1, .inl (K.2.1, 30, .inl (arI V1.2.1)))]))) ([(b 3, .inl (K.2.1, 30, .inl (arI V1.2.2.2)))]) rfl rfl rfl) rfl ?_
          refine g_aload_n X dX6_replace_79 2 rfl rfl ?_
          refine g_get X (v := .ref (a 3)) 0 3 dX6_replace_80 rfl rfl iw_X6_replace_X6 (by decide) fl_X6_replace_22 rfl ?_
          refine g_iload_n X dX6_replace_83 4 rfl rfl ?_
          refine g_iload X dX6_replace_84 1 rfl ?_
          refine g_aload_n X dX6_replace_86 5 rfl rfl ?_
          refine g_get X (v := .ref (b 3)) 4 3 dX6_replace_87 rfl rfl iw_X6_replace_X6 (by decide) fl_X6_replace_22 rfl ?_
          refine g_iload_n X dX6_replace_90 3 rfl rfl ?_
          refine g_aload_n X dX6_replace_91 5 rfl rfl ?_
          refine g_get X (v := ii V1.1) 4 0 dX6_replace_92 rfl rfl iw_X6_replace_X6 (by decide) fl_X6_replace_9 rfl ?_
          obtain ⟨v5, hc6, hf⟩ := Option.bind_eq_some_iff.mp hf
          refine g_callS X (As := [.ref (a 3), ii p2, ii (V0.1 - p2), .ref (b 3), ii p1, ii V1.1]) (st := []) (st1 := []) (ws' := c6 K a (V0.1, v1, v3, v5) ++ (c6 K b V1)) (X6_replaceIn_ok K l 30 30 (by decide) (by decide) (a 3) (b 3) V0.2.2.2 V1.2.2.2 p2 (V0.1 - p2) p1 V1.1 v5 hc6) gX6_replace_X6_replaceIn rfl 6 (by decide +kernel) ⟨rfl, rfl⟩ ⟨Nat.le_of_ble_eq_true rfl, Nat.le_of_ble_eq_true rfl⟩ ⟨Nat.zero_le _, Nat.zero_le _⟩ rfl rfl (Nat.le_of_ble_eq_true rfl) dX6_replace_95 (SG.two ([(a 0, .inr (6, [ii V0.1, .ref (a 1), .ref (a 2), .ref (a 3)]))] ++ ([(a 1, .inl (K.2.1, 30, .inl (arI v1)))] ++ ([(a 2, .inl (K.2.1, 30, .inl (arI v3)))]))) ([(b 0, .inr (6, [ii V1.1, .ref (b 1), .ref (b 2), .ref (b 3)]))] ++ ([(b 1, .inl (K.2.1, 30, .inl (arI V1.2.1)))] ++ ([(b 2, .inl (K.2.1, 30, .inl (arI V1.2.2.1)))]))) [] rfl rfl rfl) rfl ?_
          refine g_aload_n X dX6_replace_98 2 rfl rfl ?_
          refine g_iload X dX6_replace_99 0 rfl ?_
          refine g_puti X 0 0 dX6_replace_101 rfl rfl iw_X6_replace_X6 tyX6_ok nmX6 (by decide) fl_X6_replace_9 rfl rfl (Nat.le_of_ble_eq_true rfl) (ws' := c6 K a (((p1 + V1.1) + (V0.1 - p2)), v1, v3, v5) ++ (c6 K b V1)) rfl ?_
          cases hf
          exact g_vret X hr hlk dX6_replace_104
        · cases hf
          exact g_vret X hr hlk dX6_replace_40
set_option maxHeartbeats 4000000 in
set_option maxRecDepth 100000 in
theorem X6_replace_ok (K : KE) (l : Launch) (a : Nat → Nat) (b : Nat → Nat) (V0 : Pg) (V1 : Pg) (p1 : Int) (p2 : Int) (res : Pg) (hf : X6_replace V0 V1 p1 p2 = some res) : CT l K.1 vwCl (kT K) yX6_replace wsX6_replace rmX6_replace [.ref (a 0), ii p1, ii p2, .ref (b 0)] none (c6 K a V0 ++ (c6 K b V1)) (c6 K a res ++ (c6 K b V1)) :=
  CT.mk (cc := cX6_replace) (maxL := 6) (ret := none) (by decide) rfl (Nat.le_of_ble_eq_true rfl) (fun p e s m below meth c X hr hlk => X6_replace_go K l a b _ X hr hlk V0 V1 p1 p2 res hf)
