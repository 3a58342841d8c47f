theorem wd_X6_replaceIn_ac42 : Cond.methodLink RX6 42 arraycopyName ∈ wsX6_replaceIn := by decide +kernel
theorem wd_X6_replaceIn_an : Cond.native arraycopyName ∈ wsX6_replaceIn := by decide +kernel
theorem wd_X6_replaceIn_as : Cond.static arraycopyName ∈ wsX6_replaceIn := by decide +kernel
theorem wd_X6_replaceIn_ai : Cond.initialized "java/lang/System" ∈ wsX6_replaceIn := by decide +kernel
def rmX6_replaceIn : Room := { frames := 1, cells := 0, slots := 0, locals := 26 }
def X6_replaceIn (n0 : Nat) (n1 : Nat) (ar0 : Arr) (ar1 : Arr) (p1 : Int) (p2 : Int) (p4 : Int) (p5 : Int) : Option (Arr) := cpK n0 n0 ar0 ar0 p1 (p4 + p5) p2 (fun f1 => cpK n1 n0 ar1 f1 0 p4 p5 (fun f2 => some f2))
set_option maxHeartbeats 4000000 in
set_option maxRecDepth 100000 in
theorem X6_replaceIn_go (K : KE) (l : Launch) (n0 : Nat) (n1 : Nat) (hn0 : n0 ≤ 1000) (hn1 : n1 ≤ 1000) (a : Nat) (b : Nat) (WC : va_W) {p : Program} {e : Env} {s : State} {m : MethodId} {args : Array Value} {below : List Frame} {meth : Method} {c : Code} (X : CX p s m args c K.1 vwCl (kT K) (va_A WC s.heap.size) cX6_replaceIn 6 wsX6_replaceIn RX6) (hr : meth.sig.returnType = none) (hlk : meth.locks = false) (ar0 : Arr) (ar1 : Arr) (p1 : Int) (p2 : Int) (p4 : Int) (p5 : Int) (res : Arr) (hf : X6_replaceIn n0 n1 ar0 ar1 p1 p2 p4 p5 = some res) : GO p l e rmX6_replaceIn s m args below meth c K.1 vwCl (va_A WC s.heap.size) (MQ below (QC K.1 vwCl none WC ([(a, .inl (K.2.1, n0, .inl (arI res)))] ++ ([(b, .inl (K.2.1, n1, .inl (arI ar1)))])) s.heap.size) args s 0 0 (va_A WC s.heap.size)) 6 0 0 0 [(0, .ref (a)), (1, ii p1), (2, ii p2), (3, .ref (b)), (4, ii p4), (5, ii p5)] [] ([(a, .inl (K.2.1, n0, .inl (arI ar0)))] ++ ([(b, .inl (K.2.1, n1, .inl (arI ar1)))])) := by
  rw [X6_replaceIn] at hf
  refine g_aload_n X dX6_replaceIn_0 0 rfl rfl ?_
  refine g_iload_n X dX6_replaceIn_1 1 rfl rfl ?_
  refine g_aload_n X dX6_replaceIn_2 0 rfl rfl ?_
  refine g_iload X dX6_replaceIn_3 4 rfl ?_
  refine g_iload X dX6_replaceIn_5 5 rfl ?_
  refine g_iadd X dX6_replaceIn_7 ?_
  refine g_iload_n X dX6_replaceIn_8 2 rfl rfl ?_
  refine g_copy X hf (by omega) (by omega) wd_X6_replaceIn_ac42 wd_X6_replaceIn_an wd_X6_replaceIn_as wd_X6_replaceIn_ai 0 0 0 0 rfl rfl rfl rfl ⟨Nat.le_of_ble_eq_true rfl, Nat.le_of_ble_eq_true rfl⟩ dX6_replaceIn_9 (fun f1 => [(a, .inl (K.2.1, n0, .inl (arI f1)))] ++ ([(b, .inl (K.2.1, n1, .inl (arI ar1)))])) (fun _ => rfl) (fun f1 hf => ?_)
  refine g_aload_n X dX6_replaceIn_12 3 rfl rfl ?_
  refine g_iconst X dX6_replaceIn_13 ?_
  refine g_aload_n X dX6_replaceIn_14 0 rfl rfl ?_
  refine g_iload X dX6_replaceIn_15 4 rfl ?_
  refine g_iload X dX6_replaceIn_17 5 rfl ?_
  refine g_copy X hf (by omega) (by omega) wd_X6_replaceIn_ac42 wd_X6_replaceIn_an wd_X6_replaceIn_as wd_X6_replaceIn_ai 1 0 0 0 rfl rfl rfl rfl ⟨Nat.le_of_ble_eq_true rfl, Nat.le_of_ble_eq_true rfl⟩ dX6_replaceIn_19 (fun f2 => [(a, .inl (K.2.1, n0, .inl (arI f2)))] ++ ([(b, .inl (K.2.1, n1, .inl (arI ar1)))])) (fun _ => rfl) (fun f2 hf => ?_)
  cases hf
  exact g_vret X hr hlk dX6_replaceIn_22
set_option maxHeartbeats 4000000 in
set_option maxRecDepth 100000 in
theorem X6_replaceIn_ok (K : KE) (l : Launch) (n0 : Nat) (n1 : Nat) (hn0 : n0 ≤ 1000) (hn1 : n1 ≤ 1000) (a : Nat) (b : Nat) (ar0 : Arr) (ar1 : Arr) (p1 : Int) (p2 : Int) (p4 : Int) (p5 : Int) (res : Arr) (hf : X6_replaceIn n0 n1 ar0 ar1 p1 p2 p4 p5 = some res) : CT l K.1 vwCl (kT K) yX6_replaceIn wsX6_replaceIn rmX6_replaceIn [.ref (a), ii p1, ii p2, .ref (b), ii p4, ii p5] none ([(a, .inl (K.2.1, n0, .inl (arI ar0)))] ++ ([(b, .inl (K.2.1, n1, .inl (arI ar1)))])) ([(a, .inl (K.2.1, n0, .inl (arI res)))] ++ ([(b, .inl (K.2.1, n1, .inl (arI ar1)))])) :=
  CT.mk (cc := cX6_replaceIn) (maxL := 6) (ret := none) (by decide) rfl (Nat.le_of_ble_eq_true rfl) (fun p e s m below meth c X hr hlk => X6_replaceIn_go K l n0 n1 hn0 hn1 a b _ X hr hlk ar0 ar1 p1 p2 p4 p5 res hf)
theorem iw_X6_replace_X6 : ∀ w ∈ u_ws RX6 TX6 4, w ∈ wsX6_replace := by decide +kernel
theorem fl_X6_replace_9 : Cond.fieldLink RX6 9 (TX6 0).1 (TX6 0).2.1 (TX6 0).2.2.1 ∈ wsX6_replace := by decide +kernel
theorem fl_X6_replace_15 : Cond.fieldLink RX6 15 (TX6 1).1 (TX6 1).2.1 (TX6 1).2.2.1 ∈ wsX6_replace := by decide +kernel
theorem fl_X6_replace_19 : Cond.fieldLink RX6 19 (TX6 2).1 (TX6 2).2.1 (TX6 2).2.2.1 ∈ wsX6_replace := by decide +kernel
theorem fl_X6_replace_22 : Cond.fieldLink RX6 22 (TX6 3).1 (TX6 3).2.1 (TX6 3).2.2.1 ∈ wsX6_replace := by decide +kernel
def rmX6_replace : Room := { frames := 2, cells := 0, slots := 0, locals := 51 }
def X6_replace (V0 : Pg) (V1 : Pg) (p1 : Int) (p2 : Int) : Option (Pg) := brLT p1 0 (some V0) (brLT p2 p1 (some V0) (brLT (V0.1 - p2) 0 (some V0) (brLE ((p1 + V1.1) + (V0.1 - p2)) 30 ((X6_replaceIn 30 30 V0.2.1 V1.2.1 p2 (V0.1 - p2) p1 V1.1).bind (fun v1 => (X6_replaceIn 30 30 V0.2.2.1 V1.2.2.1 p2 (V0.1 - p2) p1 V1.1).bind (fun v3 => (X6_replaceIn 30 30 V0.2.2.2 V1.2.2.2 p2 (V0.1 - p2) p1 V1.1).bind (fun v5 => some (((p1 + V1.1) + (V0.1 - p2)), v1, v3, v5))))) (some V0))))
set_option maxHeartbeats 4000000 in
set_option maxRecDepth 100000 in
theorem X6_replace_go (K : KE) (l : Launch) (a : Nat → Nat) (b : Nat → Nat) (WC : va_W) {p : Program} {e : Env} {s : State} {m : MethodId} {args : Array Value} {below : List Frame} {meth : Method} {c : Code} (X : CX p s m args c K.1 vwCl (kT K) (va_A WC s.heap.size) cX6_replace 6 wsX6_replace RX6) (hr : meth.sig.returnType = none) (hlk : meth.locks = false) (V0 : Pg) (V1 : Pg) (p1 : Int) (p2 : Int) (res : Pg) (hf : X6_replace V0 V1 p1 p2 = some res) : GO p l e rmX6_replace s m args below meth c K.1 vwCl (va_A WC s.heap.size) (MQ below (QC K.1 vwCl none WC (c6 K a res ++ (c6 K b V1)) s.heap.size) args s 0 0 (va_A WC s.heap.size)) 6 0 0 0 [(0, .ref (a 0)), (1, ii p1), (2, ii p2), (3, .ref (b 0))] [] (c6 K a V0 ++ (c6 K b V1)) := by
  rw [X6_replace] at hf
  refine g_aload_n X dX6_replace_0 0 rfl rfl ?_
  refine g_get X (v := ii V0.1) 0 0 dX6_replace_1 rfl rfl iw_X6_replace_X6 (by decide) fl_X6_replace_9 rfl ?_
  refine g_iload_n X dX6_replace_4 2 rfl rfl ?_
  refine g_isub X dX6_replace_5 ?_
  refine g_istore X (lv' := [(4, ii (V0.1 - p2)), (0, .ref (a 0)), (1, ii p1), (2, ii p2), (3, .ref (b 0))]) dX6_replace_6 (by decide) rfl ?_
  refine g_iload_n X dX6_replace_8 2 rfl rfl ?_
  refine g_aload_n X dX6_replace_9 4 rfl rfl ?_
  refine g_get X (v := ii V1.1) 4 0 dX6_replace_10 rfl rfl iw_X6_replace_X6 (by decide) fl_X6_replace_9 rfl ?_
  refine g_iadd X dX6_replace_13 ?_
  refine g_iload X dX6_replace_14 0 rfl ?_
  refine g_iadd X dX6_replace_16 ?_
  refine g_istore X (lv' := [(5, ii ((p1 + V1.1) + (V0.1 - p2))), (4, ii (V0.1 - p2)), (0, .ref (a 0)), (1, ii p1), (2, ii p2), (3, .ref (b 0))]) dX6_replace_17 (by decide) rfl ?_
  refine g_iload_n X dX6_replace_19 3 rfl rfl ?_
  refine g_if_lt X hf 40 dX6_replace_20 (by decide) (fun hf => ?_) (fun hf => ?_)
  · cases hf
    exact g_vret X hr hlk dX6_replace_40
  · refine g_iload_n X dX6_replace_23 4 rfl rfl ?_
    refine g_iload_n X dX6_replace_24 3 rfl rfl ?_
    refine g_icmp_lt X hf 40 dX6_replace_25 (by decide) (fun hf => ?_) (fun hf => ?_)
    · cases hf
      exact g_vret X hr hlk dX6_replace_40
    · refine g_iload X dX6_replace_28 1 rfl ?_
      refine g_if_lt X hf 40 dX6_replace_30 (by decide) (fun hf => ?_) (fun hf => ?_)
      · cases hf
        exact g_vret X hr hlk dX6_replace_40
      · refine g_iload X dX6_replace_33 0 rfl ?_
        refine g_bipush X dX6_replace_35 (by decide +kernel) ?_
        refine g_icmp_le X hf 41 dX6_replace_37 (by decide) (fun hf => ?_) (fun hf => ?_)
        · refine g_aload_n X dX6_replace_41 2 rfl rfl ?_
          refine g_get X (v := .ref (a 1)) 0 1 dX6_replace_42 rfl rfl iw_X6_replace_X6 (by decide) fl_X6_replace_15 rfl ?_
          refine g_iload_n X dX6_replace_45 4 rfl rfl ?_
          refine g_iload X dX6_replace_46 1 rfl ?_
          refine g_aload_n X dX6_replace_48 5 rfl rfl ?_
          refine g_get X (v := .ref (b 1)) 4 1 dX6_replace_49 rfl rfl iw_X6_replace_X6 (by decide) fl_X6_replace_15 rfl ?_
          refine g_iload_n X dX6_replace_52 3 rfl rfl ?_
          refine g_aload_n X dX6_replace_53 5 rfl rfl ?_
          refine g_get X (v := ii V1.1) 4 0 dX6_replace_54 rfl rfl iw_X6_replace_X6 (by decide) fl_X6_replace_9 rfl ?_
          obtain ⟨v1, hc2, hf⟩ := Option.bind_eq_some_iff.mp hf
          refine g_callS X (As := [.ref (a 1), ii p2, ii (V0.1 - p2), .ref (b 1), ii p1, ii V1.1]) (st := []) (st1 := []) (ws' := c6 K a (V0.1, v1, V0.2.2.1, V0.2.2.2) ++ (c6 K b V1)) (X6_replaceIn_ok K l 30 30 (by decide) (by decide) (a 1) (b 1) V0.2.1 V1.2.1 p2 (V0.1 - p2) p1 V1.1 v1 hc2) gX6_replace_X6_replaceIn rfl 6 (by decide +kernel) ⟨rfl, rfl⟩ ⟨Nat.le_of_ble_eq_true rfl, Nat.le_of_ble_eq_true rfl⟩ ⟨Nat.zero_le _, Nat.zero_le _⟩ rfl rfl (Nat.le_of_ble_eq_true rfl) dX6_replace_57 (SG.two ([(a 0, .inr (6, [ii V0.1, .ref (a 1), .ref (a 2), .ref (a 3)]))]) ([(a 2, .inl (K.2.1, 30, .inl (arI V0.2.2.1)))] ++ ([(a 3, .inl (K.2.1, 30, .inl (arI V0.2.2.2)))] ++ ([(b 0, .inr (6, [ii V1.1, .ref (b 1), .ref (b 2), .ref (b 3)]))]))) ([(b 2, .inl (K.2.1, 30, .inl (arI V1.2.2.1)))] ++ ([(b 3, .inl (K.2.1, 30, .inl (arI V1.2.2.2)))])) rfl rfl rfl) rfl ?_
          refine g_aload_n X dX6_replace_60 2 rfl rfl ?_
          refine g_get X (v := .ref (a 2)) 0 2 dX6_replace_61 rfl rfl iw_X6_replace_X6 (by decide) fl_X6_replace_19 rfl ?_
          refine g_iload_n X dX6_replace_64 4 rfl rfl ?_
          refine g_iload X dX6_replace_65 1 rfl ?_
          refine g_aload_n X dX6_replace_67 5 rfl rfl ?_
          refine g_get X (v := .ref (b 2)) 4 2 dX6_replace_68 rfl rfl iw_X6_replace_X6 (by decide) fl_X6_replace_19 rfl ?_
          refine g_iload_n X dX6_replace_71 3 rfl rfl ?_
          refine g_aload_n X dX6_replace_72 5 rfl rfl ?_
          refine g_get X (v := ii V1.1) 4 0 dX6_replace_73 rfl rfl iw_X6_replace_X6 (by decide) fl_X6_replace_9 rfl ?_
          obtain ⟨v3, hc4, hf⟩ := Option.bind_eq_some_iff.mp hf
          refine g_callS X (As := [.ref (a 2), ii p2, ii (V0.1 - p2), .ref (b 2), ii p1, ii V1.1]) (st := []) (st1 := []) (ws' := c6 K a (V0.1, v1, v3, V0.2.2.2) ++ (c6 K b V1)) (X6_replaceIn_ok K l 30 30 (by decide) (by decide) (a 2) (b 2) V0.2.2.1 V1.2.2.1 p2 (V0.1 - p2) p1 V1.1 v3 hc4) gX6_replace_X6_replaceIn rfl 6 (by decide +kernel) ⟨rfl, rfl⟩ ⟨Nat.le_of_ble_eq_true rfl, Nat.le_of_ble_eq_true rfl⟩ ⟨Nat.zero_le _, Nat.zero_le _⟩ rfl rfl (Nat.le_of_ble_eq_true rfl) dX6_replace_76 (SG.two ([(a 0, .inr (6, [ii V0.1, .ref (a 1), .ref (a 2), .ref (a 3)]))] ++ ([(a 1, .inl (K.2.1, 30, .inl (arI v1)))])) ([(a 3, .inl (K.2.1, 30, .inl (arI V0.2.2.2)))] ++ ([(b 0, .inr (6, [ii V1.1, .ref (b 1), .ref (b 2), .ref (b 3)]))] ++ ([(b 1, .inl (K.2.1, 30, .inl (arI V1.2.1)))]))) ([(b 3, .inl (K.2.1, 30, .inl (arI V1.2.2.2)))]) rfl rfl rfl) rfl ?_
          refine g_aload_n X dX6_replace_79 2 rfl rfl ?_
          refine g_get X (v := .ref (a 3)) 0 3 dX6_replace_80 rfl rfl iw_X6_replace_X6 (by decide) fl_X6_replace_22 rfl ?_
          refine g_iload_n X dX6_replace_83 4 rfl rfl ?_
          refine g_iload X dX6_replace_84 1 rfl ?_
          refine g_aload_n X dX6_replace_86 5 rfl rfl ?_
          refine g_get X (v := .ref (b 3)) 4 3 dX6_replace_87 rfl rfl iw_X6_replace_X6 (by decide) fl_X6_replace_22 rfl ?_
          refine g_iload_n X dX6_replace_90 3 rfl rfl ?_
          refine g_aload_n X dX6_replace_91 5 rfl rfl ?_
          refine g_get X (v := ii V1.1) 4 0 dX6_replace_92 rfl rfl iw_X6_replace_X6 (by decide) fl_X6_replace_9 rfl ?_
          obtain ⟨v5, hc6, hf⟩ := Option.bind_eq_some_iff.mp hf
          refine g_callS X (As := [.ref (a 3), ii p2, ii (V0.1 - p2), .ref (b 3), ii p1, ii V1.1]) (st := []) (st1 := []) (ws' := c6 K a (V0.1, v1, v3, v5) ++ (c6 K b V1)) (X6_replaceIn_ok K l 30 30 (by decide) (by decide) (a 3) (b 3) V0.2.2.2 V1.2.2.2 p2 (V0.1 - p2) p1 V1.1 v5 hc6) gX6_replace_X6_replaceIn rfl 6 (by decide +kernel) ⟨rfl, rfl⟩ ⟨Nat.le_of_ble_eq_true rfl, Nat.le_of_ble_eq_true rfl⟩ ⟨Nat.zero_le _, Nat.zero_le _⟩ rfl rfl (Nat.le_of_ble_eq_true rfl) dX6_replace_95 (SG.two ([(a 0, .inr (6, [ii V0.1, .ref (a 1), .ref (a 2), .ref (a 3)]))] ++ ([(a 1, .inl (K.2.1, 30, .inl (arI v1)))] ++ ([(a 2, .inl (K.2.1, 30, .inl (arI v3)))]))) ([(b 0, .inr (6, [ii V1.1, .ref (b 1), .ref (b 2), .ref (b 3)]))] ++ ([(b 1, .inl (K.2.1, 30, .inl (arI V1.2.1)))] ++ ([(b 2, .inl (K.2.1, 30, .inl (arI V1.2.2.1)))]))) [] rfl rfl rfl) rfl ?_
          refine g_aload_n X dX6_replace_98 2 rfl rfl ?_
          refine g_iload X dX6_replace_99 0 rfl ?_
          refine g_puti X 0 0 dX6_replace_101 rfl rfl iw_X6_replace_X6 tyX6_ok nmX6 (by decide) fl_X6_replace_9 rfl rfl (Nat.le_of_ble_eq_true rfl) (ws' := c6 K a (((p1 + V1.1) + (V0.1 - p2)), v1, v3, v5) ++ (c6 K b V1)) rfl ?_
          cases hf
          exact g_vret X hr hlk dX6_replace_104
        · cases hf
          exact g_vret X hr hlk dX6_replace_40
set_option maxHeartbeats 4000000 in
set_option maxRecDepth 100000 in
theorem X6_replace_ok (K : KE) (l : Launch) (a : Nat → Nat) (b : Nat → Nat) (V0 : Pg) (V1 : Pg) (p1 : Int) (p2 : Int) (res : Pg) (hf : X6_replace V0 V1 p1 p2 = some res) : CT l K.1 vwCl (kT K) yX6_replace wsX6_replace rmX6_replace [.ref (a 0), ii p1, ii p2, .ref (b 0)] none (c6 K a V0 ++ (c6 K b V1)) (c6 K a res ++ (c6 K b V1)) :=
  CT.mk (cc := cX6_replace) (maxL := 6) (ret := none) (by decide) rfl (Nat.le_of_ble_eq_true rfl) (fun p e s m below meth c X hr hlk => X6_replace_go K l a b _ X hr hlk V0 V1 p1 p2 res hf)
