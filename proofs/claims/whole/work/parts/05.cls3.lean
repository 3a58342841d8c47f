theorem iw_X8_copyFrom_X8 : ∀ w ∈ u_ws RX8 TX8 9, w ∈ wsX8_copyFrom := by decide +kernel
theorem fl_X8_copyFrom_14 : Cond.fieldLink RX8 14 (TX8 0).1 (TX8 0).2.1 (TX8 0).2.2.1 ∈ wsX8_copyFrom := by decide +kernel
theorem fl_X8_copyFrom_20 : Cond.fieldLink RX8 20 (TX8 1).1 (TX8 1).2.1 (TX8 1).2.2.1 ∈ wsX8_copyFrom := by decide +kernel
theorem fl_X8_copyFrom_23 : Cond.fieldLink RX8 23 (TX8 2).1 (TX8 2).2.1 (TX8 2).2.2.1 ∈ wsX8_copyFrom := by decide +kernel
theorem fl_X8_copyFrom_26 : Cond.fieldLink RX8 26 (TX8 3).1 (TX8 3).2.1 (TX8 3).2.2.1 ∈ wsX8_copyFrom := by decide +kernel
theorem fl_X8_copyFrom_30 : Cond.fieldLink RX8 30 (TX8 4).1 (TX8 4).2.1 (TX8 4).2.2.1 ∈ wsX8_copyFrom := by decide +kernel
theorem wd_X8_copyFrom_ac68 : Cond.methodLink RX8 68 arraycopyName ∈ wsX8_copyFrom := by decide +kernel
theorem wd_X8_copyFrom_an : Cond.native arraycopyName ∈ wsX8_copyFrom := by decide +kernel
theorem wd_X8_copyFrom_as : Cond.static arraycopyName ∈ wsX8_copyFrom := by decide +kernel
theorem wd_X8_copyFrom_ai : Cond.initialized "java/lang/System" ∈ wsX8_copyFrom := by decide +kernel
theorem fl_X8_copyFrom_34 : Cond.fieldLink RX8 34 (TX8 5).1 (TX8 5).2.1 (TX8 5).2.2.1 ∈ wsX8_copyFrom := by decide +kernel
theorem fl_X8_copyFrom_40 : Cond.fieldLink RX8 40 (TX8 6).1 (TX8 6).2.1 (TX8 6).2.2.1 ∈ wsX8_copyFrom := by decide +kernel
theorem fl_X8_copyFrom_47 : Cond.fieldLink RX8 47 (TX8 7).1 (TX8 7).2.1 (TX8 7).2.2.1 ∈ wsX8_copyFrom := by decide +kernel
theorem fl_X8_copyFrom_51 : Cond.fieldLink RX8 51 (TX8 8).1 (TX8 8).2.1 (TX8 8).2.2.1 ∈ wsX8_copyFrom := by decide +kernel
def rmX8_copyFrom : Room := { frames := 3, cells := 0, slots := 0, locals := 71 }
def X8_copyFrom (V0 : St) (V1 : St) : Option (St) := (X1_copyFrom 6 6 V0.1 V1.1).bind (fun v1 => (X1_copyFrom 6 6 V0.2.1 V1.2.1).bind (fun v3 => (X1_copyFrom 4 4 V0.2.2.1 V1.2.2.1).bind (fun v5 => cpK 6 6 V1.2.2.2.2.1 V0.2.2.2.2.1 0 0 6 (fun f7 => (X4_copyFrom V0.2.2.2.2.2.2.1 V1.2.2.2.2.2.2.1).bind (fun v8 => (X6_copyFrom V0.2.2.2.2.2.2.2.1 V1.2.2.2.2.2.2.2.1).bind (fun v10 => cpK 8 8 V1.2.2.2.2.2.2.2.2 V0.2.2.2.2.2.2.2.2 0 0 8 (fun f12 => some (v1, v3, v5, V1.2.2.2.1, f7, V1.2.2.2.2.2.1, v8, v10, f12))))))))
set_option maxHeartbeats 4000000 in
set_option maxRecDepth 100000 in
theorem X8_copyFrom_go (K : KE) (l : Launch) (a : Nat → Nat) (b : Nat → Nat) (WC : va_W) {p : Program} {e : Env} {s : State} {m : MethodId} {args : Array Value} {below : List Frame} {meth : Method} {c : Code} (X : CX p s m args c K.1 vwCl (kT K) (va_A WC s.heap.size) cX8_copyFrom 2 wsX8_copyFrom RX8) (hr : meth.sig.returnType = none) (hlk : meth.locks = false) (V0 : St) (V1 : St) (res : St) (hf : X8_copyFrom V0 V1 = some res) : GO p l e rmX8_copyFrom s m args below meth c K.1 vwCl (va_A WC s.heap.size) (MQ below (QC K.1 vwCl none WC (c8 K a res ++ (c8 K b V1)) s.heap.size) args s 0 0 (va_A WC s.heap.size)) 2 0 0 0 [(0, .ref (a 0)), (1, .ref (b 0))] [] (c8 K a V0 ++ (c8 K b V1)) := by
  rw [X8_copyFrom] at hf
  refine g_aload_n X dX8_copyFrom_0 0 rfl rfl ?_
  refine g_get X (v := .ref (ash a 1 0)) 0 0 dX8_copyFrom_1 rfl rfl iw_X8_copyFrom_X8 (by decide) fl_X8_copyFrom_14 rfl ?_
  refine g_aload_n X dX8_copyFrom_4 1 rfl rfl ?_
  refine g_get X (v := .ref (ash b 1 0)) 23 0 dX8_copyFrom_5 rfl rfl iw_X8_copyFrom_X8 (by decide) fl_X8_copyFrom_14 rfl ?_
  obtain ⟨v1, hc2, hf⟩ := Option.bind_eq_some_iff.mp hf
  refine g_callV X (As := [.ref (ash b 1 0)]) (st := []) (st1 := []) (ws' := c8 K a (v1, V0.2.1, V0.2.2.1, V0.2.2.2.1, V0.2.2.2.2.1, V0.2.2.2.2.2.1, V0.2.2.2.2.2.2.1, V0.2.2.2.2.2.2.2.1, V0.2.2.2.2.2.2.2.2) ++ (c8 K b V1)) (X1_copyFrom_ok K l 6 6 (by decide) (by decide) (ash a 1) (ash b 1) V0.1 V1.1 v1 hc2) gX8_copyFrom_X1_copyFrom rfl 1 (by decide +kernel) ⟨rfl, rfl⟩ ⟨Nat.le_of_ble_eq_true rfl, Nat.le_of_ble_eq_true rfl⟩ ⟨Nat.zero_le _, Nat.zero_le _⟩ 1 rfl rfl rfl rfl (Nat.le_of_ble_eq_true rfl) dX8_copyFrom_8 (SG.two ([(a 0, .inr (8, [.ref (ash a 1 0), .ref (ash a 5 0), .ref (ash a 9 0), ii V0.2.2.2.1, .ref (a 13), ii V0.2.2.2.2.2.1, .ref (ash a 14 0), .ref (ash a 18 0), .ref (a 22)]))]) (c1 K 6 (ash a 5) V0.2.1 ++ (c1 K 4 (ash a 9) V0.2.2.1 ++ ([(a 13, .inl (K.2.1, 6, .inl (arI V0.2.2.2.2.1)))] ++ (c4 K (ash a 14) V0.2.2.2.2.2.2.1 ++ (c6 K (ash a 18) V0.2.2.2.2.2.2.2.1 ++ ([(a 22, .inl (K.2.1, 8, .inl (arI V0.2.2.2.2.2.2.2.2)))] ++ ([(b 0, .inr (8, [.ref (ash b 1 0), .ref (ash b 5 0), .ref (ash b 9 0), ii V1.2.2.2.1, .ref (b 13), ii V1.2.2.2.2.2.1, .ref (ash b 14 0), .ref (ash b 18 0), .ref (b 22)]))]))))))) (c1 K 6 (ash b 5) V1.2.1 ++ (c1 K 4 (ash b 9) V1.2.2.1 ++ ([(b 13, .inl (K.2.1, 6, .inl (arI V1.2.2.2.2.1)))] ++ (c4 K (ash b 14) V1.2.2.2.2.2.2.1 ++ (c6 K (ash b 18) V1.2.2.2.2.2.2.2.1 ++ ([(b 22, .inl (K.2.1, 8, .inl (arI V1.2.2.2.2.2.2.2.2)))])))))) rfl rfl rfl) rfl ?_
  refine g_aload_n X dX8_copyFrom_11 0 rfl rfl ?_
  refine g_get X (v := .ref (ash a 5 0)) 0 1 dX8_copyFrom_12 rfl rfl iw_X8_copyFrom_X8 (by decide) fl_X8_copyFrom_20 rfl ?_
  refine g_aload_n X dX8_copyFrom_15 1 rfl rfl ?_
  refine g_get X (v := .ref (ash b 5 0)) 23 1 dX8_copyFrom_16 rfl rfl iw_X8_copyFrom_X8 (by decide) fl_X8_copyFrom_20 rfl ?_
  obtain ⟨v3, hc4, hf⟩ := Option.bind_eq_some_iff.mp hf
  refine g_callV X (As := [.ref (ash b 5 0)]) (st := []) (st1 := []) (ws' := c8 K a (v1, v3, V0.2.2.1, V0.2.2.2.1, V0.2.2.2.2.1, V0.2.2.2.2.2.1, V0.2.2.2.2.2.2.1, V0.2.2.2.2.2.2.2.1, V0.2.2.2.2.2.2.2.2) ++ (c8 K b V1)) (X1_copyFrom_ok K l 6 6 (by decide) (by decide) (ash a 5) (ash b 5) V0.2.1 V1.2.1 v3 hc4) gX8_copyFrom_X1_copyFrom rfl 1 (by decide +kernel) ⟨rfl, rfl⟩ ⟨Nat.le_of_ble_eq_true rfl, Nat.le_of_ble_eq_true rfl⟩ ⟨Nat.zero_le _, Nat.zero_le _⟩ 5 rfl rfl rfl rfl (Nat.le_of_ble_eq_true rfl) dX8_copyFrom_19 (SG.two ([(a 0, .inr (8, [.ref (ash a 1 0), .ref (ash a 5 0), .ref (ash a 9 0), ii V0.2.2.2.1, .ref (a 13), ii V0.2.2.2.2.2.1, .ref (ash a 14 0), .ref (ash a 18 0), .ref (a 22)]))] ++ (c1 K 6 (ash a 1) v1)) (c1 K 4 (ash a 9) V0.2.2.1 ++ ([(a 13, .inl (K.2.1, 6, .inl (arI V0.2.2.2.2.1)))] ++ (c4 K (ash a 14) V0.2.2.2.2.2.2.1 ++ (c6 K (ash a 18) V0.2.2.2.2.2.2.2.1 ++ ([(a 22, .inl (K.2.1, 8, .inl (arI V0.2.2.2.2.2.2.2.2)))] ++ ([(b 0, .inr (8, [.ref (ash b 1 0), .ref (ash b 5 0), .ref (ash b 9 0), ii V1.2.2.2.1, .ref (b 13), ii V1.2.2.2.2.2.1, .ref (ash b 14 0), .ref (ash b 18 0), .ref (b 22)]))] ++ (c1 K 6 (ash b 1) V1.1))))))) (c1 K 4 (ash b 9) V1.2.2.1 ++ ([(b 13, .inl (K.2.1, 6, .inl (arI V1.2.2.2.2.1)))] ++ (c4 K (ash b 14) V1.2.2.2.2.2.2.1 ++ (c6 K (ash b 18) V1.2.2.2.2.2.2.2.1 ++ ([(b 22, .inl (K.2.1, 8, .inl (arI V1.2.2.2.2.2.2.2.2)))]))))) rfl rfl rfl) rfl ?_
  refine g_aload_n X dX8_copyFrom_22 0 rfl rfl ?_
  refine g_get X (v := .ref (ash a 9 0)) 0 2 dX8_copyFrom_23 rfl rfl iw_X8_copyFrom_X8 (by decide) fl_X8_copyFrom_23 rfl ?_
  refine g_aload_n X dX8_copyFrom_26 1 rfl rfl ?_
  refine g_get X (v := .ref (ash b 9 0)) 23 2 dX8_copyFrom_27 rfl rfl iw_X8_copyFrom_X8 (by decide) fl_X8_copyFrom_23 rfl ?_
  obtain ⟨v5, hc6, hf⟩ := Option.bind_eq_some_iff.mp hf
  refine g_callV X (As := [.ref (ash b 9 0)]) (st := []) (st1 := []) (ws' := c8 K a (v1, v3, v5, V0.2.2.2.1, V0.2.2.2.2.1, V0.2.2.2.2.2.1, V0.2.2.2.2.2.2.1, V0.2.2.2.2.2.2.2.1, V0.2.2.2.2.2.2.2.2) ++ (c8 K b V1)) (X1_copyFrom_ok K l 4 4 (by decide) (by decide) (ash a 9) (ash b 9) V0.2.2.1 V1.2.2.1 v5 hc6) gX8_copyFrom_X1_copyFrom rfl 1 (by decide +kernel) ⟨rfl, rfl⟩ ⟨Nat.le_of_ble_eq_true rfl, Nat.le_of_ble_eq_true rfl⟩ ⟨Nat.zero_le _, Nat.zero_le _⟩ 9 rfl rfl rfl rfl (Nat.le_of_ble_eq_true rfl) dX8_copyFrom_30 (SG.two ([(a 0, .inr (8, [.ref (ash a 1 0), .ref (ash a 5 0), .ref (ash a 9 0), ii V0.2.2.2.1, .ref (a 13), ii V0.2.2.2.2.2.1, .ref (ash a 14 0), .ref (ash a 18 0), .ref (a 22)]))] ++ (c1 K 6 (ash a 1) v1 ++ (c1 K 6 (ash a 5) v3))) ([(a 13, .inl (K.2.1, 6, .inl (arI V0.2.2.2.2.1)))] ++ (c4 K (ash a 14) V0.2.2.2.2.2.2.1 ++ (c6 K (ash a 18) V0.2.2.2.2.2.2.2.1 ++ ([(a 22, .inl (K.2.1, 8, .inl (arI V0.2.2.2.2.2.2.2.2)))] ++ ([(b 0, .inr (8, [.ref (ash b 1 0), .ref (ash b 5 0), .ref (ash b 9 0), ii V1.2.2.2.1, .ref (b 13), ii V1.2.2.2.2.2.1, .ref (ash b 14 0), .ref (ash b 18 0), .ref (b 22)]))] ++ (c1 K 6 (ash b 1) V1.1 ++ (c1 K 6 (ash b 5) V1.2.1))))))) ([(b 13, .inl (K.2.1, 6, .inl (arI V1.2.2.2.2.1)))] ++ (c4 K (ash b 14) V1.2.2.2.2.2.2.1 ++ (c6 K (ash b 18) V1.2.2.2.2.2.2.2.1 ++ ([(b 22, .inl (K.2.1, 8, .inl (arI V1.2.2.2.2.2.2.2.2)))])))) rfl rfl rfl) rfl ?_
  refine g_aload_n X dX8_copyFrom_33 0 rfl rfl ?_
  refine g_aload_n X dX8_copyFrom_34 1 rfl rfl ?_
  refine g_get X (v := ii V1.2.2.2.1) 23 3 dX8_copyFrom_35 rfl rfl iw_X8_copyFrom_X8 (by decide) fl_X8_copyFrom_26 rfl ?_
  refine g_puti X 0 3 dX8_copyFrom_38 rfl rfl iw_X8_copyFrom_X8 tyX8_ok nmX8 (by decide) fl_X8_copyFrom_26 rfl rfl (Nat.le_of_ble_eq_true rfl) (ws' := c8 K a (v1, v3, v5, V1.2.2.2.1, V0.2.2.2.2.1, V0.2.2.2.2.2.1, V0.2.2.2.2.2.2.1, V0.2.2.2.2.2.2.2.1, V0.2.2.2.2.2.2.2.2) ++ (c8 K b V1)) rfl ?_
  refine g_aload_n X dX8_copyFrom_41 1 rfl rfl ?_
  refine g_get X (v := .ref (b 13)) 23 4 dX8_copyFrom_42 rfl rfl iw_X8_copyFrom_X8 (by decide) fl_X8_copyFrom_30 rfl ?_
  refine g_iconst X dX8_copyFrom_45 ?_
  refine g_aload_n X dX8_copyFrom_46 0 rfl rfl ?_
  refine g_get X (v := .ref (a 13)) 0 4 dX8_copyFrom_47 rfl rfl iw_X8_copyFrom_X8 (by decide) fl_X8_copyFrom_30 rfl ?_
  refine g_iconst X dX8_copyFrom_50 ?_
  refine g_bipush X dX8_copyFrom_51 (by decide +kernel) ?_
  refine g_copy X hf (by decide) (by decide) wd_X8_copyFrom_ac68 wd_X8_copyFrom_an wd_X8_copyFrom_as wd_X8_copyFrom_ai 36 13 0 0 rfl rfl rfl rfl ⟨Nat.le_of_ble_eq_true rfl, Nat.le_of_ble_eq_true rfl⟩ dX8_copyFrom_53 (fun f7 => c8 K a (v1, v3, v5, V1.2.2.2.1, f7, V0.2.2.2.2.2.1, V0.2.2.2.2.2.2.1, V0.2.2.2.2.2.2.2.1, V0.2.2.2.2.2.2.2.2) ++ (c8 K b V1)) (fun _ => rfl) (fun f7 hf => ?_)
  refine g_aload_n X dX8_copyFrom_56 0 rfl rfl ?_
  refine g_aload_n X dX8_copyFrom_57 1 rfl rfl ?_
  refine g_get X (v := ii V1.2.2.2.2.2.1) 23 5 dX8_copyFrom_58 rfl rfl iw_X8_copyFrom_X8 (by decide) fl_X8_copyFrom_34 rfl ?_
  refine g_puti X 0 5 dX8_copyFrom_61 rfl rfl iw_X8_copyFrom_X8 tyX8_ok nmX8 (by decide) fl_X8_copyFrom_34 rfl rfl (Nat.le_of_ble_eq_true rfl) (ws' := c8 K a (v1, v3, v5, V1.2.2.2.1, f7, V1.2.2.2.2.2.1, V0.2.2.2.2.2.2.1, V0.2.2.2.2.2.2.2.1, V0.2.2.2.2.2.2.2.2) ++ (c8 K b V1)) rfl ?_
  refine g_aload_n X dX8_copyFrom_64 0 rfl rfl ?_
  refine g_get X (v := .ref (ash a 14 0)) 0 6 dX8_copyFrom_65 rfl rfl iw_X8_copyFrom_X8 (by decide) fl_X8_copyFrom_40 rfl ?_
  refine g_aload_n X dX8_copyFrom_68 1 rfl rfl ?_
  refine g_get X (v := .ref (ash b 14 0)) 23 6 dX8_copyFrom_69 rfl rfl iw_X8_copyFrom_X8 (by decide) fl_X8_copyFrom_40 rfl ?_
  obtain ⟨v8, hc9, hf⟩ := Option.bind_eq_some_iff.mp hf
  refine g_callV X (As := [.ref (ash b 14 0)]) (st := []) (st1 := []) (ws' := c8 K a (v1, v3, v5, V1.2.2.2.1, f7, V1.2.2.2.2.2.1, v8, V0.2.2.2.2.2.2.2.1, V0.2.2.2.2.2.2.2.2) ++ (c8 K b V1)) (X4_copyFrom_ok K l (ash a 14) (ash b 14) V0.2.2.2.2.2.2.1 V1.2.2.2.2.2.2.1 v8 hc9) gX8_copyFrom_X4_copyFrom rfl 1 (by decide +kernel) ⟨rfl, rfl⟩ ⟨Nat.le_of_ble_eq_true rfl, Nat.le_of_ble_eq_true rfl⟩ ⟨Nat.zero_le _, Nat.zero_le _⟩ 14 rfl rfl rfl rfl (Nat.le_of_ble_eq_true rfl) dX8_copyFrom_72 (SG.two ([(a 0, .inr (8, [.ref (ash a 1 0), .ref (ash a 5 0), .ref (ash a 9 0), ii V1.2.2.2.1, .ref (a 13), ii V1.2.2.2.2.2.1, .ref (ash a 14 0), .ref (ash a 18 0), .ref (a 22)]))] ++ (c1 K 6 (ash a 1) v1 ++ (c1 K 6 (ash a 5) v3 ++ (c1 K 4 (ash a 9) v5 ++ ([(a 13, .inl (K.2.1, 6, .inl (arI f7)))]))))) (c6 K (ash a 18) V0.2.2.2.2.2.2.2.1 ++ ([(a 22, .inl (K.2.1, 8, .inl (arI V0.2.2.2.2.2.2.2.2)))] ++ ([(b 0, .inr (8, [.ref (ash b 1 0), .ref (ash b 5 0), .ref (ash b 9 0), ii V1.2.2.2.1, .ref (b 13), ii V1.2.2.2.2.2.1, .ref (ash b 14 0), .ref (ash b 18 0), .ref (b 22)]))] ++ (c1 K 6 (ash b 1) V1.1 ++ (c1 K 6 (ash b 5) V1.2.1 ++ (c1 K 4 (ash b 9) V1.2.2.1 ++ ([(b 13, .inl (K.2.1, 6, .inl (arI V1.2.2.2.2.1)))]))))))) (c6 K (ash b 18) V1.2.2.2.2.2.2.2.1 ++ ([(b 22, .inl (K.2.1, 8, .inl (arI V1.2.2.2.2.2.2.2.2)))])) rfl rfl rfl) rfl ?_
  refine g_aload_n X dX8_copyFrom_75 0 rfl rfl ?_
  refine g_get X (v := .ref (ash a 18 0)) 0 7 dX8_copyFrom_76 rfl rfl iw_X8_copyFrom_X8 (by decide) fl_X8_copyFrom_47 rfl ?_
  refine g_aload_n X dX8_copyFrom_79 1 rfl rfl ?_
  refine g_get X (v := .ref (ash b 18 0)) 23 7 dX8_copyFrom_80 rfl rfl iw_X8_copyFrom_X8 (by decide) fl_X8_copyFrom_47 rfl ?_
  obtain ⟨v10, hc11, hf⟩ := Option.bind_eq_some_iff.mp hf
  refine g_callV X (As := [.ref (ash b 18 0)]) (st := []) (st1 := []) (ws' := c8 K a (v1, v3, v5, V1.2.2.2.1, f7, V1.2.2.2.2.2.1, v8, v10, V0.2.2.2.2.2.2.2.2) ++ (c8 K b V1)) (X6_copyFrom_ok K l (ash a 18) (ash b 18) V0.2.2.2.2.2.2.2.1 V1.2.2.2.2.2.2.2.1 v10 hc11) gX8_copyFrom_X6_copyFrom rfl 1 (by decide +kernel) ⟨rfl, rfl⟩ ⟨Nat.le_of_ble_eq_true rfl, Nat.le_of_ble_eq_true rfl⟩ ⟨Nat.zero_le _, Nat.zero_le _⟩ 18 rfl rfl rfl rfl (Nat.le_of_ble_eq_true rfl) dX8_copyFrom_83 (SG.two ([(a 0, .inr (8, [.ref (ash a 1 0), .ref (ash a 5 0), .ref (ash a 9 0), ii V1.2.2.2.1, .ref (a 13), ii V1.2.2.2.2.2.1, .ref (ash a 14 0), .ref (ash a 18 0), .ref (a 22)]))] ++ (c1 K 6 (ash a 1) v1 ++ (c1 K 6 (ash a 5) v3 ++ (c1 K 4 (ash a 9) v5 ++ ([(a 13, .inl (K.2.1, 6, .inl (arI f7)))] ++ (c4 K (ash a 14) v8)))))) ([(a 22, .inl (K.2.1, 8, .inl (arI V0.2.2.2.2.2.2.2.2)))] ++ ([(b 0, .inr (8, [.ref (ash b 1 0), .ref (ash b 5 0), .ref (ash b 9 0), ii V1.2.2.2.1, .ref (b 13), ii V1.2.2.2.2.2.1, .ref (ash b 14 0), .ref (ash b 18 0), .ref (b 22)]))] ++ (c1 K 6 (ash b 1) V1.1 ++ (c1 K 6 (ash b 5) V1.2.1 ++ (c1 K 4 (ash b 9) V1.2.2.1 ++ ([(b 13, .inl (K.2.1, 6, .inl (arI V1.2.2.2.2.1)))] ++ (c4 K (ash b 14) V1.2.2.2.2.2.2.1))))))) ([(b 22, .inl (K.2.1, 8, .inl (arI V1.2.2.2.2.2.2.2.2)))]) rfl rfl rfl) rfl ?_
  refine g_aload_n X dX8_copyFrom_86 1 rfl rfl ?_
  refine g_get X (v := .ref (b 22)) 23 8 dX8_copyFrom_87 rfl rfl iw_X8_copyFrom_X8 (by decide) fl_X8_copyFrom_51 rfl ?_
  refine g_iconst X dX8_copyFrom_90 ?_
  refine g_aload_n X dX8_copyFrom_91 0 rfl rfl ?_
  refine g_get X (v := .ref (a 22)) 0 8 dX8_copyFrom_92 rfl rfl iw_X8_copyFrom_X8 (by decide) fl_X8_copyFrom_51 rfl ?_
  refine g_iconst X dX8_copyFrom_95 ?_
  refine g_bipush X dX8_copyFrom_96 (by decide +kernel) ?_
  refine g_copy X hf (by decide) (by decide) wd_X8_copyFrom_ac68 wd_X8_copyFrom_an wd_X8_copyFrom_as wd_X8_copyFrom_ai 45 22 0 0 rfl rfl rfl rfl ⟨Nat.le_of_ble_eq_true rfl, Nat.le_of_ble_eq_true rfl⟩ dX8_copyFrom_98 (fun f12 => c8 K a (v1, v3, v5, V1.2.2.2.1, f7, V1.2.2.2.2.2.1, v8, v10, f12) ++ (c8 K b V1)) (fun _ => rfl) (fun f12 hf => ?_)
  cases hf
  exact g_vret X hr hlk dX8_copyFrom_101
set_option maxHeartbeats 4000000 in
set_option maxRecDepth 100000 in
theorem X8_copyFrom_ok (K : KE) (l : Launch) (a : Nat → Nat) (b : Nat → Nat) (V0 : St) (V1 : St) (res : St) (hf : X8_copyFrom V0 V1 = some res) : CT l K.1 vwCl (kT K) yX8_copyFrom wsX8_copyFrom rmX8_copyFrom [.ref (a 0), .ref (b 0)] none (c8 K a V0 ++ (c8 K b V1)) (c8 K a res ++ (c8 K b V1)) :=
  CT.mk (cc := cX8_copyFrom) (maxL := 2) (ret := none) (by decide) rfl (Nat.le_of_ble_eq_true rfl) (fun p e s m below meth c X hr hlk => X8_copyFrom_go K l a b _ X hr hlk V0 V1 res hf)
