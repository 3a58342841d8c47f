theorem iw_X5_replaceSite_X5 : ∀ w ∈ u_ws RX5 TX5 3, w ∈ wsX5_replaceSite := by decide +kernel
theorem fl_X5_replaceSite_12 : Cond.fieldLink RX5 12 (TX5 0).1 (TX5 0).2.1 (TX5 0).2.2.1 ∈ wsX5_replaceSite := by decide +kernel
theorem iw_X5_replaceSite_X6 : ∀ w ∈ u_ws RX6 TX6 4, w ∈ wsX5_replaceSite := by decide +kernel
theorem fl_X5_replaceSite_31 : Cond.fieldLink RX5 31 (TX6 0).1 (TX6 0).2.1 (TX6 0).2.2.1 ∈ wsX5_replaceSite := by decide +kernel
theorem iw_X5_replaceSite_X8 : ∀ w ∈ u_ws RX8 TX8 9, w ∈ wsX5_replaceSite := by decide +kernel
theorem fl_X5_replaceSite_86 : Cond.fieldLink RX5 86 (TX8 6).1 (TX8 6).2.1 (TX8 6).2.2.1 ∈ wsX5_replaceSite := by decide +kernel
theorem ne_X5_replaceSite_133 : (RX5, 133, yX9_isSource) ∈ nestL := by decide +kernel
theorem wd_X5_replaceSite_ini9 : Cond.initialized yX9_isSource.cls ∈ wsX5_replaceSite := by decide +kernel
theorem wd_X5_replaceSite_sta_X9_isSource : Cond.static yX9_isSource ∈ wsX5_replaceSite := by decide +kernel
theorem fl_X5_replaceSite_26 : Cond.fieldLink RX5 26 (TX8 7).1 (TX8 7).2.1 (TX8 7).2.2.1 ∈ wsX5_replaceSite := by decide +kernel
theorem fl_X5_replaceSite_18 : Cond.fieldLink RX5 18 (TX5 1).1 (TX5 1).2.1 (TX5 1).2.2.1 ∈ wsX5_replaceSite := by decide +kernel
def rmX5_replaceSite : Room := { frames := 3, cells := 0, slots := 0, locals := 76 }
def X5_replaceSite_L30 (kx : Mv → Option (St × Mv)) (V0 : St) (x2 : Int) (x3 : Int) (x4 : Int) : Nat → Int → Mv → Option (St × Mv)
  | 0, _, _ => none
  | n + 1, y5, V1 => brLT y5 x4 ((X4_sourceAt V0.2.2.2.2.2.2.1 x3 y5).bind (fun v5 => (X9_isSource v5).bind (fun v7 => ltK (fun q9 : Mv => X5_replaceSite_L30 kx V0 x2 x3 x4 n (y5 + 1) q9) (fun j10 => brEQ v7 0 ((X4_constantAt V0.2.2.2.2.2.2.1 x3 y5).bind (fun v11 => (X6_add V1.1 0 v11 0).bind (fun w13 => j10 (w13.2, V1.2.1, V1.2.2)))) (rdK 4 V1.2.1 v5 (fun v15 => rdK 4 V1.2.1 (v5 + 1) (fun v16 => (X6_addNodes V1.1 V0.2.2.2.2.2.2.2.1 v15 v16).bind (fun v17 => j10 (v17, V1.2.1, V1.2.2))))))))) (kx V1)
def X5_replaceSite (V0 : St) (V1 : Mv) (p2 : Int) (p3 : Int) (p4 : Int) : Option (St × Mv) := (X4_targetOf V0.2.2.2.2.2.2.1 p3).bind (fun v1 => (X6_add (0, V1.1.2.1, V1.1.2.2.1, V1.1.2.2.2) 3 v1 p4).bind (fun w3 => X5_replaceSite_L30 (fun w19 => (X6_endOf V0.2.2.2.2.2.2.2.1 p2).bind (fun v20 => (X6_replace V0.2.2.2.2.2.2.2.1 w19.1 p2 v20).bind (fun v22 => some ((V0.1, V0.2.1, V0.2.2.1, V0.2.2.2.1, V0.2.2.2.2.1, V0.2.2.2.2.2.1, V0.2.2.2.2.2.2.1, v22, V0.2.2.2.2.2.2.2.2), w19)))) V0 p2 p3 p4 FU 0 (w3.2, V1.2.1, V1.2.2)))
set_option maxHeartbeats 4000000 in
set_option maxRecDepth 100000 in
theorem X5_replaceSite_L30_ok (K : KE) (l : Launch) (a : Nat → Nat) (b : Nat → Nat) (WC : va_W) {p : Program} {e : Env} {s : State} {m : MethodId} {args : Array Value} {below : List Frame} {meth : Method} {c : Code} (X : CX p s m args c K.1 vwCl (kT K) (va_A WC s.heap.size) cX5_replaceSite 7 wsX5_replaceSite RX5) (hr : meth.sig.returnType = none) (hlk : meth.locks = false) (V0 : St) (x2 : Int) (x3 : Int) (x4 : Int) (res : St × Mv) {kx : Mv → Option (St × Mv)} : ∀ (n : Nat) (y5 : Int) (V1 : Mv), X5_replaceSite_L30 kx V0 x2 x3 x4 n y5 V1 = some res → (∀ (V1z : Mv), kx V1z = some res → GO p l e rmX5_replaceSite s m args below meth c K.1 vwCl (va_A WC s.heap.size) (MQ below (QC K.1 vwCl none WC (c8 K a res.1 ++ (c5 K b res.2)) s.heap.size) args s 0 0 (va_A WC s.heap.size)) 7 0 0 113 [(0, .ref (b 0)), (1, .ref (a 0)), (2, ii x2)] [] (c8 K a V0 ++ (c5 K b V1z))) → GO p l e rmX5_replaceSite s m args below meth c K.1 vwCl (va_A WC s.heap.size) (MQ below (QC K.1 vwCl none WC (c8 K a res.1 ++ (c5 K b res.2)) s.heap.size) args s 0 0 (va_A WC s.heap.size)) 7 0 0 30 [(0, .ref (b 0)), (1, .ref (a 0)), (2, ii x2), (3, ii x3), (4, ii x4), (5, ii y5)] [] (c8 K a V0 ++ (c5 K b V1)) := by
  intro n
  induction n with
  | zero =>
    intro y5 V1 hf _
    rw [X5_replaceSite_L30] at hf
    cases hf
  | succ n ih =>
    intro y5 V1 hf hk
    rw [X5_replaceSite_L30] at hf
    refine g_iload X dX5_replaceSite_30 5 rfl ?_
    refine g_iload X dX5_replaceSite_32 4 rfl ?_
    refine g_icmp_ge X hf 113 dX5_replaceSite_34 (by decide) (fun hf => ?_) (fun hf => ?_)
    · refine g_aload_n X dX5_replaceSite_37 1 rfl rfl ?_
      refine g_get X (v := .ref (ash a 14 0)) 0 6 dX5_replaceSite_38 rfl rfl iw_X5_replaceSite_X8 (by decide) fl_X5_replaceSite_86 rfl ?_
      refine g_iload_n X dX5_replaceSite_41 3 rfl rfl ?_
      refine g_iload X dX5_replaceSite_42 5 rfl ?_
      obtain ⟨v5, hc6, hf⟩ := Option.bind_eq_some_iff.mp hf
      refine g_callV X (As := [ii x3, ii y5]) (st := []) (st1 := [ii v5]) (ws' := c8 K a V0 ++ (c5 K b V1)) (X4_sourceAt_ok K l (ash a 14) V0.2.2.2.2.2.2.1 x3 y5 v5 hc6) gX5_replaceSite_X4_sourceAt rfl 2 (by decide +kernel) ⟨rfl, rfl⟩ ⟨Nat.le_of_ble_eq_true rfl, Nat.le_of_ble_eq_true rfl⟩ ⟨Nat.zero_le _, Nat.zero_le _⟩ 14 rfl rfl rfl rfl (Nat.le_of_ble_eq_true rfl) dX5_replaceSite_44 (SG.one ([(a 0, .inr (8, [.ref (ash a 1 0), .ref (ash a 5 0), .ref (ash a 9 0), ii V0.2.2.2.1, .ref (a 13), ii V0.2.2.2.2.2.1, .ref (ash a 14 0), .ref (ash a 18 0), .ref (a 22)]))] ++ (c1 K 6 (ash a 1) V0.1 ++ (c1 K 6 (ash a 5) V0.2.1 ++ (c1 K 4 (ash a 9) V0.2.2.1 ++ ([(a 13, .inl (K.2.1, 6, .inl (arI V0.2.2.2.2.1)))]))))) (c6 K (ash a 18) V0.2.2.2.2.2.2.2.1 ++ ([(a 22, .inl (K.2.1, 8, .inl (arI V0.2.2.2.2.2.2.2.2)))] ++ (c5 K b V1))) rfl rfl rfl) rfl ?_
      refine g_istore X (lv' := [(6, ii v5), (0, .ref (b 0)), (1, .ref (a 0)), (2, ii x2), (3, ii x3), (4, ii x4), (5, ii y5)]) dX5_replaceSite_47 (by decide) rfl ?_
      refine g_iload X dX5_replaceSite_49 0 rfl ?_
      obtain ⟨v7, hc8, hf⟩ := Option.bind_eq_some_iff.mp hf
      refine g_callSN X (As := [ii v5]) (st := []) (st1 := [ii v7]) (ws' := c8 K a V0 ++ (c5 K b V1)) (X9_isSource_ok K l v5 v7 hc8) ggX5_replaceSite_X9_isSource ne_X5_replaceSite_133 wd_X5_replaceSite_ini9 wd_X5_replaceSite_sta_X9_isSource rfl 1 (by decide +kernel) ⟨rfl, rfl⟩ ⟨Nat.le_of_ble_eq_true rfl, Nat.le_of_ble_eq_true rfl⟩ ⟨Nat.zero_le _, Nat.zero_le _⟩ rfl rfl (Nat.le_of_ble_eq_true rfl) dX5_replaceSite_51 SG.none rfl ?_
      refine g_let (G := fun q9 : Mv => GO p l e rmX5_replaceSite s m args below meth c K.1 vwCl (va_A WC s.heap.size) (MQ below (QC K.1 vwCl none WC (c8 K a res.1 ++ (c5 K b res.2)) s.heap.size) args s 0 0 (va_A WC s.heap.size)) 7 0 0 107 [(0, .ref (b 0)), (1, .ref (a 0)), (2, ii x2), (3, ii x3), (4, ii x4), (5, ii y5)] [] (c8 K a V0 ++ (c5 K b q9))) hf (fun q9 hf => ?_) (fun j10 hj10 hf => ?_)
      · refine g_iinc X (lv' := [(5, ii (y5 + 1)), (0, .ref (b 0)), (1, .ref (a 0)), (2, ii x2), (3, ii x3), (4, ii x4)]) dX5_replaceSite_107 5 rfl (by decide) rfl ?_
        refine g_goto X 30 dX5_replaceSite_110 (by decide) ?_
        refine g_sub (lv' := [(0, .ref (b 0)), (1, .ref (a 0)), (2, ii x2), (3, ii x3), (4, ii x4), (5, ii (y5 + 1))]) [1, 2, 3, 4, 5, 0] rfl ?_
        exact ih (y5 + 1) q9 hf hk
      · refine g_if_eq X hf 87 dX5_replaceSite_54 (by decide) (fun hf => ?_) (fun hf => ?_)
        · refine g_aload_n X dX5_replaceSite_87 1 rfl rfl ?_
          refine g_get X (v := .ref (ash b 1 0)) 23 0 dX5_replaceSite_88 rfl rfl iw_X5_replaceSite_X5 (by decide) fl_X5_replaceSite_12 rfl ?_
          refine g_iconst X dX5_replaceSite_91 ?_
          refine g_aload_n X dX5_replaceSite_92 2 rfl rfl ?_
          refine g_get X (v := .ref (ash a 14 0)) 0 6 dX5_replaceSite_93 rfl rfl iw_X5_replaceSite_X8 (by decide) fl_X5_replaceSite_86 rfl ?_
          refine g_iload_n X dX5_replaceSite_96 4 rfl rfl ?_
          refine g_iload X dX5_replaceSite_97 6 rfl ?_
          obtain ⟨v11, hc12, hf⟩ := Option.bind_eq_some_iff.mp hf
          refine g_callV X (As := [ii x3, ii y5]) (st := [ii 0, .ref (ash b 1 0)]) (st1 := [ii v11, ii 0, .ref (ash b 1 0)]) (ws' := c8 K a V0 ++ (c5 K b V1)) (X4_constantAt_ok K l (ash a 14) V0.2.2.2.2.2.2.1 x3 y5 v11 hc12) gX5_replaceSite_X4_constantAt rfl 2 (by decide +kernel) ⟨rfl, rfl⟩ ⟨Nat.le_of_ble_eq_true rfl, Nat.le_of_ble_eq_true rfl⟩ ⟨Nat.zero_le _, Nat.zero_le _⟩ 14 rfl rfl rfl rfl (Nat.le_of_ble_eq_true rfl) dX5_replaceSite_99 (SG.one ([(a 0, .inr (8, [.ref (ash a 1 0), .ref (ash a 5 0), .ref (ash a 9 0), ii V0.2.2.2.1, .ref (a 13), ii V0.2.2.2.2.2.1, .ref (ash a 14 0), .ref (ash a 18 0), .ref (a 22)]))] ++ (c1 K 6 (ash a 1) V0.1 ++ (c1 K 6 (ash a 5) V0.2.1 ++ (c1 K 4 (ash a 9) V0.2.2.1 ++ ([(a 13, .inl (K.2.1, 6, .inl (arI V0.2.2.2.2.1)))]))))) (c6 K (ash a 18) V0.2.2.2.2.2.2.2.1 ++ ([(a 22, .inl (K.2.1, 8, .inl (arI V0.2.2.2.2.2.2.2.2)))] ++ (c5 K b V1))) rfl rfl rfl) rfl ?_
          refine g_iconst X dX5_replaceSite_102 ?_
          obtain ⟨w13, hc14, hf⟩ := Option.bind_eq_some_iff.mp hf
          refine g_callV X (As := [ii 0, ii v11, ii 0]) (st := []) (st1 := [ii w13.1]) (ws' := c8 K a V0 ++ (c5 K b (w13.2, V1.2.1, V1.2.2))) (X6_add_ok K l (ash b 1) V1.1 0 v11 0 w13 hc14) gX5_replaceSite_X6_add rfl 3 (by decide +kernel) ⟨rfl, rfl⟩ ⟨Nat.le_of_ble_eq_true rfl, Nat.le_of_ble_eq_true rfl⟩ ⟨Nat.zero_le _, Nat.zero_le _⟩ 24 rfl rfl rfl rfl (Nat.le_of_ble_eq_true rfl) dX5_replaceSite_103 (SG.one (c8 K a V0 ++ ([(b 0, .inr (5, [.ref (ash b 1 0), .ref (b 5), .ref (b 6)]))])) ([(b 5, .inl (K.2.1, 4, .inl (arI V1.2.1)))] ++ ([(b 6, .inl (K.2.2.1, 3, .inl (arI V1.2.2)))])) rfl rfl rfl) rfl ?_
          refine g_pop X dX5_replaceSite_106 rfl ?_
          refine g_sub (lv' := [(0, .ref (b 0)), (1, .ref (a 0)), (2, ii x2), (3, ii x3), (4, ii x4), (5, ii y5)]) [1, 2, 3, 4, 5, 6] rfl ?_
          exact hj10 (w13.2, V1.2.1, V1.2.2) hf
        · refine g_aload_n X dX5_replaceSite_57 1 rfl rfl ?_
          refine g_get X (v := .ref (ash b 1 0)) 23 0 dX5_replaceSite_58 rfl rfl iw_X5_replaceSite_X5 (by decide) fl_X5_replaceSite_12 rfl ?_
          refine g_aload_n X dX5_replaceSite_61 2 rfl rfl ?_
          refine g_get X (v := .ref (ash a 18 0)) 0 7 dX5_replaceSite_62 rfl rfl iw_X5_replaceSite_X8 (by decide) fl_X5_replaceSite_26 rfl ?_
          refine g_aload_n X dX5_replaceSite_65 1 rfl rfl ?_
          refine g_get X (v := .ref (b 5)) 23 1 dX5_replaceSite_66 rfl rfl iw_X5_replaceSite_X5 (by decide) fl_X5_replaceSite_18 rfl ?_
          refine g_iload X dX5_replaceSite_69 0 rfl ?_
          refine g_iald X hf (by decide) 28 0 dX5_replaceSite_71 rfl rfl (fun v15 hf => ?_)
          refine g_aload_n X dX5_replaceSite_72 1 rfl rfl ?_
          refine g_get X (v := .ref (b 5)) 23 1 dX5_replaceSite_73 rfl rfl iw_X5_replaceSite_X5 (by decide) fl_X5_replaceSite_18 rfl ?_
          refine g_iload X dX5_replaceSite_76 0 rfl ?_
          refine g_iconst X dX5_replaceSite_78 ?_
          refine g_iadd X dX5_replaceSite_79 ?_
          refine g_iald X hf (by decide) 28 0 dX5_replaceSite_80 rfl rfl (fun v16 hf => ?_)
          obtain ⟨v17, hc18, hf⟩ := Option.bind_eq_some_iff.mp hf
          refine g_callV X (As := [.ref (ash a 18 0), ii v15, ii v16]) (st := []) (st1 := []) (ws' := c8 K a V0 ++ (c5 K b (v17, V1.2.1, V1.2.2))) (X6_addNodes_ok K l (ash b 1) (ash a 18) V1.1 V0.2.2.2.2.2.2.2.1 v15 v16 v17 hc18) gX5_replaceSite_X6_addNodes rfl 3 (by decide +kernel) ⟨rfl, rfl⟩ ⟨Nat.le_of_ble_eq_true rfl, Nat.le_of_ble_eq_true rfl⟩ ⟨Nat.zero_le _, Nat.zero_le _⟩ 24 rfl rfl rfl rfl (Nat.le_of_ble_eq_true rfl) dX5_replaceSite_81 (SG.swap rfl rfl (SG.two ([(a 0, .inr (8, [.ref (ash a 1 0), .ref (ash a 5 0), .ref (ash a 9 0), ii V0.2.2.2.1, .ref (a 13), ii V0.2.2.2.2.2.1, .ref (ash a 14 0), .ref (ash a 18 0), .ref (a 22)]))] ++ (c1 K 6 (ash a 1) V0.1 ++ (c1 K 6 (ash a 5) V0.2.1 ++ (c1 K 4 (ash a 9) V0.2.2.1 ++ ([(a 13, .inl (K.2.1, 6, .inl (arI V0.2.2.2.2.1)))] ++ (c4 K (ash a 14) V0.2.2.2.2.2.2.1)))))) ([(a 22, .inl (K.2.1, 8, .inl (arI V0.2.2.2.2.2.2.2.2)))] ++ ([(b 0, .inr (5, [.ref (ash b 1 0), .ref (b 5), .ref (b 6)]))])) ([(b 5, .inl (K.2.1, 4, .inl (arI V1.2.1)))] ++ ([(b 6, .inl (K.2.2.1, 3, .inl (arI V1.2.2)))])) rfl rfl rfl)) rfl ?_
          refine g_goto X 107 dX5_replaceSite_84 (by decide) ?_
          refine g_sub (lv' := [(0, .ref (b 0)), (1, .ref (a 0)), (2, ii x2), (3, ii x3), (4, ii x4), (5, ii y5)]) [1, 2, 3, 4, 5, 6] rfl ?_
          exact hj10 (v17, V1.2.1, V1.2.2) hf
    · refine g_sub (lv' := [(0, .ref (b 0)), (1, .ref (a 0)), (2, ii x2)]) [0, 1, 2] rfl ?_
      exact hk V1 hf
set_option maxHeartbeats 4000000 in
set_option maxRecDepth 100000 in
theorem X5_replaceSite_go (K : KE) (l : Launch) (a : Nat → Nat) (b : Nat → Nat) (WC : va_W) {p : Program} {e : Env} {s : State} {m : MethodId} {args : Array Value} {below : List Frame} {meth : Method} {c : Code} (X : CX p s m args c K.1 vwCl (kT K) (va_A WC s.heap.size) cX5_replaceSite 7 wsX5_replaceSite RX5) (hr : meth.sig.returnType = none) (hlk : meth.locks = false) (V0 : St) (V1 : Mv) (p2 : Int) (p3 : Int) (p4 : Int) (res : St × Mv) (hf : X5_replaceSite V0 V1 p2 p3 p4 = some res) : GO p l e rmX5_replaceSite s m args below meth c K.1 vwCl (va_A WC s.heap.size) (MQ below (QC K.1 vwCl none WC (c8 K a res.1 ++ (c5 K b res.2)) s.heap.size) args s 0 0 (va_A WC s.heap.size)) 7 0 0 0 [(0, .ref (b 0)), (1, .ref (a 0)), (2, ii p2), (3, ii p3), (4, ii p4)] [] (c8 K a V0 ++ (c5 K b V1)) := by
  rw [X5_replaceSite] at hf
  refine g_aload_n X dX5_replaceSite_0 0 rfl rfl ?_
  refine g_get X (v := .ref (ash b 1 0)) 23 0 dX5_replaceSite_1 rfl rfl iw_X5_replaceSite_X5 (by decide) fl_X5_replaceSite_12 rfl ?_
  refine g_iconst X dX5_replaceSite_4 ?_
  refine g_puti X 24 0 dX5_replaceSite_5 rfl rfl iw_X5_replaceSite_X6 tyX6_ok nmX6 (by decide) fl_X5_replaceSite_31 rfl rfl (Nat.le_of_ble_eq_true rfl) (ws' := c8 K a V0 ++ (c5 K b ((0, V1.1.2.1, V1.1.2.2.1, V1.1.2.2.2), V1.2.1, V1.2.2))) rfl ?_
  refine g_aload_n X dX5_replaceSite_8 0 rfl rfl ?_
  refine g_get X (v := .ref (ash b 1 0)) 23 0 dX5_replaceSite_9 rfl rfl iw_X5_replaceSite_X5 (by decide) fl_X5_replaceSite_12 rfl ?_
  refine g_iconst X dX5_replaceSite_12 ?_
  refine g_aload_n X dX5_replaceSite_13 1 rfl rfl ?_
  refine g_get X (v := .ref (ash a 14 0)) 0 6 dX5_replaceSite_14 rfl rfl iw_X5_replaceSite_X8 (by decide) fl_X5_replaceSite_86 rfl ?_
  refine g_iload_n X dX5_replaceSite_17 3 rfl rfl ?_
  obtain ⟨v1, hc2, hf⟩ := Option.bind_eq_some_iff.mp hf
  refine g_callV X (As := [ii p3]) (st := [ii 3, .ref (ash b 1 0)]) (st1 := [ii v1, ii 3, .ref (ash b 1 0)]) (ws' := c8 K a V0 ++ (c5 K b ((0, V1.1.2.1, V1.1.2.2.1, V1.1.2.2.2), V1.2.1, V1.2.2))) (X4_targetOf_ok K l (ash a 14) V0.2.2.2.2.2.2.1 p3 v1 hc2) gX5_replaceSite_X4_targetOf rfl 1 (by decide +kernel) ⟨rfl, rfl⟩ ⟨Nat.le_of_ble_eq_true rfl, Nat.le_of_ble_eq_true rfl⟩ ⟨Nat.zero_le _, Nat.zero_le _⟩ 14 rfl rfl rfl rfl (Nat.le_of_ble_eq_true rfl) dX5_replaceSite_18 (SG.one ([(a 0, .inr (8, [.ref (ash a 1 0), .ref (ash a 5 0), .ref (ash a 9 0), ii V0.2.2.2.1, .ref (a 13), ii V0.2.2.2.2.2.1, .ref (ash a 14 0), .ref (ash a 18 0), .ref (a 22)]))] ++ (c1 K 6 (ash a 1) V0.1 ++ (c1 K 6 (ash a 5) V0.2.1 ++ (c1 K 4 (ash a 9) V0.2.2.1 ++ ([(a 13, .inl (K.2.1, 6, .inl (arI V0.2.2.2.2.1)))]))))) (c6 K (ash a 18) V0.2.2.2.2.2.2.2.1 ++ ([(a 22, .inl (K.2.1, 8, .inl (arI V0.2.2.2.2.2.2.2.2)))] ++ (c5 K b ((0, V1.1.2.1, V1.1.2.2.1, V1.1.2.2.2), V1.2.1, V1.2.2)))) rfl rfl rfl) rfl ?_
  refine g_iload X dX5_replaceSite_21 4 rfl ?_
  obtain ⟨w3, hc4, hf⟩ := Option.bind_eq_some_iff.mp hf
  refine g_callV X (As := [ii 3, ii v1, ii p4]) (st := []) (st1 := [ii w3.1]) (ws' := c8 K a V0 ++ (c5 K b (w3.2, V1.2.1, V1.2.2))) (X6_add_ok K l (ash b 1) (0, V1.1.2.1, V1.1.2.2.1, V1.1.2.2.2) 3 v1 p4 w3 hc4) gX5_replaceSite_X6_add rfl 3 (by decide +kernel) ⟨rfl, rfl⟩ ⟨Nat.le_of_ble_eq_true rfl, Nat.le_of_ble_eq_true rfl⟩ ⟨Nat.zero_le _, Nat.zero_le _⟩ 24 rfl rfl rfl rfl (Nat.le_of_ble_eq_true rfl) dX5_replaceSite_23 (SG.one (c8 K a V0 ++ ([(b 0, .inr (5, [.ref (ash b 1 0), .ref (b 5), .ref (b 6)]))])) ([(b 5, .inl (K.2.1, 4, .inl (arI V1.2.1)))] ++ ([(b 6, .inl (K.2.2.1, 3, .inl (arI V1.2.2)))])) rfl rfl rfl) rfl ?_
  refine g_pop X dX5_replaceSite_26 rfl ?_
  refine g_iconst X dX5_replaceSite_27 ?_
  refine g_istore X (lv' := [(5, ii 0), (0, .ref (b 0)), (1, .ref (a 0)), (2, ii p2), (3, ii p3), (4, ii p4)]) dX5_replaceSite_28 (by decide) rfl ?_
  refine g_sub (lv' := [(0, .ref (b 0)), (1, .ref (a 0)), (2, ii p2), (3, ii p3), (4, ii p4), (5, ii 0)]) [1, 2, 3, 4, 5, 0] rfl ?_
  refine X5_replaceSite_L30_ok K l a b WC X hr hlk V0 p2 p3 p4 res FU 0 (w3.2, V1.2.1, V1.2.2) hf (fun w19 hf => ?_)
  refine g_aload_n X dX5_replaceSite_113 1 rfl rfl ?_
  refine g_get X (v := .ref (ash a 18 0)) 0 7 dX5_replaceSite_114 rfl rfl iw_X5_replaceSite_X8 (by decide) fl_X5_replaceSite_26 rfl ?_
  refine g_iload_n X dX5_replaceSite_117 2 rfl rfl ?_
  refine g_aload_n X dX5_replaceSite_118 1 rfl rfl ?_
  refine g_get X (v := .ref (ash a 18 0)) 0 7 dX5_replaceSite_119 rfl rfl iw_X5_replaceSite_X8 (by decide) fl_X5_replaceSite_26 rfl ?_
  refine g_iload_n X dX5_replaceSite_122 2 rfl rfl ?_
  obtain ⟨v20, hc21, hf⟩ := Option.bind_eq_some_iff.mp hf
  refine g_callV X (As := [ii p2]) (st := [ii p2, .ref (ash a 18 0)]) (st1 := [ii v20, ii p2, .ref (ash a 18 0)]) (ws' := c8 K a V0 ++ (c5 K b w19)) (X6_endOf_ok K l (ash a 18) V0.2.2.2.2.2.2.2.1 p2 v20 hc21) gX5_replaceSite_X6_endOf rfl 1 (by decide +kernel) ⟨rfl, rfl⟩ ⟨Nat.le_of_ble_eq_true rfl, Nat.le_of_ble_eq_true rfl⟩ ⟨Nat.zero_le _, Nat.zero_le _⟩ 18 rfl rfl rfl rfl (Nat.le_of_ble_eq_true rfl) dX5_replaceSite_123 (SG.one ([(a 0, .inr (8, [.ref (ash a 1 0), .ref (ash a 5 0), .ref (ash a 9 0), ii V0.2.2.2.1, .ref (a 13), ii V0.2.2.2.2.2.1, .ref (ash a 14 0), .ref (ash a 18 0), .ref (a 22)]))] ++ (c1 K 6 (ash a 1) V0.1 ++ (c1 K 6 (ash a 5) V0.2.1 ++ (c1 K 4 (ash a 9) V0.2.2.1 ++ ([(a 13, .inl (K.2.1, 6, .inl (arI V0.2.2.2.2.1)))] ++ (c4 K (ash a 14) V0.2.2.2.2.2.2.1)))))) ([(a 22, .inl (K.2.1, 8, .inl (arI V0.2.2.2.2.2.2.2.2)))] ++ (c5 K b w19)) rfl rfl rfl) rfl ?_
  refine g_aload_n X dX5_replaceSite_126 0 rfl rfl ?_
  refine g_get X (v := .ref (ash b 1 0)) 23 0 dX5_replaceSite_127 rfl rfl iw_X5_replaceSite_X5 (by decide) fl_X5_replaceSite_12 rfl ?_
  obtain ⟨v22, hc23, hf⟩ := Option.bind_eq_some_iff.mp hf
  refine g_callV X (As := [ii p2, ii v20, .ref (ash b 1 0)]) (st := []) (st1 := []) (ws' := c8 K a (V0.1, V0.2.1, V0.2.2.1, V0.2.2.2.1, V0.2.2.2.2.1, V0.2.2.2.2.2.1, V0.2.2.2.2.2.2.1, v22, V0.2.2.2.2.2.2.2.2) ++ (c5 K b w19)) (X6_replace_ok K l (ash a 18) (ash b 1) V0.2.2.2.2.2.2.2.1 w19.1 p2 v20 v22 hc23) gX5_replaceSite_X6_replace rfl 3 (by decide +kernel) ⟨rfl, rfl⟩ ⟨Nat.le_of_ble_eq_true rfl, Nat.le_of_ble_eq_true rfl⟩ ⟨Nat.zero_le _, Nat.zero_le _⟩ 18 rfl rfl rfl rfl (Nat.le_of_ble_eq_true rfl) dX5_replaceSite_130 (SG.two ([(a 0, .inr (8, [.ref (ash a 1 0), .ref (ash a 5 0), .ref (ash a 9 0), ii V0.2.2.2.1, .ref (a 13), ii V0.2.2.2.2.2.1, .ref (ash a 14 0), .ref (ash a 18 0), .ref (a 22)]))] ++ (c1 K 6 (ash a 1) V0.1 ++ (c1 K 6 (ash a 5) V0.2.1 ++ (c1 K 4 (ash a 9) V0.2.2.1 ++ ([(a 13, .inl (K.2.1, 6, .inl (arI V0.2.2.2.2.1)))] ++ (c4 K (ash a 14) V0.2.2.2.2.2.2.1)))))) ([(a 22, .inl (K.2.1, 8, .inl (arI V0.2.2.2.2.2.2.2.2)))] ++ ([(b 0, .inr (5, [.ref (ash b 1 0), .ref (b 5), .ref (b 6)]))])) ([(b 5, .inl (K.2.1, 4, .inl (arI w19.2.1)))] ++ ([(b 6, .inl (K.2.2.1, 3, .inl (arI w19.2.2)))])) rfl rfl rfl) rfl ?_
  cases hf
  exact g_vret X hr hlk dX5_replaceSite_133
set_option maxHeartbeats 4000000 in
set_option maxRecDepth 100000 in
theorem X5_replaceSite_ok (K : KE) (l : Launch) (a : Nat → Nat) (b : Nat → Nat) (V0 : St) (V1 : Mv) (p2 : Int) (p3 : Int) (p4 : Int) (res : St × Mv) (hf : X5_replaceSite V0 V1 p2 p3 p4 = some res) : CT l K.1 vwCl (kT K) yX5_replaceSite wsX5_replaceSite rmX5_replaceSite [.ref (b 0), .ref (a 0), ii p2, ii p3, ii p4] none (c8 K a V0 ++ (c5 K b V1)) (c8 K a res.1 ++ (c5 K b res.2)) :=
  CT.mk (cc := cX5_replaceSite) (maxL := 7) (ret := none) (by decide) rfl (Nat.le_of_ble_eq_true rfl) (fun p e s m below meth c X hr hlk => X5_replaceSite_go K l a b _ X hr hlk V0 V1 p2 p3 p4 res hf)
theorem iw_X5_replaceOrReason_X8 : ∀ w ∈ u_ws RX8 TX8 9, w ∈ wsX5_replaceOrReason := by decide +kernel
theorem fl_X5_replaceOrReason_26 : Cond.fieldLink RX5 26 (TX8 7).1 (TX8 7).2.1 (TX8 7).2.2.1 ∈ wsX5_replaceOrReason := by decide +kernel
theorem iw_X5_replaceOrReason_X6 : ∀ w ∈ u_ws RX6 TX6 4, w ∈ wsX5_replaceOrReason := by decide +kernel
theorem fl_X5_replaceOrReason_60 : Cond.fieldLink RX5 60 (TX6 2).1 (TX6 2).2.1 (TX6 2).2.2.1 ∈ wsX5_replaceOrReason := by decide +kernel
theorem fl_X5_replaceOrReason_53 : Cond.fieldLink RX5 53 (TX6 3).1 (TX6 3).2.1 (TX6 3).2.2.1 ∈ wsX5_replaceOrReason := by decide +kernel
theorem fl_X5_replaceOrReason_63 : Cond.fieldLink RX5 63 (TX8 0).1 (TX8 0).2.1 (TX8 0).2.2.1 ∈ wsX5_replaceOrReason := by decide +kernel
theorem fl_X5_replaceOrReason_86 : Cond.fieldLink RX5 86 (TX8 6).1 (TX8 6).2.1 (TX8 6).2.2.1 ∈ wsX5_replaceOrReason := by decide +kernel
def rmX5_replaceOrReason : Room := { frames := 4, cells := 0, slots := 0, locals := 102 }
def X5_replaceOrReason (V0 : St) (V1 : Mv) (p2 : Int) : Option (Int × St × Mv) := rdK 30 V0.2.2.2.2.2.2.2.1.2.2.1 p2 (fun v1 => rdK 30 V0.2.2.2.2.2.2.2.1.2.2.2 p2 (fun v2 => (X1_arityOf 6 V0.1 v1).bind (fun v3 => brEQ v2 v3 ((X8_keepsMeaning V0 v1).bind (fun v5 => brEQ v5 0 ((X5_adaptOrReason V0 V1 p2 v1).bind (fun w7 => some (w7.1, w7.2, V1))) ((X5_findArguments V0 V1 p2).bind (fun v9 => (X8_usedEntries V0 v1).bind (fun v11 => rdK 30 V0.2.2.2.2.2.2.2.1.2.2.2 p2 (fun v13 => (X5_effectReason V0.2.2.2.2.2.2.1 v9 v1 v11 v13).bind (fun v14 => brEQ v14 0 ((X5_sizeAfterReplacing V0 v9 p2 v1 v11).bind (fun v16 => brLE v16 30 ((X5_replaceSite V0 v9 p2 v1 v11).bind (fun w18 => some (0, w18.1, w18.2))) (some (7, V0, v9)))) (some (v14, V0, v9))))))))) (some (1, V0, V1)))))
set_option maxHeartbeats 4000000 in
set_option maxRecDepth 100000 in
theorem X5_replaceOrReason_go (K : KE) (l : Launch) (a : Nat → Nat) (b : Nat → Nat) (WC : va_W) {p : Program} {e : Env} {s : State} {m : MethodId} {args : Array Value} {below : List Frame} {meth : Method} {c : Code} (X : CX p s m args c K.1 vwCl (kT K) (va_A WC s.heap.size) cX5_replaceOrReason 7 wsX5_replaceOrReason RX5) (hr : meth.sig.returnType = (some .int)) (hlk : meth.locks = false) (V0 : St) (V1 : Mv) (p2 : Int) (res : Int × St × Mv) (hf : X5_replaceOrReason V0 V1 p2 = some res) : GO p l e rmX5_replaceOrReason s m args below meth c K.1 vwCl (va_A WC s.heap.size) (MQ below (QC K.1 vwCl (some (ii res.1)) WC (c8 K a res.2.1 ++ (c5 K b res.2.2)) s.heap.size) args s 0 0 (va_A WC s.heap.size)) 7 0 0 0 [(0, .ref (b 0)), (1, .ref (a 0)), (2, ii p2)] [] (c8 K a V0 ++ (c5 K b V1)) := by
  rw [X5_replaceOrReason] at hf
  refine g_aload_n X dX5_replaceOrReason_0 1 rfl rfl ?_
  refine g_get X (v := .ref (ash a 18 0)) 0 7 dX5_replaceOrReason_1 rfl rfl iw_X5_replaceOrReason_X8 (by decide) fl_X5_replaceOrReason_26 rfl ?_
  refine g_astore_n X (lv' := [(3, .ref (ash a 18 0)), (0, .ref (b 0)), (1, .ref (a 0)), (2, ii p2)]) dX5_replaceOrReason_4 rfl (by decide) rfl ?_
  refine g_aload_n X dX5_replaceOrReason_5 0 rfl rfl ?_
  refine g_get X (v := .ref (ash a 18 2)) 18 2 dX5_replaceOrReason_6 rfl rfl iw_X5_replaceOrReason_X6 (by decide) fl_X5_replaceOrReason_60 rfl ?_
  refine g_iload_n X dX5_replaceOrReason_9 3 rfl rfl ?_
  refine g_iald X hf (by decide) 20 0 dX5_replaceOrReason_10 rfl rfl (fun v1 hf => ?_)
  refine g_istore X (lv' := [(4, ii v1), (3, .ref (ash a 18 0)), (0, .ref (b 0)), (1, .ref (a 0)), (2, ii p2)]) dX5_replaceOrReason_11 (by decide) rfl ?_
  refine g_aload_n X dX5_replaceOrReason_13 1 rfl rfl ?_
  refine g_get X (v := .ref (ash a 18 3)) 18 3 dX5_replaceOrReason_14 rfl rfl iw_X5_replaceOrReason_X6 (by decide) fl_X5_replaceOrReason_53 rfl ?_
  refine g_iload_n X dX5_replaceOrReason_17 4 rfl rfl ?_
  refine g_iald X hf (by decide) 21 0 dX5_replaceOrReason_18 rfl rfl (fun v2 hf => ?_)
  refine g_aload_n X dX5_replaceOrReason_19 3 rfl rfl ?_
  refine g_get X (v := .ref (ash a 1 0)) 0 0 dX5_replaceOrReason_20 rfl rfl iw_X5_replaceOrReason_X8 (by decide) fl_X5_replaceOrReason_63 rfl ?_
  refine g_iload X dX5_replaceOrReason_23 0 rfl ?_
  obtain ⟨v3, hc4, hf⟩ := Option.bind_eq_some_iff.mp hf
  refine g_callV X (As := [ii v1]) (st := [ii v2]) (st1 := [ii v3, ii v2]) (ws' := c8 K a V0 ++ (c5 K b V1)) (X1_arityOf_ok K l 6 (by decide) (ash a 1) V0.1 v1 v3 hc4) gX5_replaceOrReason_X1_arityOf rfl 1 (by decide +kernel) ⟨rfl, rfl⟩ ⟨Nat.le_of_ble_eq_true rfl, Nat.le_of_ble_eq_true rfl⟩ ⟨Nat.zero_le _, Nat.zero_le _⟩ 1 rfl rfl rfl rfl (Nat.le_of_ble_eq_true rfl) dX5_replaceOrReason_25 (SG.one ([(a 0, .inr (8, [.ref (ash a 1 0), .ref (ash a 5 0), .ref (ash a 9 0), ii V0.2.2.2.1, .ref (a 13), ii V0.2.2.2.2.2.1, .ref (ash a 14 0), .ref (ash a 18 0), .ref (a 22)]))]) (c1 K 6 (ash a 5) V0.2.1 ++ (c1 K 4 (ash a 9) V0.2.2.1 ++ ([(a 13, .inl (K.2.1, 6, .inl (arI V0.2.2.2.2.1)))] ++ (c4 K (ash a 14) V0.2.2.2.2.2.2.1 ++ (c6 K (ash a 18) V0.2.2.2.2.2.2.2.1 ++ ([(a 22, .inl (K.2.1, 8, .inl (arI V0.2.2.2.2.2.2.2.2)))] ++ (c5 K b V1))))))) rfl rfl rfl) rfl ?_
  refine g_icmp_eq X hf 33 dX5_replaceOrReason_28 (by decide) (fun hf => ?_) (fun hf => ?_)
  · refine g_aload_n X dX5_replaceOrReason_33 3 rfl rfl ?_
    refine g_iload X dX5_replaceOrReason_34 0 rfl ?_
    obtain ⟨v5, hc6, hf⟩ := Option.bind_eq_some_iff.mp hf
    refine g_callV X (As := [ii v1]) (st := []) (st1 := [ii v5]) (ws' := c8 K a V0 ++ (c5 K b V1)) (X8_keepsMeaning_ok K l a V0 v1 v5 hc6) gX5_replaceOrReason_X8_keepsMeaning rfl 1 (by decide +kernel) ⟨rfl, rfl⟩ ⟨Nat.le_of_ble_eq_true rfl, Nat.le_of_ble_eq_true rfl⟩ ⟨Nat.zero_le _, Nat.zero_le _⟩ 0 rfl rfl rfl rfl (Nat.le_of_ble_eq_true rfl) dX5_replaceOrReason_36 (SG.one [] (c5 K b V1) rfl rfl rfl) rfl ?_
    refine g_if_ne X hf 51 dX5_replaceOrReason_39 (by decide) (fun hf => ?_) (fun hf => ?_)
    · refine g_aload_n X dX5_replaceOrReason_42 2 rfl rfl ?_
      refine g_aload_n X dX5_replaceOrReason_43 3 rfl rfl ?_
      refine g_iload_n X dX5_replaceOrReason_44 4 rfl rfl ?_
      refine g_iload X dX5_replaceOrReason_45 0 rfl ?_
      obtain ⟨w7, hc8, hf⟩ := Option.bind_eq_some_iff.mp hf
      refine g_callV X (As := [.ref (a 0), ii p2, ii v1]) (st := []) (st1 := [ii w7.1]) (ws' := c8 K a w7.2 ++ (c5 K b V1)) (X5_adaptOrReason_ok K l a b V0 V1 p2 v1 w7 hc8) gX5_replaceOrReason_X5_adaptOrReason rfl 3 (by decide +kernel) ⟨rfl, rfl⟩ ⟨Nat.le_of_ble_eq_true rfl, Nat.le_of_ble_eq_true rfl⟩ ⟨Nat.zero_le _, Nat.zero_le _⟩ 23 rfl rfl rfl rfl (Nat.le_of_ble_eq_true rfl) dX5_replaceOrReason_47 (SG.all rfl) rfl ?_
      cases hf
      exact g_iret X hr hlk dX5_replaceOrReason_50
    · refine g_aload_n X dX5_replaceOrReason_51 2 rfl rfl ?_
      refine g_aload_n X dX5_replaceOrReason_52 3 rfl rfl ?_
      refine g_iload_n X dX5_replaceOrReason_53 4 rfl rfl ?_
      obtain ⟨v9, hc10, hf⟩ := Option.bind_eq_some_iff.mp hf
      refine g_callV X (As := [.ref (a 0), ii p2]) (st := []) (st1 := []) (ws' := c8 K a V0 ++ (c5 K b v9)) (X5_findArguments_ok K l a b V0 V1 p2 v9 hc10) gX5_replaceOrReason_X5_findArguments rfl 2 (by decide +kernel) ⟨rfl, rfl⟩ ⟨Nat.le_of_ble_eq_true rfl, Nat.le_of_ble_eq_true rfl⟩ ⟨Nat.zero_le _, Nat.zero_le _⟩ 23 rfl rfl rfl rfl (Nat.le_of_ble_eq_true rfl) dX5_replaceOrReason_54 (SG.all rfl) rfl ?_
      refine g_aload_n X dX5_replaceOrReason_57 3 rfl rfl ?_
      refine g_iload X dX5_replaceOrReason_58 0 rfl ?_
      obtain ⟨v11, hc12, hf⟩ := Option.bind_eq_some_iff.mp hf
      refine g_callV X (As := [ii v1]) (st := []) (st1 := [ii v11]) (ws' := c8 K a V0 ++ (c5 K b v9)) (X8_usedEntries_ok K l a V0 v1 v11 hc12) gX5_replaceOrReason_X8_usedEntries rfl 1 (by decide +kernel) ⟨rfl, rfl⟩ ⟨Nat.le_of_ble_eq_true rfl, Nat.le_of_ble_eq_true rfl⟩ ⟨Nat.zero_le _, Nat.zero_le _⟩ 0 rfl rfl rfl rfl (Nat.le_of_ble_eq_true rfl) dX5_replaceOrReason_60 (SG.one [] (c5 K b v9) rfl rfl rfl) rfl ?_
      refine g_istore X (lv' := [(5, ii v11), (4, ii v1), (3, .ref (ash a 18 0)), (0, .ref (b 0)), (1, .ref (a 0)), (2, ii p2)]) dX5_replaceOrReason_63 (by decide) rfl ?_
      refine g_aload_n X dX5_replaceOrReason_65 3 rfl rfl ?_
      refine g_aload_n X dX5_replaceOrReason_66 4 rfl rfl ?_
      refine g_get X (v := .ref (ash a 14 0)) 0 6 dX5_replaceOrReason_67 rfl rfl iw_X5_replaceOrReason_X8 (by decide) fl_X5_replaceOrReason_86 rfl ?_
      refine g_iload X dX5_replaceOrReason_70 1 rfl ?_
      refine g_iload X dX5_replaceOrReason_72 0 rfl ?_
      refine g_aload_n X dX5_replaceOrReason_74 2 rfl rfl ?_
      refine g_get X (v := .ref (ash a 18 3)) 18 3 dX5_replaceOrReason_75 rfl rfl iw_X5_replaceOrReason_X6 (by decide) fl_X5_replaceOrReason_53 rfl ?_
      refine g_iload_n X dX5_replaceOrReason_78 5 rfl rfl ?_
      refine g_iald X hf (by decide) 21 0 dX5_replaceOrReason_79 rfl rfl (fun v13 hf => ?_)
      obtain ⟨v14, hc15, hf⟩ := Option.bind_eq_some_iff.mp hf
      refine g_callV X (As := [.ref (ash a 14 0), ii v1, ii v11, ii v13]) (st := []) (st1 := [ii v14]) (ws' := c8 K a V0 ++ (c5 K b v9)) (X5_effectReason_ok K l (ash a 14) b V0.2.2.2.2.2.2.1 v9 v1 v11 v13 v14 hc15) gX5_replaceOrReason_X5_effectReason rfl 4 (by decide +kernel) ⟨rfl, rfl⟩ ⟨Nat.le_of_ble_eq_true rfl, Nat.le_of_ble_eq_true rfl⟩ ⟨Nat.zero_le _, Nat.zero_le _⟩ 23 rfl rfl rfl rfl (Nat.le_of_ble_eq_true rfl) dX5_replaceOrReason_80 (SG.two ([(a 0, .inr (8, [.ref (ash a 1 0), .ref (ash a 5 0), .ref (ash a 9 0), ii V0.2.2.2.1, .ref (a 13), ii V0.2.2.2.2.2.1, .ref (ash a 14 0), .ref (ash a 18 0), .ref (a 22)]))] ++ (c1 K 6 (ash a 1) V0.1 ++ (c1 K 6 (ash a 5) V0.2.1 ++ (c1 K 4 (ash a 9) V0.2.2.1 ++ ([(a 13, .inl (K.2.1, 6, .inl (arI V0.2.2.2.2.1)))]))))) (c6 K (ash a 18) V0.2.2.2.2.2.2.2.1 ++ ([(a 22, .inl (K.2.1, 8, .inl (arI V0.2.2.2.2.2.2.2.2)))])) [] rfl rfl rfl) rfl ?_
      refine g_istore X (lv' := [(6, ii v14), (5, ii v11), (4, ii v1), (3, .ref (ash a 18 0)), (0, .ref (b 0)), (1, .ref (a 0)), (2, ii p2)]) dX5_replaceOrReason_83 (by decide) rfl ?_
      refine g_iload X dX5_replaceOrReason_85 0 rfl ?_
      refine g_if_eq X hf 93 dX5_replaceOrReason_87 (by decide) (fun hf => ?_) (fun hf => ?_)
      · refine g_aload_n X dX5_replaceOrReason_93 4 rfl rfl ?_
        refine g_aload_n X dX5_replaceOrReason_94 5 rfl rfl ?_
        refine g_iload_n X dX5_replaceOrReason_95 6 rfl rfl ?_
        refine g_iload X dX5_replaceOrReason_96 2 rfl ?_
        refine g_iload X dX5_replaceOrReason_98 1 rfl ?_
        obtain ⟨v16, hc17, hf⟩ := Option.bind_eq_some_iff.mp hf
        refine g_callV X (As := [.ref (a 0), ii p2, ii v1, ii v11]) (st := []) (st1 := [ii v16]) (ws' := c8 K a V0 ++ (c5 K b v9)) (X5_sizeAfterReplacing_ok K l a b V0 v9 p2 v1 v11 v16 hc17) gX5_replaceOrReason_X5_sizeAfterReplacing rfl 4 (by decide +kernel) ⟨rfl, rfl⟩ ⟨Nat.le_of_ble_eq_true rfl, Nat.le_of_ble_eq_true rfl⟩ ⟨Nat.zero_le _, Nat.zero_le _⟩ 23 rfl rfl rfl rfl (Nat.le_of_ble_eq_true rfl) dX5_replaceOrReason_100 (SG.all rfl) rfl ?_
        refine g_bipush X dX5_replaceOrReason_103 (by decide +kernel) ?_
        refine g_icmp_le X hf 111 dX5_replaceOrReason_105 (by decide) (fun hf => ?_) (fun hf => ?_)
        · refine g_aload_n X dX5_replaceOrReason_111 4 rfl rfl ?_
          refine g_aload_n X dX5_replaceOrReason_112 5 rfl rfl ?_
          refine g_iload_n X dX5_replaceOrReason_113 6 rfl rfl ?_
          refine g_iload X dX5_replaceOrReason_114 2 rfl ?_
          refine g_iload X dX5_replaceOrReason_116 1 rfl ?_
          obtain ⟨w18, hc19, hf⟩ := Option.bind_eq_some_iff.mp hf
          refine g_callV X (As := [.ref (a 0), ii p2, ii v1, ii v11]) (st := []) (st1 := []) (ws' := c8 K a w18.1 ++ (c5 K b w18.2)) (X5_replaceSite_ok K l a b V0 v9 p2 v1 v11 w18 hc19) gX5_replaceOrReason_X5_replaceSite rfl 4 (by decide +kernel) ⟨rfl, rfl⟩ ⟨Nat.le_of_ble_eq_true rfl, Nat.le_of_ble_eq_true rfl⟩ ⟨Nat.zero_le _, Nat.zero_le _⟩ 23 rfl rfl rfl rfl (Nat.le_of_ble_eq_true rfl) dX5_replaceOrReason_118 (SG.all rfl) rfl ?_
          refine g_iconst X dX5_replaceOrReason_121 ?_
          cases hf
          exact g_iret X hr hlk dX5_replaceOrReason_122
        · refine g_bipush X dX5_replaceOrReason_108 (by decide +kernel) ?_
          cases hf
          exact g_iret X hr hlk dX5_replaceOrReason_110
      · refine g_iload X dX5_replaceOrReason_90 0 rfl ?_
        cases hf
        exact g_iret X hr hlk dX5_replaceOrReason_92
  · refine g_iconst X dX5_replaceOrReason_31 ?_
    cases hf
    exact g_iret X hr hlk dX5_replaceOrReason_32
set_option maxHeartbeats 4000000 in
set_option maxRecDepth 100000 in
theorem X5_replaceOrReason_ok (K : KE) (l : Launch) (a : Nat → Nat) (b : Nat → Nat) (V0 : St) (V1 : Mv) (p2 : Int) (res : Int × St × Mv) (hf : X5_replaceOrReason V0 V1 p2 = some res) : CT l K.1 vwCl (kT K) yX5_replaceOrReason wsX5_replaceOrReason rmX5_replaceOrReason [.ref (b 0), .ref (a 0), ii p2] (some (ii res.1)) (c8 K a V0 ++ (c5 K b V1)) (c8 K a res.2.1 ++ (c5 K b res.2.2)) :=
  CT.mk (cc := cX5_replaceOrReason) (maxL := 7) (ret := (some .int)) (by decide) rfl (Nat.le_of_ble_eq_true rfl) (fun p e s m below meth c X hr hlk => X5_replaceOrReason_go K l a b _ X hr hlk V0 V1 p2 res hf)
theorem iw_X6_countSites_X6 : ∀ w ∈ u_ws RX6 TX6 4, w ∈ wsX6_countSites := by decide +kernel
theorem fl_X6_countSites_9 : Cond.fieldLink RX6 9 (TX6 0).1 (TX6 0).2.1 (TX6 0).2.2.1 ∈ wsX6_countSites := by decide +kernel
theorem fl_X6_countSites_15 : Cond.fieldLink RX6 15 (TX6 1).1 (TX6 1).2.1 (TX6 1).2.2.1 ∈ wsX6_countSites := by decide +kernel
def rmX6_countSites : Room := { frames := 0, cells := 0, slots := 0, locals := 0 }
def X6_countSites_L4 (kx : Int → Option (Int)) (V0 : Pg) : Nat → Int → Int → Option (Int)
  | 0, _, _ => none
  | n + 1, y1, y2 => brLT y2 V0.1 (rdK 30 V0.2.1 y2 (fun v1 => ltK (fun q2 : Int => X6_countSites_L4 kx V0 n q2 (y2 + 1)) (fun j3 => brEQ v1 2 (j3 (y1 + 1)) (j3 y1)))) (kx y1)
def X6_countSites (V0 : Pg) : Option (Int) := X6_countSites_L4 (fun w4 => some w4) V0 FU 0 0
set_option maxHeartbeats 4000000 in
set_option maxRecDepth 100000 in
theorem X6_countSites_L4_ok (K : KE) (l : Launch) (a : Nat → Nat) (WC : va_W) {p : Program} {e : Env} {s : State} {m : MethodId} {args : Array Value} {below : List Frame} {meth : Method} {c : Code} (X : CX p s m args c K.1 vwCl (kT K) (va_A WC s.heap.size) cX6_countSites 3 wsX6_countSites RX6) (hr : meth.sig.returnType = (some .int)) (hlk : meth.locks = false) (V0 : Pg)  (res : Int) {kx : Int → Option (Int)} : ∀ (n : Nat) (y1 : Int) (y2 : Int), X6_countSites_L4 kx V0 n y1 y2 = some res → (∀ (z1 : Int), kx z1 = some res → GO p l e rmX6_countSites s m args below meth c K.1 vwCl (va_A WC s.heap.size) (MQ below (QC K.1 vwCl (some (ii res)) WC (c6 K a V0) s.heap.size) args s 0 0 (va_A WC s.heap.size)) 3 0 0 31 [(1, ii z1)] [] (c6 K a V0)) → GO p l e rmX6_countSites s m args below meth c K.1 vwCl (va_A WC s.heap.size) (MQ below (QC K.1 vwCl (some (ii res)) WC (c6 K a V0) s.heap.size) args s 0 0 (va_A WC s.heap.size)) 3 0 0 4 [(0, .ref (a 0)), (1, ii y1), (2, ii y2)] [] (c6 K a V0) := by
  intro n
  induction n with
  | zero =>
    intro y1 y2 hf _
    rw [X6_countSites_L4] at hf
    cases hf
  | succ n ih =>
    intro y1 y2 hf hk
    rw [X6_countSites_L4] at hf
    refine g_iload_n X dX6_countSites_4 2 rfl rfl ?_
    refine g_aload_n X dX6_countSites_5 0 rfl rfl ?_
    refine g_get X (v := ii V0.1) 0 0 dX6_countSites_6 rfl rfl iw_X6_countSites_X6 (by decide) fl_X6_countSites_9 rfl ?_
    refine g_icmp_ge X hf 31 dX6_countSites_9 (by decide) (fun hf => ?_) (fun hf => ?_)
    · refine g_aload_n X dX6_countSites_12 0 rfl rfl ?_
      refine g_get X (v := .ref (a 1)) 0 1 dX6_countSites_13 rfl rfl iw_X6_countSites_X6 (by decide) fl_X6_countSites_15 rfl ?_
      refine g_iload_n X dX6_countSites_16 2 rfl rfl ?_
      refine g_iald X hf (by decide) 1 0 dX6_countSites_17 rfl rfl (fun v1 hf => ?_)
      refine g_iconst X dX6_countSites_18 ?_
      refine g_let (G := fun q2 : Int => GO p l e rmX6_countSites s m args below meth c K.1 vwCl (va_A WC s.heap.size) (MQ below (QC K.1 vwCl (some (ii res)) WC (c6 K a V0) s.heap.size) args s 0 0 (va_A WC s.heap.size)) 3 0 0 25 [(0, .ref (a 0)), (1, ii q2), (2, ii y2)] [] (c6 K a V0)) hf (fun q2 hf => ?_) (fun j3 hj3 hf => ?_)
      · refine g_iinc X (lv' := [(2, ii (y2 + 1)), (0, .ref (a 0)), (1, ii q2)]) dX6_countSites_25 2 rfl (by decide) rfl ?_
        refine g_goto X 4 dX6_countSites_28 (by decide) ?_
        refine g_sub (lv' := [(0, .ref (a 0)), (1, ii q2), (2, ii (y2 + 1))]) [1, 2, 0] rfl ?_
        exact ih q2 (y2 + 1) hf hk
      · refine g_icmp_ne X hf 25 dX6_countSites_19 (by decide) (fun hf => ?_) (fun hf => ?_)
        · refine g_iinc X (lv' := [(1, ii (y1 + 1)), (0, .ref (a 0)), (2, ii y2)]) dX6_countSites_22 1 rfl (by decide) rfl ?_
          refine g_sub (lv' := [(0, .ref (a 0)), (1, ii (y1 + 1)), (2, ii y2)]) [1, 0, 2] rfl ?_
          exact hj3 (y1 + 1) hf
        · exact hj3 y1 hf
    · refine g_sub (lv' := [(1, ii y1)]) [1] rfl ?_
      exact hk y1 hf
set_option maxHeartbeats 4000000 in
set_option maxRecDepth 100000 in
theorem X6_countSites_go (K : KE) (l : Launch) (a : Nat → Nat) (WC : va_W) {p : Program} {e : Env} {s : State} {m : MethodId} {args : Array Value} {below : List Frame} {meth : Method} {c : Code} (X : CX p s m args c K.1 vwCl (kT K) (va_A WC s.heap.size) cX6_countSites 3 wsX6_countSites RX6) (hr : meth.sig.returnType = (some .int)) (hlk : meth.locks = false) (V0 : Pg) (res : Int) (hf : X6_countSites V0 = some res) : GO p l e rmX6_countSites s m args below meth c K.1 vwCl (va_A WC s.heap.size) (MQ below (QC K.1 vwCl (some (ii res)) WC (c6 K a V0) s.heap.size) args s 0 0 (va_A WC s.heap.size)) 3 0 0 0 [(0, .ref (a 0))] [] (c6 K a V0) := by
  rw [X6_countSites] at hf
  refine g_iconst X dX6_countSites_0 ?_
  refine g_istore_n X (lv' := [(1, ii 0), (0, .ref (a 0))]) dX6_countSites_1 rfl (by decide) rfl ?_
  refine g_iconst X dX6_countSites_2 ?_
  refine g_istore_n X (lv' := [(2, ii 0), (1, ii 0), (0, .ref (a 0))]) dX6_countSites_3 rfl (by decide) rfl ?_
  refine g_sub (lv' := [(0, .ref (a 0)), (1, ii 0), (2, ii 0)]) [2, 1, 0] rfl ?_
  refine X6_countSites_L4_ok K l a WC X hr hlk V0 res FU 0 0 hf (fun w4 hf => ?_)
  refine g_iload_n X dX6_countSites_31 0 rfl rfl ?_
  cases hf
  exact g_iret X hr hlk dX6_countSites_32
set_option maxHeartbeats 4000000 in
set_option maxRecDepth 100000 in
theorem X6_countSites_ok (K : KE) (l : Launch) (a : Nat → Nat) (V0 : Pg) (res : Int) (hf : X6_countSites V0 = some res) : CT l K.1 vwCl (kT K) yX6_countSites wsX6_countSites rmX6_countSites [.ref (a 0)] (some (ii res)) (c6 K a V0) (c6 K a V0) :=
  CT.mk (cc := cX6_countSites) (maxL := 3) (ret := (some .int)) (by decide) rfl (Nat.le_of_ble_eq_true rfl) (fun p e s m below meth c X hr hlk => X6_countSites_go K l a _ X hr hlk V0 res hf)
theorem iw_X0_pop_X0 : ∀ w ∈ u_ws RX0 TX0 2, w ∈ wsX0_pop := by decide +kernel
theorem fl_X0_pop_15 : Cond.fieldLink RX0 15 (TX0 1).1 (TX0 1).2.1 (TX0 1).2.2.1 ∈ wsX0_pop := by decide +kernel
theorem fl_X0_pop_9 : Cond.fieldLink RX0 9 (TX0 0).1 (TX0 0).2.1 (TX0 0).2.2.1 ∈ wsX0_pop := by decide +kernel
def rmX0_pop : Room := { frames := 0, cells := 0, slots := 0, locals := 0 }
def X0_pop (V0 : Ev) : Option (Int × Ev) := brLE V0.2 0 (some (0, V0)) (rdK 30 V0.1 (V0.2 - 1) (fun v1 => some (v1, (V0.1, (V0.2 - 1)))))
set_option maxHeartbeats 4000000 in
set_option maxRecDepth 100000 in
theorem X0_pop_go (K : KE) (l : Launch) (a : Nat → Nat) (WC : va_W) {p : Program} {e : Env} {s : State} {m : MethodId} {args : Array Value} {below : List Frame} {meth : Method} {c : Code} (X : CX p s m args c K.1 vwCl (kT K) (va_A WC s.heap.size) cX0_pop 1 wsX0_pop RX0) (hr : meth.sig.returnType = (some .int)) (hlk : meth.locks = false) (V0 : Ev) (res : Int × Ev) (hf : X0_pop V0 = some res) : GO p l e rmX0_pop s m args below meth c K.1 vwCl (va_A WC s.heap.size) (MQ below (QC K.1 vwCl (some (ii res.1)) WC (c0 K a res.2) s.heap.size) args s 0 0 (va_A WC s.heap.size)) 1 0 0 0 [(0, .ref (a 0))] [] (c0 K a V0) := by
  rw [X0_pop] at hf
  refine g_aload_n X dX0_pop_0 0 rfl rfl ?_
  refine g_get X (v := ii V0.2) 0 1 dX0_pop_1 rfl rfl iw_X0_pop_X0 (by decide) fl_X0_pop_15 rfl ?_
  refine g_if_gt X hf 9 dX0_pop_4 (by decide) (fun hf => ?_) (fun hf => ?_)
  · refine g_iconst X dX0_pop_7 ?_
    cases hf
    exact g_iret X hr hlk dX0_pop_8
  · refine g_aload_n X dX0_pop_9 0 rfl rfl ?_
    refine g_dup X dX0_pop_10 rfl ?_
    refine g_get X (v := ii V0.2) 0 1 dX0_pop_11 rfl rfl iw_X0_pop_X0 (by decide) fl_X0_pop_15 rfl ?_
    refine g_iconst X dX0_pop_14 ?_
    refine g_isub X dX0_pop_15 ?_
    refine g_puti X 0 1 dX0_pop_16 rfl rfl iw_X0_pop_X0 tyX0_ok nmX0 (by decide) fl_X0_pop_15 rfl rfl (Nat.le_of_ble_eq_true rfl) (ws' := c0 K a (V0.1, (V0.2 - 1))) rfl ?_
    refine g_aload_n X dX0_pop_19 0 rfl rfl ?_
    refine g_get X (v := .ref (a 1)) 0 0 dX0_pop_20 rfl rfl iw_X0_pop_X0 (by decide) fl_X0_pop_9 rfl ?_
    refine g_aload_n X dX0_pop_23 0 rfl rfl ?_
    refine g_get X (v := ii (V0.2 - 1)) 0 1 dX0_pop_24 rfl rfl iw_X0_pop_X0 (by decide) fl_X0_pop_15 rfl ?_
    refine g_iald X hf (by decide) 1 0 dX0_pop_27 rfl rfl (fun v1 hf => ?_)
    cases hf
    exact g_iret X hr hlk dX0_pop_28
set_option maxHeartbeats 4000000 in
set_option maxRecDepth 100000 in
theorem X0_pop_ok (K : KE) (l : Launch) (a : Nat → Nat) (V0 : Ev) (res : Int × Ev) (hf : X0_pop V0 = some res) : CT l K.1 vwCl (kT K) yX0_pop wsX0_pop rmX0_pop [.ref (a 0)] (some (ii res.1)) (c0 K a V0) (c0 K a res.2) :=
  CT.mk (cc := cX0_pop) (maxL := 1) (ret := (some .int)) (by decide) rfl (Nat.le_of_ble_eq_true rfl) (fun p e s m below meth c X hr hlk => X0_pop_go K l a _ X hr hlk V0 res hf)
def rmX0_callResult : Room := { frames := 2, cells := 0, slots := 0, locals := 45 }
def X0_callResult_L11 (kx : Int → Ev → Option (Int × Ev)) (cn0 : Nat) (V0 : FT) (x2 : Int) (x3 : Int) : Nat → Int → Int → Ev → Option (Int × Ev)
  | 0, _, _, _ => none
  | n + 1, y4, y5, V1 => brLT y5 x3 ((X1_term cn0 V0 x2 y5).bind (fun v3 => (X0_pop V1).bind (fun w5 => X0_callResult_L11 kx cn0 V0 x2 x3 n (y4 + (v3 * w5.1)) (y5 + 1) w5.2))) (kx y4 V1)
def X0_callResult (cn0 : Nat) (V0 : FT) (V1 : Ev) (p2 : Int) (p3 : Int) : Option (Int × Ev) := (X1_term cn0 V0 p2 (-1)).bind (fun v1 => X0_callResult_L11 (fun w7 w8 => rmK w7 1000 (fun v9 => some (v9, w8))) cn0 V0 p2 p3 FU v1 0 V1)
set_option maxHeartbeats 4000000 in
set_option maxRecDepth 100000 in
theorem X0_callResult_L11_ok (K : KE) (l : Launch) (cn0 : Nat) (hcn0 : cn0 ≤ 1000) (a : Nat → Nat) (b : Nat → Nat) (WC : va_W) {p : Program} {e : Env} {s : State} {m : MethodId} {args : Array Value} {below : List Frame} {meth : Method} {c : Code} (X : CX p s m args c K.1 vwCl (kT K) (va_A WC s.heap.size) cX0_callResult 6 wsX0_callResult RX0) (hr : meth.sig.returnType = (some .int)) (hlk : meth.locks = false) (V0 : FT) (x2 : Int) (x3 : Int) (res : Int × Ev) {kx : Int → Ev → Option (Int × Ev)} : ∀ (n : Nat) (y4 : Int) (y5 : Int) (V1 : Ev), X0_callResult_L11 kx cn0 V0 x2 x3 n y4 y5 V1 = some res → (∀ (z4 : Int) (V1z : Ev), kx z4 V1z = some res → GO p l e rmX0_callResult s m args below meth c K.1 vwCl (va_A WC s.heap.size) (MQ below (QC K.1 vwCl (some (ii res.1)) WC (c1 K cn0 a V0 ++ (c0 K b res.2)) s.heap.size) args s 0 0 (va_A WC s.heap.size)) 6 0 0 40 [(4, ii z4)] [] (c1 K cn0 a V0 ++ (c0 K b V1z))) → GO p l e rmX0_callResult s m args below meth c K.1 vwCl (va_A WC s.heap.size) (MQ below (QC K.1 vwCl (some (ii res.1)) WC (c1 K cn0 a V0 ++ (c0 K b res.2)) s.heap.size) args s 0 0 (va_A WC s.heap.size)) 6 0 0 11 [(0, .ref (b 0)), (1, .ref (a 0)), (2, ii x2), (3, ii x3), (4, ii y4), (5, ii y5)] [] (c1 K cn0 a V0 ++ (c0 K b V1)) := by
  intro n
  induction n with
  | zero =>
    intro y4 y5 V1 hf _
    rw [X0_callResult_L11] at hf
    cases hf
  | succ n ih =>
    intro y4 y5 V1 hf hk
    rw [X0_callResult_L11] at hf
    refine g_iload X dX0_callResult_11 5 rfl ?_
    refine g_iload_n X dX0_callResult_13 3 rfl rfl ?_
    refine g_icmp_ge X hf 40 dX0_callResult_14 (by decide) (fun hf => ?_) (fun hf => ?_)
    · refine g_iload X dX0_callResult_17 4 rfl ?_
      refine g_aload_n X dX0_callResult_19 1 rfl rfl ?_
      refine g_iload_n X dX0_callResult_20 2 rfl rfl ?_
      refine g_iload X dX0_callResult_21 5 rfl ?_
      obtain ⟨v3, hc4, hf⟩ := Option.bind_eq_some_iff.mp hf
      refine g_callV X (As := [ii x2, ii y5]) (st := [ii y4]) (st1 := [ii v3, ii y4]) (ws' := c1 K cn0 a V0 ++ (c0 K b V1)) (X1_term_ok K l cn0 hcn0 a V0 x2 y5 v3 hc4) gX0_callResult_X1_term rfl 2 (by decide +kernel) ⟨rfl, rfl⟩ ⟨Nat.le_of_ble_eq_true rfl, Nat.le_of_ble_eq_true rfl⟩ ⟨Nat.zero_le _, Nat.zero_le _⟩ 0 rfl rfl rfl rfl (Nat.le_of_ble_eq_true rfl) dX0_callResult_23 (SG.one [] (c0 K b V1) rfl rfl rfl) rfl ?_
      refine g_aload_n X dX0_callResult_26 0 rfl rfl ?_
      obtain ⟨w5, hc6, hf⟩ := Option.bind_eq_some_iff.mp hf
      refine g_callV X (As := []) (st := [ii v3, ii y4]) (st1 := [ii w5.1, ii v3, ii y4]) (ws' := c1 K cn0 a V0 ++ (c0 K b w5.2)) (X0_pop_ok K l b V1 w5 hc6) gX0_callResult_X0_pop rfl 0 (by decide +kernel) ⟨rfl, rfl⟩ ⟨Nat.le_of_ble_eq_true rfl, Nat.le_of_ble_eq_true rfl⟩ ⟨Nat.zero_le _, Nat.zero_le _⟩ 4 rfl rfl rfl rfl (Nat.le_of_ble_eq_true rfl) dX0_callResult_27 (SG.one (c1 K cn0 a V0) [] rfl rfl rfl) rfl ?_
      refine g_imul X dX0_callResult_30 ?_
      refine g_iadd X dX0_callResult_31 ?_
      refine g_istore X (lv' := [(4, ii (y4 + (v3 * w5.1))), (0, .ref (b 0)), (1, .ref (a 0)), (2, ii x2), (3, ii x3), (5, ii y5)]) dX0_callResult_32 (by decide) rfl ?_
      refine g_iinc X (lv' := [(5, ii (y5 + 1)), (4, ii (y4 + (v3 * w5.1))), (0, .ref (b 0)), (1, .ref (a 0)), (2, ii x2), (3, ii x3)]) dX0_callResult_34 5 rfl (by decide) rfl ?_
      refine g_goto X 11 dX0_callResult_37 (by decide) ?_
      refine g_sub (lv' := [(0, .ref (b 0)), (1, .ref (a 0)), (2, ii x2), (3, ii x3), (4, ii (y4 + (v3 * w5.1))), (5, ii (y5 + 1))]) [2, 3, 4, 5, 1, 0] rfl ?_
      exact ih (y4 + (v3 * w5.1)) (y5 + 1) w5.2 hf hk
    · refine g_sub (lv' := [(4, ii y4)]) [4] rfl ?_
      exact hk y4 V1 hf
set_option maxHeartbeats 4000000 in
set_option maxRecDepth 100000 in
theorem X0_callResult_go (K : KE) (l : Launch) (cn0 : Nat) (hcn0 : cn0 ≤ 1000) (a : Nat → Nat) (b : Nat → Nat) (WC : va_W) {p : Program} {e : Env} {s : State} {m : MethodId} {args : Array Value} {below : List Frame} {meth : Method} {c : Code} (X : CX p s m args c K.1 vwCl (kT K) (va_A WC s.heap.size) cX0_callResult 6 wsX0_callResult RX0) (hr : meth.sig.returnType = (some .int)) (hlk : meth.locks = false) (V0 : FT) (V1 : Ev) (p2 : Int) (p3 : Int) (res : Int × Ev) (hf : X0_callResult cn0 V0 V1 p2 p3 = some res) : GO p l e rmX0_callResult s m args below meth c K.1 vwCl (va_A WC s.heap.size) (MQ below (QC K.1 vwCl (some (ii res.1)) WC (c1 K cn0 a V0 ++ (c0 K b res.2)) s.heap.size) args s 0 0 (va_A WC s.heap.size)) 6 0 0 0 [(0, .ref (b 0)), (1, .ref (a 0)), (2, ii p2), (3, ii p3)] [] (c1 K cn0 a V0 ++ (c0 K b V1)) := by
  rw [X0_callResult] at hf
  refine g_aload_n X dX0_callResult_0 1 rfl rfl ?_
  refine g_iload_n X dX0_callResult_1 2 rfl rfl ?_
  refine g_iconst X dX0_callResult_2 ?_
  obtain ⟨v1, hc2, hf⟩ := Option.bind_eq_some_iff.mp hf
  refine g_callV X (As := [ii p2, ii (-1)]) (st := []) (st1 := [ii v1]) (ws' := c1 K cn0 a V0 ++ (c0 K b V1)) (X1_term_ok K l cn0 hcn0 a V0 p2 (-1) v1 hc2) gX0_callResult_X1_term rfl 2 (by decide +kernel) ⟨rfl, rfl⟩ ⟨Nat.le_of_ble_eq_true rfl, Nat.le_of_ble_eq_true rfl⟩ ⟨Nat.zero_le _, Nat.zero_le _⟩ 0 rfl rfl rfl rfl (Nat.le_of_ble_eq_true rfl) dX0_callResult_3 (SG.one [] (c0 K b V1) rfl rfl rfl) rfl ?_
  refine g_istore X (lv' := [(4, ii v1), (0, .ref (b 0)), (1, .ref (a 0)), (2, ii p2), (3, ii p3)]) dX0_callResult_6 (by decide) rfl ?_
  refine g_iconst X dX0_callResult_8 ?_
  refine g_istore X (lv' := [(5, ii 0), (4, ii v1), (0, .ref (b 0)), (1, .ref (a 0)), (2, ii p2), (3, ii p3)]) dX0_callResult_9 (by decide) rfl ?_
  refine g_sub (lv' := [(0, .ref (b 0)), (1, .ref (a 0)), (2, ii p2), (3, ii p3), (4, ii v1), (5, ii 0)]) [2, 3, 4, 5, 1, 0] rfl ?_
  refine X0_callResult_L11_ok K l cn0 hcn0 a b WC X hr hlk V0 p2 p3 res FU v1 0 V1 hf (fun w7 w8 hf => ?_)
  refine g_iload X dX0_callResult_40 0 rfl ?_
  refine g_sipush X dX0_callResult_42 (by decide +kernel) ?_
  refine g_irem X hf (by decide) dX0_callResult_45 (fun v9 hf => ?_)
  cases hf
  exact g_iret X hr hlk dX0_callResult_46
set_option maxHeartbeats 4000000 in
set_option maxRecDepth 100000 in
theorem X0_callResult_ok (K : KE) (l : Launch) (cn0 : Nat) (hcn0 : cn0 ≤ 1000) (a : Nat → Nat) (b : Nat → Nat) (V0 : FT) (V1 : Ev) (p2 : Int) (p3 : Int) (res : Int × Ev) (hf : X0_callResult cn0 V0 V1 p2 p3 = some res) : CT l K.1 vwCl (kT K) yX0_callResult wsX0_callResult rmX0_callResult [.ref (b 0), .ref (a 0), ii p2, ii p3] (some (ii res.1)) (c1 K cn0 a V0 ++ (c0 K b V1)) (c1 K cn0 a V0 ++ (c0 K b res.2)) :=
  CT.mk (cc := cX0_callResult) (maxL := 6) (ret := (some .int)) (by decide) rfl (Nat.le_of_ble_eq_true rfl) (fun p e s m below meth c X hr hlk => X0_callResult_go K l cn0 hcn0 a b _ X hr hlk V0 V1 p2 p3 res hf)
theorem iw_X0_push_X0 : ∀ w ∈ u_ws RX0 TX0 2, w ∈ wsX0_push := by decide +kernel
theorem fl_X0_push_15 : Cond.fieldLink RX0 15 (TX0 1).1 (TX0 1).2.1 (TX0 1).2.2.1 ∈ wsX0_push := by decide +kernel
theorem fl_X0_push_9 : Cond.fieldLink RX0 9 (TX0 0).1 (TX0 0).2.1 (TX0 0).2.2.1 ∈ wsX0_push := by decide +kernel
def rmX0_push : Room := { frames := 0, cells := 0, slots := 0, locals := 0 }
def X0_push (V0 : Ev) (p1 : Int) : Option (Ev) := brLT V0.2 30 (wrK 30 V0.1 V0.2 p1 (fun f1 => some (f1, (V0.2 + 1)))) (some V0)
set_option maxHeartbeats 4000000 in
set_option maxRecDepth 100000 in
theorem X0_push_go (K : KE) (l : Launch) (a : Nat → Nat) (WC : va_W) {p : Program} {e : Env} {s : State} {m : MethodId} {args : Array Value} {below : List Frame} {meth : Method} {c : Code} (X : CX p s m args c K.1 vwCl (kT K) (va_A WC s.heap.size) cX0_push 2 wsX0_push RX0) (hr : meth.sig.returnType = none) (hlk : meth.locks = false) (V0 : Ev) (p1 : Int) (res : Ev) (hf : X0_push V0 p1 = some res) : GO p l e rmX0_push s m args below meth c K.1 vwCl (va_A WC s.heap.size) (MQ below (QC K.1 vwCl none WC (c0 K a res) s.heap.size) args s 0 0 (va_A WC s.heap.size)) 2 0 0 0 [(0, .ref (a 0)), (1, ii p1)] [] (c0 K a V0) := by
  rw [X0_push] at hf
  refine g_aload_n X dX0_push_0 0 rfl rfl ?_
  refine g_get X (v := ii V0.2) 0 1 dX0_push_1 rfl rfl iw_X0_push_X0 (by decide) fl_X0_push_15 rfl ?_
  refine g_bipush X dX0_push_4 (by decide +kernel) ?_
  refine g_icmp_ge X hf 29 dX0_push_6 (by decide) (fun hf => ?_) (fun hf => ?_)
  · refine g_aload_n X dX0_push_9 0 rfl rfl ?_
    refine g_get X (v := .ref (a 1)) 0 0 dX0_push_10 rfl rfl iw_X0_push_X0 (by decide) fl_X0_push_9 rfl ?_
    refine g_aload_n X dX0_push_13 0 rfl rfl ?_
    refine g_get X (v := ii V0.2) 0 1 dX0_push_14 rfl rfl iw_X0_push_X0 (by decide) fl_X0_push_15 rfl ?_
    refine g_iload_n X dX0_push_17 1 rfl rfl ?_
    refine g_iast X hf (by decide) 1 0 dX0_push_18 rfl rfl (fun f1 => c0 K a (f1, V0.2)) (fun _ => rfl) (fun f1 hf => ?_)
    refine g_aload_n X dX0_push_19 0 rfl rfl ?_
    refine g_dup X dX0_push_20 rfl ?_
    refine g_get X (v := ii V0.2) 0 1 dX0_push_21 rfl rfl iw_X0_push_X0 (by decide) fl_X0_push_15 rfl ?_
    refine g_iconst X dX0_push_24 ?_
    refine g_iadd X dX0_push_25 ?_
    refine g_puti X 0 1 dX0_push_26 rfl rfl iw_X0_push_X0 tyX0_ok nmX0 (by decide) fl_X0_push_15 rfl rfl (Nat.le_of_ble_eq_true rfl) (ws' := c0 K a (f1, (V0.2 + 1))) rfl ?_
    cases hf
    exact g_vret X hr hlk dX0_push_29
  · cases hf
    exact g_vret X hr hlk dX0_push_29
set_option maxHeartbeats 4000000 in
set_option maxRecDepth 100000 in
theorem X0_push_ok (K : KE) (l : Launch) (a : Nat → Nat) (V0 : Ev) (p1 : Int) (res : Ev) (hf : X0_push V0 p1 = some res) : CT l K.1 vwCl (kT K) yX0_push wsX0_push rmX0_push [.ref (a 0), ii p1] none (c0 K a V0) (c0 K a res) :=
  CT.mk (cc := cX0_push) (maxL := 2) (ret := none) (by decide) rfl (Nat.le_of_ble_eq_true rfl) (fun p e s m below meth c X hr hlk => X0_push_go K l a _ X hr hlk V0 p1 res hf)
theorem iw_X0_evaluate_X8 : ∀ w ∈ u_ws RX8 TX8 9, w ∈ wsX0_evaluate := by decide +kernel
theorem fl_X0_evaluate_19 : Cond.fieldLink RX0 19 (TX8 7).1 (TX8 7).2.1 (TX8 7).2.2.1 ∈ wsX0_evaluate := by decide +kernel
theorem iw_X0_evaluate_X0 : ∀ w ∈ u_ws RX0 TX0 2, w ∈ wsX0_evaluate := by decide +kernel
theorem fl_X0_evaluate_15 : Cond.fieldLink RX0 15 (TX0 1).1 (TX0 1).2.1 (TX0 1).2.2.1 ∈ wsX0_evaluate := by decide +kernel
theorem iw_X0_evaluate_X6 : ∀ w ∈ u_ws RX6 TX6 4, w ∈ wsX0_evaluate := by decide +kernel
theorem fl_X0_evaluate_25 : Cond.fieldLink RX0 25 (TX6 0).1 (TX6 0).2.1 (TX6 0).2.2.1 ∈ wsX0_evaluate := by decide +kernel
theorem fl_X0_evaluate_30 : Cond.fieldLink RX0 30 (TX6 1).1 (TX6 1).2.1 (TX6 1).2.2.1 ∈ wsX0_evaluate := by decide +kernel
theorem ne_X0_evaluate_33 : (RX0, 33, yX9_isCall) ∈ nestL := by decide +kernel
theorem wd_X0_evaluate_ini9 : Cond.initialized yX9_isCall.cls ∈ wsX0_evaluate := by decide +kernel
theorem wd_X0_evaluate_sta_X9_isCall : Cond.static yX9_isCall ∈ wsX0_evaluate := by decide +kernel
theorem fl_X0_evaluate_41 : Cond.fieldLink RX0 41 (TX6 2).1 (TX6 2).2.1 (TX6 2).2.2.1 ∈ wsX0_evaluate := by decide +kernel
theorem fl_X0_evaluate_44 : Cond.fieldLink RX0 44 (TX6 3).1 (TX6 3).2.1 (TX6 3).2.2.1 ∈ wsX0_evaluate := by decide +kernel
def rmX0_evaluate : Room := { frames := 3, cells := 0, slots := 0, locals := 70 }
def X0_evaluate_L20 (kx : Ev → Option (Int × Ev)) (V0 : St) (x2 : Int) (x3 : Int) : Nat → Int → Ev → Option (Int × Ev)
  | 0, _, _ => none
  | n + 1, y5, V1 => brLT y5 0 (kx V1) (rdK 30 V0.2.2.2.2.2.2.2.1.2.1 y5 (fun v1 => (X9_isCall v1).bind (fun v2 => ltK (fun q4 : Ev => X0_evaluate_L20 kx V0 x2 x3 n (y5 + (-1)) q4) (fun j5 => brEQ v2 0 (rdK 30 V0.2.2.2.2.2.2.2.1.2.1 y5 (fun v6 => brEQ v6 1 (rdK 30 V0.2.2.2.2.2.2.2.1.2.2.1 y5 (fun v7 => ltK (fun q8 : Int => (X0_push V1 q8).bind (fun v10 => j5 v10)) (fun j9 => brEQ v7 0 (j9 x2) (j9 x3)))) (rdK 30 V0.2.2.2.2.2.2.2.1.2.2.1 y5 (fun v12 => (X0_push V1 v12).bind (fun v13 => j5 v13))))) (rdK 30 V0.2.2.2.2.2.2.2.1.2.1 y5 (fun v15 => (X8_tableOf V0 v15).bind (fun v16 => sel3 v16 (rdK 30 V0.2.2.2.2.2.2.2.1.2.2.1 y5 (fun v18 => rdK 30 V0.2.2.2.2.2.2.2.1.2.2.2 y5 (fun v19 => (X0_callResult 6 V0.1 V1 v18 v19).bind (fun w20 => (X0_push w20.2 w20.1).bind (fun v22 => j5 v22))))) (rdK 30 V0.2.2.2.2.2.2.2.1.2.2.1 y5 (fun v24 => rdK 30 V0.2.2.2.2.2.2.2.1.2.2.2 y5 (fun v25 => (X0_callResult 6 V0.2.1 V1 v24 v25).bind (fun w26 => (X0_push w26.2 w26.1).bind (fun v28 => j5 v28))))) (rdK 30 V0.2.2.2.2.2.2.2.1.2.2.1 y5 (fun v30 => rdK 30 V0.2.2.2.2.2.2.2.1.2.2.2 y5 (fun v31 => (X0_callResult 4 V0.2.2.1 V1 v30 v31).bind (fun w32 => (X0_push w32.2 w32.1).bind (fun v34 => j5 v34))))))))))))
def X0_evaluate (V0 : St) (V1 : Ev) (p2 : Int) (p3 : Int) : Option (Int × Ev) := X0_evaluate_L20 (fun w36 => (X0_pop w36).bind (fun w37 => some (w37.1, w37.2))) V0 p2 p3 FU (V0.2.2.2.2.2.2.2.1.1 - 1) (V1.1, 0)
set_option maxHeartbeats 4000000 in
set_option maxRecDepth 100000 in
theorem X0_evaluate_L20_ok (K : KE) (l : Launch) (a : Nat → Nat) (b : Nat → Nat) (WC : va_W) {p : Program} {e : Env} {s : State} {m : MethodId} {args : Array Value} {below : List Frame} {meth : Method} {c : Code} (X : CX p s m args c K.1 vwCl (kT K) (va_A WC s.heap.size) cX0_evaluate 7 wsX0_evaluate RX0) (hr : meth.sig.returnType = (some .int)) (hlk : meth.locks = false) (V0 : St) (x2 : Int) (x3 : Int) (res : Int × Ev) {kx : Ev → Option (Int × Ev)} : ∀ (n : Nat) (y5 : Int) (V1 : Ev), X0_evaluate_L20 kx V0 x2 x3 n y5 V1 = some res → (∀ (V1z : Ev), kx V1z = some res → GO p l e rmX0_evaluate s m args below meth c K.1 vwCl (va_A WC s.heap.size) (MQ below (QC K.1 vwCl (some (ii res.1)) WC (c8 K a V0 ++ (c0 K b res.2)) s.heap.size) args s 0 0 (va_A WC s.heap.size)) 7 0 0 135 [(0, .ref (b 0))] [] (c8 K a V0 ++ (c0 K b V1z))) → GO p l e rmX0_evaluate s m args below meth c K.1 vwCl (va_A WC s.heap.size) (MQ below (QC K.1 vwCl (some (ii res.1)) WC (c8 K a V0 ++ (c0 K b res.2)) s.heap.size) args s 0 0 (va_A WC s.heap.size)) 7 0 0 20 [(0, .ref (b 0)), (1, .ref (a 0)), (2, ii x2), (3, ii x3), (4, .ref (ash a 18 0)), (5, ii y5)] [] (c8 K a V0 ++ (c0 K b V1)) := by
  intro n
  induction n with
  | zero =>
    intro y5 V1 hf _
    rw [X0_evaluate_L20] at hf
    cases hf
  | succ n ih =>
    intro y5 V1 hf hk
    rw [X0_evaluate_L20] at hf
    refine g_iload X dX0_evaluate_20 5 rfl ?_
    refine g_if_lt X hf 135 dX0_evaluate_22 (by decide) (fun hf => ?_) (fun hf => ?_)
    · refine g_sub (lv' := [(0, .ref (b 0))]) [0] rfl ?_
      exact hk V1 hf
    · refine g_aload X dX0_evaluate_25 4 rfl ?_
      refine g_get X (v := .ref (ash a 18 1)) 18 1 dX0_evaluate_27 rfl rfl iw_X0_evaluate_X6 (by decide) fl_X0_evaluate_30 rfl ?_
      refine g_iload X dX0_evaluate_30 5 rfl ?_
      refine g_iald X hf (by decide) 19 0 dX0_evaluate_32 rfl rfl (fun v1 hf => ?_)
      obtain ⟨v2, hc3, hf⟩ := Option.bind_eq_some_iff.mp hf
      refine g_callSN X (As := [ii v1]) (st := []) (st1 := [ii v2]) (ws' := c8 K a V0 ++ (c0 K b V1)) (X9_isCall_ok K l v1 v2 hc3) ggX0_evaluate_X9_isCall ne_X0_evaluate_33 wd_X0_evaluate_ini9 wd_X0_evaluate_sta_X9_isCall rfl 1 (by decide +kernel) ⟨rfl, rfl⟩ ⟨Nat.le_of_ble_eq_true rfl, Nat.le_of_ble_eq_true rfl⟩ ⟨Nat.zero_le _, Nat.zero_le _⟩ rfl rfl (Nat.le_of_ble_eq_true rfl) dX0_evaluate_33 SG.none rfl ?_
      refine g_let (G := fun q4 : Ev => GO p l e rmX0_evaluate s m args below meth c K.1 vwCl (va_A WC s.heap.size) (MQ below (QC K.1 vwCl (some (ii res.1)) WC (c8 K a V0 ++ (c0 K b res.2)) s.heap.size) args s 0 0 (va_A WC s.heap.size)) 7 0 0 129 [(0, .ref (b 0)), (1, .ref (a 0)), (2, ii x2), (3, ii x3), (4, .ref (ash a 18 0)), (5, ii y5)] [] (c8 K a V0 ++ (c0 K b q4))) hf (fun q4 hf => ?_) (fun j5 hj5 hf => ?_)
      · refine g_iinc X (lv' := [(5, ii (y5 + (-1))), (0, .ref (b 0)), (1, .ref (a 0)), (2, ii x2), (3, ii x3), (4, .ref (ash a 18 0))]) dX0_evaluate_129 5 rfl (by decide) rfl ?_
        refine g_goto X 20 dX0_evaluate_132 (by decide) ?_
        refine g_sub (lv' := [(0, .ref (b 0)), (1, .ref (a 0)), (2, ii x2), (3, ii x3), (4, .ref (ash a 18 0)), (5, ii (y5 + (-1)))]) [1, 2, 3, 4, 5, 0] rfl ?_
        exact ih (y5 + (-1)) q4 hf hk
      · refine g_if_eq X hf 82 dX0_evaluate_36 (by decide) (fun hf => ?_) (fun hf => ?_)
        · refine g_aload X dX0_evaluate_82 4 rfl ?_
          refine g_get X (v := .ref (ash a 18 1)) 18 1 dX0_evaluate_84 rfl rfl iw_X0_evaluate_X6 (by decide) fl_X0_evaluate_30 rfl ?_
          refine g_iload X dX0_evaluate_87 5 rfl ?_
          refine g_iald X hf (by decide) 19 0 dX0_evaluate_89 rfl rfl (fun v6 hf => ?_)
          refine g_iconst X dX0_evaluate_90 ?_
          refine g_icmp_ne X hf 117 dX0_evaluate_91 (by decide) (fun hf => ?_) (fun hf => ?_)
          · refine g_aload_n X dX0_evaluate_94 0 rfl rfl ?_
            refine g_aload X dX0_evaluate_95 4 rfl ?_
            refine g_get X (v := .ref (ash a 18 2)) 18 2 dX0_evaluate_97 rfl rfl iw_X0_evaluate_X6 (by decide) fl_X0_evaluate_41 rfl ?_
            refine g_iload X dX0_evaluate_100 5 rfl ?_
            refine g_iald X hf (by decide) 20 0 dX0_evaluate_102 rfl rfl (fun v7 hf => ?_)
            refine g_let (G := fun q8 : Int => GO p l e rmX0_evaluate s m args below meth c K.1 vwCl (va_A WC s.heap.size) (MQ below (QC K.1 vwCl (some (ii res.1)) WC (c8 K a V0 ++ (c0 K b res.2)) s.heap.size) args s 0 0 (va_A WC s.heap.size)) 7 0 0 111 [(0, .ref (b 0)), (1, .ref (a 0)), (2, ii x2), (3, ii x3), (4, .ref (ash a 18 0)), (5, ii y5)] [ii q8, .ref (b 0)] (c8 K a V0 ++ (c0 K b V1))) hf (fun q8 hf => ?_) (fun j9 hj9 hf => ?_)
            · obtain ⟨v10, hc11, hf⟩ := Option.bind_eq_some_iff.mp hf
              refine g_callV X (As := [ii q8]) (st := []) (st1 := []) (ws' := c8 K a V0 ++ (c0 K b v10)) (X0_push_ok K l b V1 q8 v10 hc11) gX0_evaluate_X0_push rfl 1 (by decide +kernel) ⟨rfl, rfl⟩ ⟨Nat.le_of_ble_eq_true rfl, Nat.le_of_ble_eq_true rfl⟩ ⟨Nat.zero_le _, Nat.zero_le _⟩ 23 rfl rfl rfl rfl (Nat.le_of_ble_eq_true rfl) dX0_evaluate_111 (SG.one (c8 K a V0) [] rfl rfl rfl) rfl ?_
              refine g_goto X 129 dX0_evaluate_114 (by decide) ?_
              exact hj5 v10 hf
            · refine g_if_ne X hf 110 dX0_evaluate_103 (by decide) (fun hf => ?_) (fun hf => ?_)
              · refine g_iload_n X dX0_evaluate_106 2 rfl rfl ?_
                refine g_goto X 111 dX0_evaluate_107 (by decide) ?_
                exact hj9 x2 hf
              · refine g_iload_n X dX0_evaluate_110 3 rfl rfl ?_
                exact hj9 x3 hf
          · refine g_aload_n X dX0_evaluate_117 0 rfl rfl ?_
            refine g_aload X dX0_evaluate_118 4 rfl ?_
            refine g_get X (v := .ref (ash a 18 2)) 18 2 dX0_evaluate_120 rfl rfl iw_X0_evaluate_X6 (by decide) fl_X0_evaluate_41 rfl ?_
            refine g_iload X dX0_evaluate_123 5 rfl ?_
            refine g_iald X hf (by decide) 20 0 dX0_evaluate_125 rfl rfl (fun v12 hf => ?_)
            obtain ⟨v13, hc14, hf⟩ := Option.bind_eq_some_iff.mp hf
            refine g_callV X (As := [ii v12]) (st := []) (st1 := []) (ws' := c8 K a V0 ++ (c0 K b v13)) (X0_push_ok K l b V1 v12 v13 hc14) gX0_evaluate_X0_push rfl 1 (by decide +kernel) ⟨rfl, rfl⟩ ⟨Nat.le_of_ble_eq_true rfl, Nat.le_of_ble_eq_true rfl⟩ ⟨Nat.zero_le _, Nat.zero_le _⟩ 23 rfl rfl rfl rfl (Nat.le_of_ble_eq_true rfl) dX0_evaluate_126 (SG.one (c8 K a V0) [] rfl rfl rfl) rfl ?_
            exact hj5 v13 hf
        · refine g_aload_n X dX0_evaluate_39 1 rfl rfl ?_
          refine g_aload X dX0_evaluate_40 4 rfl ?_
          refine g_get X (v := .ref (ash a 18 1)) 18 1 dX0_evaluate_42 rfl rfl iw_X0_evaluate_X6 (by decide) fl_X0_evaluate_30 rfl ?_
          refine g_iload X dX0_evaluate_45 5 rfl ?_
          refine g_iald X hf (by decide) 19 0 dX0_evaluate_47 rfl rfl (fun v15 hf => ?_)
          obtain ⟨v16, hc17, hf⟩ := Option.bind_eq_some_iff.mp hf
          refine g_callV X (As := [ii v15]) (st := []) (st1 := [.ref (tbA a v16)]) (ws' := c8 K a V0 ++ (c0 K b V1)) (X8_tableOf_ok K l a V0 v15 v16 hc17) gX0_evaluate_X8_tableOf rfl 1 (by decide +kernel) ⟨rfl, rfl⟩ ⟨Nat.le_of_ble_eq_true rfl, Nat.le_of_ble_eq_true rfl⟩ ⟨Nat.zero_le _, Nat.zero_le _⟩ 0 rfl rfl rfl rfl (Nat.le_of_ble_eq_true rfl) dX0_evaluate_48 (SG.one [] (c0 K b V1) rfl rfl rfl) rfl ?_
          replace hf := sel3_some hf
          rcases hf with ⟨hv, hf⟩ | ⟨hv, hf⟩ | ⟨hv, hf⟩
          · subst hv
            refine g_stk (st' := [.ref (ash a 1 0)]) rfl ?_
            refine g_astore X (lv' := [(6, .ref (ash a 1 0)), (0, .ref (b 0)), (1, .ref (a 0)), (2, ii x2), (3, ii x3), (4, .ref (ash a 18 0)), (5, ii y5)]) dX0_evaluate_51 (by decide) rfl ?_
            refine g_aload_n X dX0_evaluate_53 1 rfl rfl ?_
            refine g_aload_n X dX0_evaluate_54 1 rfl rfl ?_
            refine g_aload X dX0_evaluate_55 0 rfl ?_
            refine g_aload X dX0_evaluate_57 5 rfl ?_
            refine g_get X (v := .ref (ash a 18 2)) 18 2 dX0_evaluate_59 rfl rfl iw_X0_evaluate_X6 (by decide) fl_X0_evaluate_41 rfl ?_
            refine g_iload X dX0_evaluate_62 6 rfl ?_
            refine g_iald X hf (by decide) 20 0 dX0_evaluate_64 rfl rfl (fun v18 hf => ?_)
            refine g_aload X dX0_evaluate_65 5 rfl ?_
            refine g_get X (v := .ref (ash a 18 3)) 18 3 dX0_evaluate_67 rfl rfl iw_X0_evaluate_X6 (by decide) fl_X0_evaluate_44 rfl ?_
            refine g_iload X dX0_evaluate_70 6 rfl ?_
            refine g_iald X hf (by decide) 21 0 dX0_evaluate_72 rfl rfl (fun v19 hf => ?_)
            obtain ⟨w20, hc21, hf⟩ := Option.bind_eq_some_iff.mp hf
            refine g_callV X (As := [.ref (ash a 1 0), ii v18, ii v19]) (st := [.ref (b 0)]) (st1 := [ii w20.1, .ref (b 0)]) (ws' := c8 K a V0 ++ (c0 K b w20.2)) (X0_callResult_ok K l 6 (by decide) (ash a 1) b V0.1 V1 v18 v19 w20 hc21) gX0_evaluate_X0_callResult rfl 3 (by decide +kernel) ⟨rfl, rfl⟩ ⟨Nat.le_of_ble_eq_true rfl, Nat.le_of_ble_eq_true rfl⟩ ⟨Nat.zero_le _, Nat.zero_le _⟩ 23 rfl rfl rfl rfl (Nat.le_of_ble_eq_true rfl) dX0_evaluate_73 (SG.two ([(a 0, .inr (8, [.ref (ash a 1 0), .ref (ash a 5 0), .ref (ash a 9 0), ii V0.2.2.2.1, .ref (a 13), ii V0.2.2.2.2.2.1, .ref (ash a 14 0), .ref (ash a 18 0), .ref (a 22)]))]) (c1 K 6 (ash a 5) V0.2.1 ++ (c1 K 4 (ash a 9) V0.2.2.1 ++ ([(a 13, .inl (K.2.1, 6, .inl (arI V0.2.2.2.2.1)))] ++ (c4 K (ash a 14) V0.2.2.2.2.2.2.1 ++ (c6 K (ash a 18) V0.2.2.2.2.2.2.2.1 ++ ([(a 22, .inl (K.2.1, 8, .inl (arI V0.2.2.2.2.2.2.2.2)))])))))) [] rfl rfl rfl) rfl ?_
            obtain ⟨v22, hc23, hf⟩ := Option.bind_eq_some_iff.mp hf
            refine g_callV X (As := [ii w20.1]) (st := []) (st1 := []) (ws' := c8 K a V0 ++ (c0 K b v22)) (X0_push_ok K l b w20.2 w20.1 v22 hc23) gX0_evaluate_X0_push rfl 1 (by decide +kernel) ⟨rfl, rfl⟩ ⟨Nat.le_of_ble_eq_true rfl, Nat.le_of_ble_eq_true rfl⟩ ⟨Nat.zero_le _, Nat.zero_le _⟩ 23 rfl rfl rfl rfl (Nat.le_of_ble_eq_true rfl) dX0_evaluate_76 (SG.one (c8 K a V0) [] rfl rfl rfl) rfl ?_
            refine g_goto X 129 dX0_evaluate_79 (by decide) ?_
            refine g_sub (lv' := [(0, .ref (b 0)), (1, .ref (a 0)), (2, ii x2), (3, ii x3), (4, .ref (ash a 18 0)), (5, ii y5)]) [1, 2, 3, 4, 5, 6] rfl ?_
            exact hj5 v22 hf
          · subst hv
            refine g_stk (st' := [.ref (ash a 5 0)]) rfl ?_
            refine g_astore X (lv' := [(6, .ref (ash a 5 0)), (0, .ref (b 0)), (1, .ref (a 0)), (2, ii x2), (3, ii x3), (4, .ref (ash a 18 0)), (5, ii y5)]) dX0_evaluate_51 (by decide) rfl ?_
            refine g_aload_n X dX0_evaluate_53 1 rfl rfl ?_
            refine g_aload_n X dX0_evaluate_54 1 rfl rfl ?_
            refine g_aload X dX0_evaluate_55 0 rfl ?_
            refine g_aload X dX0_evaluate_57 5 rfl ?_
            refine g_get X (v := .ref (ash a 18 2)) 18 2 dX0_evaluate_59 rfl rfl iw_X0_evaluate_X6 (by decide) fl_X0_evaluate_41 rfl ?_
            refine g_iload X dX0_evaluate_62 6 rfl ?_
            refine g_iald X hf (by decide) 20 0 dX0_evaluate_64 rfl rfl (fun v24 hf => ?_)
            refine g_aload X dX0_evaluate_65 5 rfl ?_
            refine g_get X (v := .ref (ash a 18 3)) 18 3 dX0_evaluate_67 rfl rfl iw_X0_evaluate_X6 (by decide) fl_X0_evaluate_44 rfl ?_
            refine g_iload X dX0_evaluate_70 6 rfl ?_
            refine g_iald X hf (by decide) 21 0 dX0_evaluate_72 rfl rfl (fun v25 hf => ?_)
            obtain ⟨w26, hc27, hf⟩ := Option.bind_eq_some_iff.mp hf
            refine g_callV X (As := [.ref (ash a 5 0), ii v24, ii v25]) (st := [.ref (b 0)]) (st1 := [ii w26.1, .ref (b 0)]) (ws' := c8 K a V0 ++ (c0 K b w26.2)) (X0_callResult_ok K l 6 (by decide) (ash a 5) b V0.2.1 V1 v24 v25 w26 hc27) gX0_evaluate_X0_callResult rfl 3 (by decide +kernel) ⟨rfl, rfl⟩ ⟨Nat.le_of_ble_eq_true rfl, Nat.le_of_ble_eq_true rfl⟩ ⟨Nat.zero_le _, Nat.zero_le _⟩ 23 rfl rfl rfl rfl (Nat.le_of_ble_eq_true rfl) dX0_evaluate_73 (SG.two ([(a 0, .inr (8, [.ref (ash a 1 0), .ref (ash a 5 0), .ref (ash a 9 0), ii V0.2.2.2.1, .ref (a 13), ii V0.2.2.2.2.2.1, .ref (ash a 14 0), .ref (ash a 18 0), .ref (a 22)]))] ++ (c1 K 6 (ash a 1) V0.1)) (c1 K 4 (ash a 9) V0.2.2.1 ++ ([(a 13, .inl (K.2.1, 6, .inl (arI V0.2.2.2.2.1)))] ++ (c4 K (ash a 14) V0.2.2.2.2.2.2.1 ++ (c6 K (ash a 18) V0.2.2.2.2.2.2.2.1 ++ ([(a 22, .inl (K.2.1, 8, .inl (arI V0.2.2.2.2.2.2.2.2)))]))))) [] rfl rfl rfl) rfl ?_
            obtain ⟨v28, hc29, hf⟩ := Option.bind_eq_some_iff.mp hf
            refine g_callV X (As := [ii w26.1]) (st := []) (st1 := []) (ws' := c8 K a V0 ++ (c0 K b v28)) (X0_push_ok K l b w26.2 w26.1 v28 hc29) gX0_evaluate_X0_push rfl 1 (by decide +kernel) ⟨rfl, rfl⟩ ⟨Nat.le_of_ble_eq_true rfl, Nat.le_of_ble_eq_true rfl⟩ ⟨Nat.zero_le _, Nat.zero_le _⟩ 23 rfl rfl rfl rfl (Nat.le_of_ble_eq_true rfl) dX0_evaluate_76 (SG.one (c8 K a V0) [] rfl rfl rfl) rfl ?_
            refine g_goto X 129 dX0_evaluate_79 (by decide) ?_
            refine g_sub (lv' := [(0, .ref (b 0)), (1, .ref (a 0)), (2, ii x2), (3, ii x3), (4, .ref (ash a 18 0)), (5, ii y5)]) [1, 2, 3, 4, 5, 6] rfl ?_
            exact hj5 v28 hf
          · subst hv
            refine g_stk (st' := [.ref (ash a 9 0)]) rfl ?_
            refine g_astore X (lv' := [(6, .ref (ash a 9 0)), (0, .ref (b 0)), (1, .ref (a 0)), (2, ii x2), (3, ii x3), (4, .ref (ash a 18 0)), (5, ii y5)]) dX0_evaluate_51 (by decide) rfl ?_
            refine g_aload_n X dX0_evaluate_53 1 rfl rfl ?_
            refine g_aload_n X dX0_evaluate_54 1 rfl rfl ?_
            refine g_aload X dX0_evaluate_55 0 rfl ?_
            refine g_aload X dX0_evaluate_57 5 rfl ?_
            refine g_get X (v := .ref (ash a 18 2)) 18 2 dX0_evaluate_59 rfl rfl iw_X0_evaluate_X6 (by decide) fl_X0_evaluate_41 rfl ?_
            refine g_iload X dX0_evaluate_62 6 rfl ?_
            refine g_iald X hf (by decide) 20 0 dX0_evaluate_64 rfl rfl (fun v30 hf => ?_)
            refine g_aload X dX0_evaluate_65 5 rfl ?_
            refine g_get X (v := .ref (ash a 18 3)) 18 3 dX0_evaluate_67 rfl rfl iw_X0_evaluate_X6 (by decide) fl_X0_evaluate_44 rfl ?_
            refine g_iload X dX0_evaluate_70 6 rfl ?_
            refine g_iald X hf (by decide) 21 0 dX0_evaluate_72 rfl rfl (fun v31 hf => ?_)
            obtain ⟨w32, hc33, hf⟩ := Option.bind_eq_some_iff.mp hf
            refine g_callV X (As := [.ref (ash a 9 0), ii v30, ii v31]) (st := [.ref (b 0)]) (st1 := [ii w32.1, .ref (b 0)]) (ws' := c8 K a V0 ++ (c0 K b w32.2)) (X0_callResult_ok K l 4 (by decide) (ash a 9) b V0.2.2.1 V1 v30 v31 w32 hc33) gX0_evaluate_X0_callResult rfl 3 (by decide +kernel) ⟨rfl, rfl⟩ ⟨Nat.le_of_ble_eq_true rfl, Nat.le_of_ble_eq_true rfl⟩ ⟨Nat.zero_le _, Nat.zero_le _⟩ 23 rfl rfl rfl rfl (Nat.le_of_ble_eq_true rfl) dX0_evaluate_73 (SG.two ([(a 0, .inr (8, [.ref (ash a 1 0), .ref (ash a 5 0), .ref (ash a 9 0), ii V0.2.2.2.1, .ref (a 13), ii V0.2.2.2.2.2.1, .ref (ash a 14 0), .ref (ash a 18 0), .ref (a 22)]))] ++ (c1 K 6 (ash a 1) V0.1 ++ (c1 K 6 (ash a 5) V0.2.1))) ([(a 13, .inl (K.2.1, 6, .inl (arI V0.2.2.2.2.1)))] ++ (c4 K (ash a 14) V0.2.2.2.2.2.2.1 ++ (c6 K (ash a 18) V0.2.2.2.2.2.2.2.1 ++ ([(a 22, .inl (K.2.1, 8, .inl (arI V0.2.2.2.2.2.2.2.2)))])))) [] rfl rfl rfl) rfl ?_
            obtain ⟨v34, hc35, hf⟩ := Option.bind_eq_some_iff.mp hf
            refine g_callV X (As := [ii w32.1]) (st := []) (st1 := []) (ws' := c8 K a V0 ++ (c0 K b v34)) (X0_push_ok K l b w32.2 w32.1 v34 hc35) gX0_evaluate_X0_push rfl 1 (by decide +kernel) ⟨rfl, rfl⟩ ⟨Nat.le_of_ble_eq_true rfl, Nat.le_of_ble_eq_true rfl⟩ ⟨Nat.zero_le _, Nat.zero_le _⟩ 23 rfl rfl rfl rfl (Nat.le_of_ble_eq_true rfl) dX0_evaluate_76 (SG.one (c8 K a V0) [] rfl rfl rfl) rfl ?_
            refine g_goto X 129 dX0_evaluate_79 (by decide) ?_
            refine g_sub (lv' := [(0, .ref (b 0)), (1, .ref (a 0)), (2, ii x2), (3, ii x3), (4, .ref (ash a 18 0)), (5, ii y5)]) [1, 2, 3, 4, 5, 6] rfl ?_
            exact hj5 v34 hf
set_option maxHeartbeats 4000000 in
set_option maxRecDepth 100000 in
theorem X0_evaluate_go (K : KE) (l : Launch) (a : Nat → Nat) (b : Nat → Nat) (WC : va_W) {p : Program} {e : Env} {s : State} {m : MethodId} {args : Array Value} {below : List Frame} {meth : Method} {c : Code} (X : CX p s m args c K.1 vwCl (kT K) (va_A WC s.heap.size) cX0_evaluate 7 wsX0_evaluate RX0) (hr : meth.sig.returnType = (some .int)) (hlk : meth.locks = false) (V0 : St) (V1 : Ev) (p2 : Int) (p3 : Int) (res : Int × Ev) (hf : X0_evaluate V0 V1 p2 p3 = some res) : GO p l e rmX0_evaluate s m args below meth c K.1 vwCl (va_A WC s.heap.size) (MQ below (QC K.1 vwCl (some (ii res.1)) WC (c8 K a V0 ++ (c0 K b res.2)) s.heap.size) args s 0 0 (va_A WC s.heap.size)) 7 0 0 0 [(0, .ref (b 0)), (1, .ref (a 0)), (2, ii p2), (3, ii p3)] [] (c8 K a V0 ++ (c0 K b V1)) := by
  rw [X0_evaluate] at hf
  refine g_aload_n X dX0_evaluate_0 1 rfl rfl ?_
  refine g_get X (v := .ref (ash a 18 0)) 0 7 dX0_evaluate_1 rfl rfl iw_X0_evaluate_X8 (by decide) fl_X0_evaluate_19 rfl ?_
  refine g_astore X (lv' := [(4, .ref (ash a 18 0)), (0, .ref (b 0)), (1, .ref (a 0)), (2, ii p2), (3, ii p3)]) dX0_evaluate_4 (by decide) rfl ?_
  refine g_aload_n X dX0_evaluate_6 1 rfl rfl ?_
  refine g_iconst X dX0_evaluate_7 ?_
  refine g_puti X 23 1 dX0_evaluate_8 rfl rfl iw_X0_evaluate_X0 tyX0_ok nmX0 (by decide) fl_X0_evaluate_15 rfl rfl (Nat.le_of_ble_eq_true rfl) (ws' := c8 K a V0 ++ (c0 K b (V1.1, 0))) rfl ?_
  refine g_aload X dX0_evaluate_11 0 rfl ?_
  refine g_get X (v := ii V0.2.2.2.2.2.2.2.1.1) 18 0 dX0_evaluate_13 rfl rfl iw_X0_evaluate_X6 (by decide) fl_X0_evaluate_25 rfl ?_
  refine g_iconst X dX0_evaluate_16 ?_
  refine g_isub X dX0_evaluate_17 ?_
  refine g_istore X (lv' := [(5, ii (V0.2.2.2.2.2.2.2.1.1 - 1)), (4, .ref (ash a 18 0)), (0, .ref (b 0)), (1, .ref (a 0)), (2, ii p2), (3, ii p3)]) dX0_evaluate_18 (by decide) rfl ?_
  refine g_sub (lv' := [(0, .ref (b 0)), (1, .ref (a 0)), (2, ii p2), (3, ii p3), (4, .ref (ash a 18 0)), (5, ii (V0.2.2.2.2.2.2.2.1.1 - 1))]) [2, 3, 4, 5, 1, 0] rfl ?_
  refine X0_evaluate_L20_ok K l a b WC X hr hlk V0 p2 p3 res FU (V0.2.2.2.2.2.2.2.1.1 - 1) (V1.1, 0) hf (fun w36 hf => ?_)
  refine g_aload_n X dX0_evaluate_135 0 rfl rfl ?_
  obtain ⟨w37, hc38, hf⟩ := Option.bind_eq_some_iff.mp hf
  refine g_callV X (As := []) (st := []) (st1 := [ii w37.1]) (ws' := c8 K a V0 ++ (c0 K b w37.2)) (X0_pop_ok K l b w36 w37 hc38) gX0_evaluate_X0_pop rfl 0 (by decide +kernel) ⟨rfl, rfl⟩ ⟨Nat.le_of_ble_eq_true rfl, Nat.le_of_ble_eq_true rfl⟩ ⟨Nat.zero_le _, Nat.zero_le _⟩ 23 rfl rfl rfl rfl (Nat.le_of_ble_eq_true rfl) dX0_evaluate_136 (SG.one (c8 K a V0) [] rfl rfl rfl) rfl ?_
  cases hf
  exact g_iret X hr hlk dX0_evaluate_139
set_option maxHeartbeats 4000000 in
set_option maxRecDepth 100000 in
theorem X0_evaluate_ok (K : KE) (l : Launch) (a : Nat → Nat) (b : Nat → Nat) (V0 : St) (V1 : Ev) (p2 : Int) (p3 : Int) (res : Int × Ev) (hf : X0_evaluate V0 V1 p2 p3 = some res) : CT l K.1 vwCl (kT K) yX0_evaluate wsX0_evaluate rmX0_evaluate [.ref (b 0), .ref (a 0), ii p2, ii p3] (some (ii res.1)) (c8 K a V0 ++ (c0 K b V1)) (c8 K a V0 ++ (c0 K b res.2)) :=
  CT.mk (cc := cX0_evaluate) (maxL := 7) (ret := (some .int)) (by decide) rfl (Nat.le_of_ble_eq_true rfl) (fun p e s m below meth c X hr hlk => X0_evaluate_go K l a b _ X hr hlk V0 V1 p2 p3 res hf)
def rmX7_firstLetterOf : Room := { frames := 0, cells := 0, slots := 0, locals := 0 }
def X7_firstLetterOf (p0 : Int) : Option (Int) := brEQ p0 2 (some 97) (brEQ p0 3 (some 65) (some 112))
set_option maxHeartbeats 4000000 in
set_option maxRecDepth 100000 in
theorem X7_firstLetterOf_go (K : KE) (l : Launch) (WC : va_W) {p : Program} {e : Env} {s : State} {m : MethodId} {args : Array Value} {below : List Frame} {meth : Method} {c : Code} (X : CX p s m args c K.1 vwCl (kT K) (va_A WC s.heap.size) cX7_firstLetterOf 1 wsX7_firstLetterOf RX7) (hr : meth.sig.returnType = (some .int)) (hlk : meth.locks = false) (p0 : Int) (res : Int) (hf : X7_firstLetterOf p0 = some res) : GO p l e rmX7_firstLetterOf s m args below meth c K.1 vwCl (va_A WC s.heap.size) (MQ below (QC K.1 vwCl (some (ii res)) WC ([]) s.heap.size) args s 0 0 (va_A WC s.heap.size)) 1 0 0 0 [(0, ii p0)] [] ([]) := by
  rw [X7_firstLetterOf] at hf
  refine g_iload_n X dX7_firstLetterOf_0 0 rfl rfl ?_
  refine g_iconst X dX7_firstLetterOf_1 ?_
  refine g_icmp_ne X hf 8 dX7_firstLetterOf_2 (by decide) (fun hf => ?_) (fun hf => ?_)
  · refine g_bipush X dX7_firstLetterOf_5 (by decide +kernel) ?_
    cases hf
    exact g_iret X hr hlk dX7_firstLetterOf_7
  · refine g_iload_n X dX7_firstLetterOf_8 0 rfl rfl ?_
    refine g_iconst X dX7_firstLetterOf_9 ?_
    refine g_icmp_ne X hf 18 dX7_firstLetterOf_10 (by decide) (fun hf => ?_) (fun hf => ?_)
    · refine g_bipush X dX7_firstLetterOf_13 (by decide +kernel) ?_
      refine g_goto X 20 dX7_firstLetterOf_15 (by decide) ?_
      cases hf
      exact g_iret X hr hlk dX7_firstLetterOf_20
    · refine g_bipush X dX7_firstLetterOf_18 (by decide +kernel) ?_
      cases hf
      exact g_iret X hr hlk dX7_firstLetterOf_20
set_option maxHeartbeats 4000000 in
set_option maxRecDepth 100000 in
theorem X7_firstLetterOf_ok (K : KE) (l : Launch) (p0 : Int) (res : Int) (hf : X7_firstLetterOf p0 = some res) : CT l K.1 vwCl (kT K) yX7_firstLetterOf wsX7_firstLetterOf rmX7_firstLetterOf [ii p0] (some (ii res)) ([]) ([]) :=
  CT.mk (cc := cX7_firstLetterOf) (maxL := 1) (ret := (some .int)) (by decide) rfl (Nat.le_of_ble_eq_true rfl) (fun p e s m below meth c X hr hlk => X7_firstLetterOf_go K l  _ X hr hlk p0 res hf)
theorem iw_X7_put_X7 : ∀ w ∈ u_ws RX7 TX7 4, w ∈ wsX7_put := by decide +kernel
theorem fl_X7_put_15 : Cond.fieldLink RX7 15 (TX7 1).1 (TX7 1).2.1 (TX7 1).2.2.1 ∈ wsX7_put := by decide +kernel
theorem fl_X7_put_11 : Cond.fieldLink RX7 11 (TX7 0).1 (TX7 0).2.1 (TX7 0).2.2.1 ∈ wsX7_put := by decide +kernel
def rmX7_put : Room := { frames := 0, cells := 0, slots := 0, locals := 0 }
def X7_put (V0 : Tx) (p1 : Int) : Option (Tx) := brLT V0.2.1 120 (wrK 120 V0.1 V0.2.1 p1 (fun f1 => some (f1, (V0.2.1 + 1), V0.2.2.1, V0.2.2.2))) (some V0)
set_option maxHeartbeats 4000000 in
set_option maxRecDepth 100000 in
theorem X7_put_go (K : KE) (l : Launch) (a : Nat → Nat) (WC : va_W) {p : Program} {e : Env} {s : State} {m : MethodId} {args : Array Value} {below : List Frame} {meth : Method} {c : Code} (X : CX p s m args c K.1 vwCl (kT K) (va_A WC s.heap.size) cX7_put 2 wsX7_put RX7) (hr : meth.sig.returnType = none) (hlk : meth.locks = false) (V0 : Tx) (p1 : Int) (res : Tx) (hf : X7_put V0 p1 = some res) : GO p l e rmX7_put s m args below meth c K.1 vwCl (va_A WC s.heap.size) (MQ below (QC K.1 vwCl none WC (c7 K a res) s.heap.size) args s 0 0 (va_A WC s.heap.size)) 2 0 0 0 [(0, .ref (a 0)), (1, ii p1)] [] (c7 K a V0) := by
  rw [X7_put] at hf
  refine g_aload_n X dX7_put_0 0 rfl rfl ?_
  refine g_get X (v := ii V0.2.1) 0 1 dX7_put_1 rfl rfl iw_X7_put_X7 (by decide) fl_X7_put_15 rfl ?_
  refine g_bipush X dX7_put_4 (by decide +kernel) ?_
  refine g_icmp_ge X hf 29 dX7_put_6 (by decide) (fun hf => ?_) (fun hf => ?_)
  · refine g_aload_n X dX7_put_9 0 rfl rfl ?_
    refine g_get X (v := .ref (a 1)) 0 0 dX7_put_10 rfl rfl iw_X7_put_X7 (by decide) fl_X7_put_11 rfl ?_
    refine g_aload_n X dX7_put_13 0 rfl rfl ?_
    refine g_get X (v := ii V0.2.1) 0 1 dX7_put_14 rfl rfl iw_X7_put_X7 (by decide) fl_X7_put_15 rfl ?_
    refine g_iload_n X dX7_put_17 1 rfl rfl ?_
    refine g_iast X hf (by decide) 1 0 dX7_put_18 rfl rfl (fun f1 => c7 K a (f1, V0.2.1, V0.2.2.1, V0.2.2.2)) (fun _ => rfl) (fun f1 hf => ?_)
    refine g_aload_n X dX7_put_19 0 rfl rfl ?_
    refine g_dup X dX7_put_20 rfl ?_
    refine g_get X (v := ii V0.2.1) 0 1 dX7_put_21 rfl rfl iw_X7_put_X7 (by decide) fl_X7_put_15 rfl ?_
    refine g_iconst X dX7_put_24 ?_
    refine g_iadd X dX7_put_25 ?_
    refine g_puti X 0 1 dX7_put_26 rfl rfl iw_X7_put_X7 tyX7_ok nmX7 (by decide) fl_X7_put_15 rfl rfl (Nat.le_of_ble_eq_true rfl) (ws' := c7 K a (f1, (V0.2.1 + 1), V0.2.2.1, V0.2.2.2)) rfl ?_
    cases hf
    exact g_vret X hr hlk dX7_put_29
  · cases hf
    exact g_vret X hr hlk dX7_put_29
set_option maxHeartbeats 4000000 in
set_option maxRecDepth 100000 in
theorem X7_put_ok (K : KE) (l : Launch) (a : Nat → Nat) (V0 : Tx) (p1 : Int) (res : Tx) (hf : X7_put V0 p1 = some res) : CT l K.1 vwCl (kT K) yX7_put wsX7_put rmX7_put [.ref (a 0), ii p1] none (c7 K a V0) (c7 K a res) :=
  CT.mk (cc := cX7_put) (maxL := 2) (ret := none) (by decide) rfl (Nat.le_of_ble_eq_true rfl) (fun p e s m below meth c X hr hlk => X7_put_go K l a _ X hr hlk V0 p1 res hf)
theorem iw_X7_finishArgument_X7 : ∀ w ∈ u_ws RX7 TX7 4, w ∈ wsX7_finishArgument := by decide +kernel
theorem fl_X7_finishArgument_22 : Cond.fieldLink RX7 22 (TX7 3).1 (TX7 3).2.1 (TX7 3).2.2.1 ∈ wsX7_finishArgument := by decide +kernel
theorem fl_X7_finishArgument_19 : Cond.fieldLink RX7 19 (TX7 2).1 (TX7 2).2.1 (TX7 2).2.2.1 ∈ wsX7_finishArgument := by decide +kernel
def rmX7_finishArgument : Room := { frames := 1, cells := 0, slots := 0, locals := 21 }
def X7_finishArgument_L0 (kx : Tx → Option (Tx))  : Nat → Tx → Option (Tx)
  | 0, _ => none
  | n + 1, V0 => brLE V0.2.2.2 0 (some V0) (rdK 30 V0.2.2.1 (V0.2.2.2 - 1) (fun v1 => wrK 30 V0.2.2.1 (V0.2.2.2 - 1) (v1 - 1) (fun f2 => rdK 30 f2 (V0.2.2.2 - 1) (fun v3 => brLE v3 0 ((X7_put (V0.1, V0.2.1, f2, V0.2.2.2) 41).bind (fun v4 => X7_finishArgument_L0 kx n (v4.1, v4.2.1, v4.2.2.1, (v4.2.2.2 - 1)))) (kx (V0.1, V0.2.1, f2, V0.2.2.2))))))
def X7_finishArgument (V0 : Tx) : Option (Tx) := X7_finishArgument_L0 (fun w6 => (X7_put w6 44).bind (fun v7 => some v7)) FU V0
set_option maxHeartbeats 4000000 in
set_option maxRecDepth 100000 in
theorem X7_finishArgument_L0_ok (K : KE) (l : Launch) (a : Nat → Nat) (WC : va_W) {p : Program} {e : Env} {s : State} {m : MethodId} {args : Array Value} {below : List Frame} {meth : Method} {c : Code} (X : CX p s m args c K.1 vwCl (kT K) (va_A WC s.heap.size) cX7_finishArgument 1 wsX7_finishArgument RX7) (hr : meth.sig.returnType = none) (hlk : meth.locks = false)   (res : Tx) {kx : Tx → Option (Tx)} : ∀ (n : Nat) (V0 : Tx), X7_finishArgument_L0 kx  n V0 = some res → (∀ (V0z : Tx), kx V0z = some res → GO p l e rmX7_finishArgument s m args below meth c K.1 vwCl (va_A WC s.heap.size) (MQ below (QC K.1 vwCl none WC (c7 K a res) s.heap.size) args s 0 0 (va_A WC s.heap.size)) 1 0 0 36 [(0, .ref (a 0))] [] (c7 K a V0z)) → GO p l e rmX7_finishArgument s m args below meth c K.1 vwCl (va_A WC s.heap.size) (MQ below (QC K.1 vwCl none WC (c7 K a res) s.heap.size) args s 0 0 (va_A WC s.heap.size)) 1 0 0 0 [(0, .ref (a 0))] [] (c7 K a V0) := by
  intro n
  induction n with
  | zero =>
    intro V0 hf _
    rw [X7_finishArgument_L0] at hf
    cases hf
  | succ n ih =>
    intro V0 hf hk
    rw [X7_finishArgument_L0] at hf
    refine g_aload_n X dX7_finishArgument_0 0 rfl rfl ?_
    refine g_get X (v := ii V0.2.2.2) 0 3 dX7_finishArgument_1 rfl rfl iw_X7_finishArgument_X7 (by decide) fl_X7_finishArgument_22 rfl ?_
    refine g_if_le X hf 62 dX7_finishArgument_4 (by decide) (fun hf => ?_) (fun hf => ?_)
    · cases hf
      exact g_vret X hr hlk dX7_finishArgument_62
    · refine g_aload_n X dX7_finishArgument_7 0 rfl rfl ?_
      refine g_get X (v := .ref (a 2)) 0 2 dX7_finishArgument_8 rfl rfl iw_X7_finishArgument_X7 (by decide) fl_X7_finishArgument_19 rfl ?_
      refine g_aload_n X dX7_finishArgument_11 0 rfl rfl ?_
      refine g_get X (v := ii V0.2.2.2) 0 3 dX7_finishArgument_12 rfl rfl iw_X7_finishArgument_X7 (by decide) fl_X7_finishArgument_22 rfl ?_
      refine g_iconst X dX7_finishArgument_15 ?_
      refine g_isub X dX7_finishArgument_16 ?_
      refine g_dup2 X dX7_finishArgument_17 rfl rfl ?_
      refine g_iald X hf (by decide) 2 0 dX7_finishArgument_18 rfl rfl (fun v1 hf => ?_)
      refine g_iconst X dX7_finishArgument_19 ?_
      refine g_isub X dX7_finishArgument_20 ?_
      refine g_iast X hf (by decide) 2 0 dX7_finishArgument_21 rfl rfl (fun f2 => c7 K a (V0.1, V0.2.1, f2, V0.2.2.2)) (fun _ => rfl) (fun f2 hf => ?_)
      refine g_aload_n X dX7_finishArgument_22 0 rfl rfl ?_
      refine g_get X (v := .ref (a 2)) 0 2 dX7_finishArgument_23 rfl rfl iw_X7_finishArgument_X7 (by decide) fl_X7_finishArgument_19 rfl ?_
      refine g_aload_n X dX7_finishArgument_26 0 rfl rfl ?_
      refine g_get X (v := ii V0.2.2.2) 0 3 dX7_finishArgument_27 rfl rfl iw_X7_finishArgument_X7 (by decide) fl_X7_finishArgument_22 rfl ?_
      refine g_iconst X dX7_finishArgument_30 ?_
      refine g_isub X dX7_finishArgument_31 ?_
      refine g_iald X hf (by decide) 2 0 dX7_finishArgument_32 rfl rfl (fun v3 hf => ?_)
      refine g_if_le X hf 43 dX7_finishArgument_33 (by decide) (fun hf => ?_) (fun hf => ?_)
      · refine g_aload_n X dX7_finishArgument_43 0 rfl rfl ?_
        refine g_bipush X dX7_finishArgument_44 (by decide +kernel) ?_
        obtain ⟨v4, hc5, hf⟩ := Option.bind_eq_some_iff.mp hf
        refine g_callV X (As := [ii 41]) (st := []) (st1 := []) (ws' := c7 K a v4) (X7_put_ok K l a (V0.1, V0.2.1, f2, V0.2.2.2) 41 v4 hc5) gX7_finishArgument_X7_put rfl 1 (by decide +kernel) ⟨rfl, rfl⟩ ⟨Nat.le_of_ble_eq_true rfl, Nat.le_of_ble_eq_true rfl⟩ ⟨Nat.zero_le _, Nat.zero_le _⟩ 0 rfl rfl rfl rfl (Nat.le_of_ble_eq_true rfl) dX7_finishArgument_46 (SG.all rfl) rfl ?_
        refine g_aload_n X dX7_finishArgument_49 0 rfl rfl ?_
        refine g_dup X dX7_finishArgument_50 rfl ?_
        refine g_get X (v := ii v4.2.2.2) 0 3 dX7_finishArgument_51 rfl rfl iw_X7_finishArgument_X7 (by decide) fl_X7_finishArgument_22 rfl ?_
        refine g_iconst X dX7_finishArgument_54 ?_
        refine g_isub X dX7_finishArgument_55 ?_
        refine g_puti X 0 3 dX7_finishArgument_56 rfl rfl iw_X7_finishArgument_X7 tyX7_ok nmX7 (by decide) fl_X7_finishArgument_22 rfl rfl (Nat.le_of_ble_eq_true rfl) (ws' := c7 K a (v4.1, v4.2.1, v4.2.2.1, (v4.2.2.2 - 1))) rfl ?_
        refine g_goto X 0 dX7_finishArgument_59 (by decide) ?_
        exact ih (v4.1, v4.2.1, v4.2.2.1, (v4.2.2.2 - 1)) hf hk
      · exact hk (V0.1, V0.2.1, f2, V0.2.2.2) hf
set_option maxHeartbeats 4000000 in
set_option maxRecDepth 100000 in
theorem X7_finishArgument_go (K : KE) (l : Launch) (a : Nat → Nat) (WC : va_W) {p : Program} {e : Env} {s : State} {m : MethodId} {args : Array Value} {below : List Frame} {meth : Method} {c : Code} (X : CX p s m args c K.1 vwCl (kT K) (va_A WC s.heap.size) cX7_finishArgument 1 wsX7_finishArgument RX7) (hr : meth.sig.returnType = none) (hlk : meth.locks = false) (V0 : Tx) (res : Tx) (hf : X7_finishArgument V0 = some res) : GO p l e rmX7_finishArgument s m args below meth c K.1 vwCl (va_A WC s.heap.size) (MQ below (QC K.1 vwCl none WC (c7 K a res) s.heap.size) args s 0 0 (va_A WC s.heap.size)) 1 0 0 0 [(0, .ref (a 0))] [] (c7 K a V0) := by
  rw [X7_finishArgument] at hf
  refine X7_finishArgument_L0_ok K l a WC X hr hlk res FU V0 hf (fun w6 hf => ?_)
  refine g_aload_n X dX7_finishArgument_36 0 rfl rfl ?_
  refine g_bipush X dX7_finishArgument_37 (by decide +kernel) ?_
  obtain ⟨v7, hc8, hf⟩ := Option.bind_eq_some_iff.mp hf
  refine g_callV X (As := [ii 44]) (st := []) (st1 := []) (ws' := c7 K a v7) (X7_put_ok K l a w6 44 v7 hc8) gX7_finishArgument_X7_put rfl 1 (by decide +kernel) ⟨rfl, rfl⟩ ⟨Nat.le_of_ble_eq_true rfl, Nat.le_of_ble_eq_true rfl⟩ ⟨Nat.zero_le _, Nat.zero_le _⟩ 0 rfl rfl rfl rfl (Nat.le_of_ble_eq_true rfl) dX7_finishArgument_39 (SG.all rfl) rfl ?_
  cases hf
  exact g_vret X hr hlk dX7_finishArgument_42
set_option maxHeartbeats 4000000 in
set_option maxRecDepth 100000 in
theorem X7_finishArgument_ok (K : KE) (l : Launch) (a : Nat → Nat) (V0 : Tx) (res : Tx) (hf : X7_finishArgument V0 = some res) : CT l K.1 vwCl (kT K) yX7_finishArgument wsX7_finishArgument rmX7_finishArgument [.ref (a 0)] none (c7 K a V0) (c7 K a res) :=
  CT.mk (cc := cX7_finishArgument) (maxL := 1) (ret := none) (by decide) rfl (Nat.le_of_ble_eq_true rfl) (fun p e s m below meth c X hr hlk => X7_finishArgument_go K l a _ X hr hlk V0 res hf)
theorem iw_X7_openCall_X7 : ∀ w ∈ u_ws RX7 TX7 4, w ∈ wsX7_openCall := by decide +kernel
theorem fl_X7_openCall_22 : Cond.fieldLink RX7 22 (TX7 3).1 (TX7 3).2.1 (TX7 3).2.2.1 ∈ wsX7_openCall := by decide +kernel
theorem fl_X7_openCall_19 : Cond.fieldLink RX7 19 (TX7 2).1 (TX7 2).2.1 (TX7 2).2.2.1 ∈ wsX7_openCall := by decide +kernel
def rmX7_openCall : Room := { frames := 2, cells := 0, slots := 0, locals := 41 }
def X7_openCall (V0 : Tx) (p1 : Int) (p2 : Int) (p3 : Int) : Option (Tx) := (X7_firstLetterOf p1).bind (fun v1 => (X7_put V0 (v1 + p2)).bind (fun v3 => (X7_put v3 40).bind (fun v5 => brEQ p3 0 ((X7_put v5 41).bind (fun v7 => (X7_finishArgument v7).bind (fun v9 => some v9))) (brLT v5.2.2.2 30 (wrK 30 v5.2.2.1 v5.2.2.2 p3 (fun f11 => some (v5.1, v5.2.1, f11, (v5.2.2.2 + 1)))) (some v5)))))
set_option maxHeartbeats 4000000 in
set_option maxRecDepth 100000 in
theorem X7_openCall_go (K : KE) (l : Launch) (a : Nat → Nat) (WC : va_W) {p : Program} {e : Env} {s : State} {m : MethodId} {args : Array Value} {below : List Frame} {meth : Method} {c : Code} (X : CX p s m args c K.1 vwCl (kT K) (va_A WC s.heap.size) cX7_openCall 4 wsX7_openCall RX7) (hr : meth.sig.returnType = none) (hlk : meth.locks = false) (V0 : Tx) (p1 : Int) (p2 : Int) (p3 : Int) (res : Tx) (hf : X7_openCall V0 p1 p2 p3 = some res) : GO p l e rmX7_openCall s m args below meth c K.1 vwCl (va_A WC s.heap.size) (MQ below (QC K.1 vwCl none WC (c7 K a res) s.heap.size) args s 0 0 (va_A WC s.heap.size)) 4 0 0 0 [(0, .ref (a 0)), (1, ii p1), (2, ii p2), (3, ii p3)] [] (c7 K a V0) := by
  rw [X7_openCall] at hf
  refine g_aload_n X dX7_openCall_0 0 rfl rfl ?_
  refine g_iload_n X dX7_openCall_1 1 rfl rfl ?_
  obtain ⟨v1, hc2, hf⟩ := Option.bind_eq_some_iff.mp hf
  refine g_callS X (As := [ii p1]) (st := [.ref (a 0)]) (st1 := [ii v1, .ref (a 0)]) (ws' := c7 K a V0) (X7_firstLetterOf_ok K l p1 v1 hc2) gX7_openCall_X7_firstLetterOf rfl 1 (by decide +kernel) ⟨rfl, rfl⟩ ⟨Nat.le_of_ble_eq_true rfl, Nat.le_of_ble_eq_true rfl⟩ ⟨Nat.zero_le _, Nat.zero_le _⟩ rfl rfl (Nat.le_of_ble_eq_true rfl) dX7_openCall_2 SG.none rfl ?_
  refine g_iload_n X dX7_openCall_5 2 rfl rfl ?_
  refine g_iadd X dX7_openCall_6 ?_
  obtain ⟨v3, hc4, hf⟩ := Option.bind_eq_some_iff.mp hf
  refine g_callV X (As := [ii (v1 + p2)]) (st := []) (st1 := []) (ws' := c7 K a v3) (X7_put_ok K l a V0 (v1 + p2) v3 hc4) gX7_openCall_X7_put rfl 1 (by decide +kernel) ⟨rfl, rfl⟩ ⟨Nat.le_of_ble_eq_true rfl, Nat.le_of_ble_eq_true rfl⟩ ⟨Nat.zero_le _, Nat.zero_le _⟩ 0 rfl rfl rfl rfl (Nat.le_of_ble_eq_true rfl) dX7_openCall_7 (SG.all rfl) rfl ?_
  refine g_aload_n X dX7_openCall_10 0 rfl rfl ?_
  refine g_bipush X dX7_openCall_11 (by decide +kernel) ?_
  obtain ⟨v5, hc6, hf⟩ := Option.bind_eq_some_iff.mp hf
  refine g_callV X (As := [ii 40]) (st := []) (st1 := []) (ws' := c7 K a v5) (X7_put_ok K l a v3 40 v5 hc6) gX7_openCall_X7_put rfl 1 (by decide +kernel) ⟨rfl, rfl⟩ ⟨Nat.le_of_ble_eq_true rfl, Nat.le_of_ble_eq_true rfl⟩ ⟨Nat.zero_le _, Nat.zero_le _⟩ 0 rfl rfl rfl rfl (Nat.le_of_ble_eq_true rfl) dX7_openCall_13 (SG.all rfl) rfl ?_
  refine g_iload_n X dX7_openCall_16 3 rfl rfl ?_
  refine g_if_ne X hf 33 dX7_openCall_17 (by decide) (fun hf => ?_) (fun hf => ?_)
  · refine g_aload_n X dX7_openCall_20 0 rfl rfl ?_
    refine g_bipush X dX7_openCall_21 (by decide +kernel) ?_
    obtain ⟨v7, hc8, hf⟩ := Option.bind_eq_some_iff.mp hf
    refine g_callV X (As := [ii 41]) (st := []) (st1 := []) (ws' := c7 K a v7) (X7_put_ok K l a v5 41 v7 hc8) gX7_openCall_X7_put rfl 1 (by decide +kernel) ⟨rfl, rfl⟩ ⟨Nat.le_of_ble_eq_true rfl, Nat.le_of_ble_eq_true rfl⟩ ⟨Nat.zero_le _, Nat.zero_le _⟩ 0 rfl rfl rfl rfl (Nat.le_of_ble_eq_true rfl) dX7_openCall_23 (SG.all rfl) rfl ?_
    refine g_aload_n X dX7_openCall_26 0 rfl rfl ?_
    obtain ⟨v9, hc10, hf⟩ := Option.bind_eq_some_iff.mp hf
    refine g_callV X (As := []) (st := []) (st1 := []) (ws' := c7 K a v9) (X7_finishArgument_ok K l a v7 v9 hc10) gX7_openCall_X7_finishArgument rfl 0 (by decide +kernel) ⟨rfl, rfl⟩ ⟨Nat.le_of_ble_eq_true rfl, Nat.le_of_ble_eq_true rfl⟩ ⟨Nat.zero_le _, Nat.zero_le _⟩ 0 rfl rfl rfl rfl (Nat.le_of_ble_eq_true rfl) dX7_openCall_27 (SG.all rfl) rfl ?_
    refine g_goto X 62 dX7_openCall_30 (by decide) ?_
    cases hf
    exact g_vret X hr hlk dX7_openCall_62
  · refine g_aload_n X dX7_openCall_33 0 rfl rfl ?_
    refine g_get X (v := ii v5.2.2.2) 0 3 dX7_openCall_34 rfl rfl iw_X7_openCall_X7 (by decide) fl_X7_openCall_22 rfl ?_
    refine g_bipush X dX7_openCall_37 (by decide +kernel) ?_
    refine g_icmp_ge X hf 62 dX7_openCall_39 (by decide) (fun hf => ?_) (fun hf => ?_)
    · refine g_aload_n X dX7_openCall_42 0 rfl rfl ?_
      refine g_get X (v := .ref (a 2)) 0 2 dX7_openCall_43 rfl rfl iw_X7_openCall_X7 (by decide) fl_X7_openCall_19 rfl ?_
      refine g_aload_n X dX7_openCall_46 0 rfl rfl ?_
      refine g_get X (v := ii v5.2.2.2) 0 3 dX7_openCall_47 rfl rfl iw_X7_openCall_X7 (by decide) fl_X7_openCall_22 rfl ?_
      refine g_iload_n X dX7_openCall_50 3 rfl rfl ?_
      refine g_iast X hf (by decide) 2 0 dX7_openCall_51 rfl rfl (fun f11 => c7 K a (v5.1, v5.2.1, f11, v5.2.2.2)) (fun _ => rfl) (fun f11 hf => ?_)
      refine g_aload_n X dX7_openCall_52 0 rfl rfl ?_
      refine g_dup X dX7_openCall_53 rfl ?_
      refine g_get X (v := ii v5.2.2.2) 0 3 dX7_openCall_54 rfl rfl iw_X7_openCall_X7 (by decide) fl_X7_openCall_22 rfl ?_
      refine g_iconst X dX7_openCall_57 ?_
      refine g_iadd X dX7_openCall_58 ?_
      refine g_puti X 0 3 dX7_openCall_59 rfl rfl iw_X7_openCall_X7 tyX7_ok nmX7 (by decide) fl_X7_openCall_22 rfl rfl (Nat.le_of_ble_eq_true rfl) (ws' := c7 K a (v5.1, v5.2.1, f11, (v5.2.2.2 + 1))) rfl ?_
      cases hf
      exact g_vret X hr hlk dX7_openCall_62
    · cases hf
      exact g_vret X hr hlk dX7_openCall_62
set_option maxHeartbeats 4000000 in
set_option maxRecDepth 100000 in
theorem X7_openCall_ok (K : KE) (l : Launch) (a : Nat → Nat) (V0 : Tx) (p1 : Int) (p2 : Int) (p3 : Int) (res : Tx) (hf : X7_openCall V0 p1 p2 p3 = some res) : CT l K.1 vwCl (kT K) yX7_openCall wsX7_openCall rmX7_openCall [.ref (a 0), ii p1, ii p2, ii p3] none (c7 K a V0) (c7 K a res) :=
  CT.mk (cc := cX7_openCall) (maxL := 4) (ret := none) (by decide) rfl (Nat.le_of_ble_eq_true rfl) (fun p e s m below meth c X hr hlk => X7_openCall_go K l a _ X hr hlk V0 p1 p2 p3 res hf)
def rmX7_writeLeaf : Room := { frames := 1, cells := 0, slots := 0, locals := 21 }
def X7_writeLeaf (V0 : Tx) (p1 : Int) (p2 : Int) : Option (Tx) := brEQ p1 1 ((X7_put V0 (120 + p2)).bind (fun v1 => some v1)) (brLT p2 10 (rmK p2 10 (fun v3 => (X7_put V0 (48 + v3)).bind (fun v4 => some v4))) (dvK p2 10 (fun v6 => (X7_put V0 (48 + v6)).bind (fun v7 => rmK p2 10 (fun v9 => (X7_put v7 (48 + v9)).bind (fun v10 => some v10))))))
set_option maxHeartbeats 4000000 in
set_option maxRecDepth 100000 in
theorem X7_writeLeaf_go (K : KE) (l : Launch) (a : Nat → Nat) (WC : va_W) {p : Program} {e : Env} {s : State} {m : MethodId} {args : Array Value} {below : List Frame} {meth : Method} {c : Code} (X : CX p s m args c K.1 vwCl (kT K) (va_A WC s.heap.size) cX7_writeLeaf 3 wsX7_writeLeaf RX7) (hr : meth.sig.returnType = none) (hlk : meth.locks = false) (V0 : Tx) (p1 : Int) (p2 : Int) (res : Tx) (hf : X7_writeLeaf V0 p1 p2 = some res) : GO p l e rmX7_writeLeaf s m args below meth c K.1 vwCl (va_A WC s.heap.size) (MQ below (QC K.1 vwCl none WC (c7 K a res) s.heap.size) args s 0 0 (va_A WC s.heap.size)) 3 0 0 0 [(0, .ref (a 0)), (1, ii p1), (2, ii p2)] [] (c7 K a V0) := by
  rw [X7_writeLeaf] at hf
  refine g_iload_n X dX7_writeLeaf_0 1 rfl rfl ?_
  refine g_iconst X dX7_writeLeaf_1 ?_
  refine g_icmp_ne X hf 14 dX7_writeLeaf_2 (by decide) (fun hf => ?_) (fun hf => ?_)
  · refine g_aload_n X dX7_writeLeaf_5 0 rfl rfl ?_
    refine g_bipush X dX7_writeLeaf_6 (by decide +kernel) ?_
    refine g_iload_n X dX7_writeLeaf_8 2 rfl rfl ?_
    refine g_iadd X dX7_writeLeaf_9 ?_
    obtain ⟨v1, hc2, hf⟩ := Option.bind_eq_some_iff.mp hf
    refine g_callV X (As := [ii (120 + p2)]) (st := []) (st1 := []) (ws' := c7 K a v1) (X7_put_ok K l a V0 (120 + p2) v1 hc2) gX7_writeLeaf_X7_put rfl 1 (by decide +kernel) ⟨rfl, rfl⟩ ⟨Nat.le_of_ble_eq_true rfl, Nat.le_of_ble_eq_true rfl⟩ ⟨Nat.zero_le _, Nat.zero_le _⟩ 0 rfl rfl rfl rfl (Nat.le_of_ble_eq_true rfl) dX7_writeLeaf_10 (SG.all rfl) rfl ?_
    cases hf
    exact g_vret X hr hlk dX7_writeLeaf_13
  · refine g_iload_n X dX7_writeLeaf_14 2 rfl rfl ?_
    refine g_bipush X dX7_writeLeaf_15 (by decide +kernel) ?_
    refine g_icmp_lt X hf 31 dX7_writeLeaf_17 (by decide) (fun hf => ?_) (fun hf => ?_)
    · refine g_aload_n X dX7_writeLeaf_31 0 rfl rfl ?_
      refine g_bipush X dX7_writeLeaf_32 (by decide +kernel) ?_
      refine g_iload_n X dX7_writeLeaf_34 2 rfl rfl ?_
      refine g_bipush X dX7_writeLeaf_35 (by decide +kernel) ?_
      refine g_irem X hf (by decide) dX7_writeLeaf_37 (fun v3 hf => ?_)
      refine g_iadd X dX7_writeLeaf_38 ?_
      obtain ⟨v4, hc5, hf⟩ := Option.bind_eq_some_iff.mp hf
      refine g_callV X (As := [ii (48 + v3)]) (st := []) (st1 := []) (ws' := c7 K a v4) (X7_put_ok K l a V0 (48 + v3) v4 hc5) gX7_writeLeaf_X7_put rfl 1 (by decide +kernel) ⟨rfl, rfl⟩ ⟨Nat.le_of_ble_eq_true rfl, Nat.le_of_ble_eq_true rfl⟩ ⟨Nat.zero_le _, Nat.zero_le _⟩ 0 rfl rfl rfl rfl (Nat.le_of_ble_eq_true rfl) dX7_writeLeaf_39 (SG.all rfl) rfl ?_
      cases hf
      exact g_vret X hr hlk dX7_writeLeaf_42
    · refine g_aload_n X dX7_writeLeaf_20 0 rfl rfl ?_
      refine g_bipush X dX7_writeLeaf_21 (by decide +kernel) ?_
      refine g_iload_n X dX7_writeLeaf_23 2 rfl rfl ?_
      refine g_bipush X dX7_writeLeaf_24 (by decide +kernel) ?_
      refine g_idiv X hf (by decide) dX7_writeLeaf_26 (fun v6 hf => ?_)
      refine g_iadd X dX7_writeLeaf_27 ?_
      obtain ⟨v7, hc8, hf⟩ := Option.bind_eq_some_iff.mp hf
      refine g_callV X (As := [ii (48 + v6)]) (st := []) (st1 := []) (ws' := c7 K a v7) (X7_put_ok K l a V0 (48 + v6) v7 hc8) gX7_writeLeaf_X7_put rfl 1 (by decide +kernel) ⟨rfl, rfl⟩ ⟨Nat.le_of_ble_eq_true rfl, Nat.le_of_ble_eq_true rfl⟩ ⟨Nat.zero_le _, Nat.zero_le _⟩ 0 rfl rfl rfl rfl (Nat.le_of_ble_eq_true rfl) dX7_writeLeaf_28 (SG.all rfl) rfl ?_
      refine g_aload_n X dX7_writeLeaf_31 0 rfl rfl ?_
      refine g_bipush X dX7_writeLeaf_32 (by decide +kernel) ?_
      refine g_iload_n X dX7_writeLeaf_34 2 rfl rfl ?_
      refine g_bipush X dX7_writeLeaf_35 (by decide +kernel) ?_
      refine g_irem X hf (by decide) dX7_writeLeaf_37 (fun v9 hf => ?_)
      refine g_iadd X dX7_writeLeaf_38 ?_
      obtain ⟨v10, hc11, hf⟩ := Option.bind_eq_some_iff.mp hf
      refine g_callV X (As := [ii (48 + v9)]) (st := []) (st1 := []) (ws' := c7 K a v10) (X7_put_ok K l a v7 (48 + v9) v10 hc11) gX7_writeLeaf_X7_put rfl 1 (by decide +kernel) ⟨rfl, rfl⟩ ⟨Nat.le_of_ble_eq_true rfl, Nat.le_of_ble_eq_true rfl⟩ ⟨Nat.zero_le _, Nat.zero_le _⟩ 0 rfl rfl rfl rfl (Nat.le_of_ble_eq_true rfl) dX7_writeLeaf_39 (SG.all rfl) rfl ?_
      cases hf
      exact g_vret X hr hlk dX7_writeLeaf_42
set_option maxHeartbeats 4000000 in
set_option maxRecDepth 100000 in
theorem X7_writeLeaf_ok (K : KE) (l : Launch) (a : Nat → Nat) (V0 : Tx) (p1 : Int) (p2 : Int) (res : Tx) (hf : X7_writeLeaf V0 p1 p2 = some res) : CT l K.1 vwCl (kT K) yX7_writeLeaf wsX7_writeLeaf rmX7_writeLeaf [.ref (a 0), ii p1, ii p2] none (c7 K a V0) (c7 K a res) :=
  CT.mk (cc := cX7_writeLeaf) (maxL := 3) (ret := none) (by decide) rfl (Nat.le_of_ble_eq_true rfl) (fun p e s m below meth c X hr hlk => X7_writeLeaf_go K l a _ X hr hlk V0 p1 p2 res hf)
theorem iw_X7_write_X7 : ∀ w ∈ u_ws RX7 TX7 4, w ∈ wsX7_write := by decide +kernel
theorem fl_X7_write_15 : Cond.fieldLink RX7 15 (TX7 1).1 (TX7 1).2.1 (TX7 1).2.2.1 ∈ wsX7_write := by decide +kernel
theorem fl_X7_write_22 : Cond.fieldLink RX7 22 (TX7 3).1 (TX7 3).2.1 (TX7 3).2.2.1 ∈ wsX7_write := by decide +kernel
theorem iw_X7_write_X6 : ∀ w ∈ u_ws RX6 TX6 4, w ∈ wsX7_write := by decide +kernel
theorem fl_X7_write_25 : Cond.fieldLink RX7 25 (TX6 0).1 (TX6 0).2.1 (TX6 0).2.2.1 ∈ wsX7_write := by decide +kernel
theorem fl_X7_write_30 : Cond.fieldLink RX7 30 (TX6 1).1 (TX6 1).2.1 (TX6 1).2.2.1 ∈ wsX7_write := by decide +kernel
theorem ne_X7_write_33 : (RX7, 33, yX9_isCall) ∈ nestL := by decide +kernel
theorem wd_X7_write_ini9 : Cond.initialized yX9_isCall.cls ∈ wsX7_write := by decide +kernel
theorem wd_X7_write_sta_X9_isCall : Cond.static yX9_isCall ∈ wsX7_write := by decide +kernel
theorem fl_X7_write_37 : Cond.fieldLink RX7 37 (TX6 2).1 (TX6 2).2.1 (TX6 2).2.2.1 ∈ wsX7_write := by decide +kernel
theorem fl_X7_write_40 : Cond.fieldLink RX7 40 (TX6 3).1 (TX6 3).2.1 (TX6 3).2.2.1 ∈ wsX7_write := by decide +kernel
def rmX7_write : Room := { frames := 3, cells := 0, slots := 0, locals := 64 }
def X7_write_L12 (kx : Tx → Option (Tx)) (V0 : Pg) : Nat → Int → Tx → Option (Tx)
  | 0, _, _ => none
  | n + 1, y2, V1 => brLT y2 V0.1 (rdK 30 V0.2.1 y2 (fun v1 => (X9_isCall v1).bind (fun v2 => ltK (fun q4 : Tx => X7_write_L12 kx V0 n (y2 + 1) q4) (fun j5 => brEQ v2 0 (rdK 30 V0.2.1 y2 (fun v6 => rdK 30 V0.2.2.1 y2 (fun v7 => (X7_writeLeaf V1 v6 v7).bind (fun v8 => (X7_finishArgument v8).bind (fun v10 => j5 v10))))) (rdK 30 V0.2.1 y2 (fun v12 => rdK 30 V0.2.2.1 y2 (fun v13 => rdK 30 V0.2.2.2 y2 (fun v14 => (X7_openCall V1 v12 v13 v14).bind (fun v15 => j5 v15))))))))) (kx V1)
def X7_write (V0 : Pg) (V1 : Tx) : Option (Tx) := X7_write_L12 (fun w17 => some w17) V0 FU 0 (V1.1, 0, V1.2.2.1, 0)
set_option maxHeartbeats 4000000 in
set_option maxRecDepth 100000 in
theorem X7_write_L12_ok (K : KE) (l : Launch) (a : Nat → Nat) (b : Nat → Nat) (WC : va_W) {p : Program} {e : Env} {s : State} {m : MethodId} {args : Array Value} {below : List Frame} {meth : Method} {c : Code} (X : CX p s m args c K.1 vwCl (kT K) (va_A WC s.heap.size) cX7_write 3 wsX7_write RX7) (hr : meth.sig.returnType = none) (hlk : meth.locks = false) (V0 : Pg)  (res : Tx) {kx : Tx → Option (Tx)} : ∀ (n : Nat) (y2 : Int) (V1 : Tx), X7_write_L12 kx V0 n y2 V1 = some res → (∀ (V1z : Tx), kx V1z = some res → GO p l e rmX7_write s m args below meth c K.1 vwCl (va_A WC s.heap.size) (MQ below (QC K.1 vwCl none WC (c6 K a V0 ++ (c7 K b res)) s.heap.size) args s 0 0 (va_A WC s.heap.size)) 3 0 0 83 [] [] (c6 K a V0 ++ (c7 K b V1z))) → GO p l e rmX7_write s m args below meth c K.1 vwCl (va_A WC s.heap.size) (MQ below (QC K.1 vwCl none WC (c6 K a V0 ++ (c7 K b res)) s.heap.size) args s 0 0 (va_A WC s.heap.size)) 3 0 0 12 [(0, .ref (b 0)), (1, .ref (a 0)), (2, ii y2)] [] (c6 K a V0 ++ (c7 K b V1)) := by
  intro n
  induction n with
  | zero =>
    intro y2 V1 hf _
    rw [X7_write_L12] at hf
    cases hf
  | succ n ih =>
    intro y2 V1 hf hk
    rw [X7_write_L12] at hf
    refine g_iload_n X dX7_write_12 2 rfl rfl ?_
    refine g_aload_n X dX7_write_13 1 rfl rfl ?_
    refine g_get X (v := ii V0.1) 0 0 dX7_write_14 rfl rfl iw_X7_write_X6 (by decide) fl_X7_write_25 rfl ?_
    refine g_icmp_ge X hf 83 dX7_write_17 (by decide) (fun hf => ?_) (fun hf => ?_)
    · refine g_aload_n X dX7_write_20 1 rfl rfl ?_
      refine g_get X (v := .ref (a 1)) 0 1 dX7_write_21 rfl rfl iw_X7_write_X6 (by decide) fl_X7_write_30 rfl ?_
      refine g_iload_n X dX7_write_24 2 rfl rfl ?_
      refine g_iald X hf (by decide) 1 0 dX7_write_25 rfl rfl (fun v1 hf => ?_)
      obtain ⟨v2, hc3, hf⟩ := Option.bind_eq_some_iff.mp hf
      refine g_callSN X (As := [ii v1]) (st := []) (st1 := [ii v2]) (ws' := c6 K a V0 ++ (c7 K b V1)) (X9_isCall_ok K l v1 v2 hc3) ggX7_write_X9_isCall ne_X7_write_33 wd_X7_write_ini9 wd_X7_write_sta_X9_isCall rfl 1 (by decide +kernel) ⟨rfl, rfl⟩ ⟨Nat.le_of_ble_eq_true rfl, Nat.le_of_ble_eq_true rfl⟩ ⟨Nat.zero_le _, Nat.zero_le _⟩ rfl rfl (Nat.le_of_ble_eq_true rfl) dX7_write_26 SG.none rfl ?_
      refine g_let (G := fun q4 : Tx => GO p l e rmX7_write s m args below meth c K.1 vwCl (va_A WC s.heap.size) (MQ below (QC K.1 vwCl none WC (c6 K a V0 ++ (c7 K b res)) s.heap.size) args s 0 0 (va_A WC s.heap.size)) 3 0 0 77 [(0, .ref (b 0)), (1, .ref (a 0)), (2, ii y2)] [] (c6 K a V0 ++ (c7 K b q4))) hf (fun q4 hf => ?_) (fun j5 hj5 hf => ?_)
      · refine g_iinc X (lv' := [(2, ii (y2 + 1)), (0, .ref (b 0)), (1, .ref (a 0))]) dX7_write_77 2 rfl (by decide) rfl ?_
        refine g_goto X 12 dX7_write_80 (by decide) ?_
        refine g_sub (lv' := [(0, .ref (b 0)), (1, .ref (a 0)), (2, ii (y2 + 1))]) [1, 2, 0] rfl ?_
        exact ih (y2 + 1) q4 hf hk
      · refine g_if_eq X hf 57 dX7_write_29 (by decide) (fun hf => ?_) (fun hf => ?_)
        · refine g_aload_n X dX7_write_57 0 rfl rfl ?_
          refine g_aload_n X dX7_write_58 1 rfl rfl ?_
          refine g_get X (v := .ref (a 1)) 0 1 dX7_write_59 rfl rfl iw_X7_write_X6 (by decide) fl_X7_write_30 rfl ?_
          refine g_iload_n X dX7_write_62 2 rfl rfl ?_
          refine g_iald X hf (by decide) 1 0 dX7_write_63 rfl rfl (fun v6 hf => ?_)
          refine g_aload_n X dX7_write_64 1 rfl rfl ?_
          refine g_get X (v := .ref (a 2)) 0 2 dX7_write_65 rfl rfl iw_X7_write_X6 (by decide) fl_X7_write_37 rfl ?_
          refine g_iload_n X dX7_write_68 2 rfl rfl ?_
          refine g_iald X hf (by decide) 2 0 dX7_write_69 rfl rfl (fun v7 hf => ?_)
          obtain ⟨v8, hc9, hf⟩ := Option.bind_eq_some_iff.mp hf
          refine g_callV X (As := [ii v6, ii v7]) (st := []) (st1 := []) (ws' := c6 K a V0 ++ (c7 K b v8)) (X7_writeLeaf_ok K l b V1 v6 v7 v8 hc9) gX7_write_X7_writeLeaf rfl 2 (by decide +kernel) ⟨rfl, rfl⟩ ⟨Nat.le_of_ble_eq_true rfl, Nat.le_of_ble_eq_true rfl⟩ ⟨Nat.zero_le _, Nat.zero_le _⟩ 4 rfl rfl rfl rfl (Nat.le_of_ble_eq_true rfl) dX7_write_70 (SG.one (c6 K a V0) [] rfl rfl rfl) rfl ?_
          refine g_aload_n X dX7_write_73 0 rfl rfl ?_
          obtain ⟨v10, hc11, hf⟩ := Option.bind_eq_some_iff.mp hf
          refine g_callV X (As := []) (st := []) (st1 := []) (ws' := c6 K a V0 ++ (c7 K b v10)) (X7_finishArgument_ok K l b v8 v10 hc11) gX7_write_X7_finishArgument rfl 0 (by decide +kernel) ⟨rfl, rfl⟩ ⟨Nat.le_of_ble_eq_true rfl, Nat.le_of_ble_eq_true rfl⟩ ⟨Nat.zero_le _, Nat.zero_le _⟩ 4 rfl rfl rfl rfl (Nat.le_of_ble_eq_true rfl) dX7_write_74 (SG.one (c6 K a V0) [] rfl rfl rfl) rfl ?_
          exact hj5 v10 hf
        · refine g_aload_n X dX7_write_32 0 rfl rfl ?_
          refine g_aload_n X dX7_write_33 1 rfl rfl ?_
          refine g_get X (v := .ref (a 1)) 0 1 dX7_write_34 rfl rfl iw_X7_write_X6 (by decide) fl_X7_write_30 rfl ?_
          refine g_iload_n X dX7_write_37 2 rfl rfl ?_
          refine g_iald X hf (by decide) 1 0 dX7_write_38 rfl rfl (fun v12 hf => ?_)
          refine g_aload_n X dX7_write_39 1 rfl rfl ?_
          refine g_get X (v := .ref (a 2)) 0 2 dX7_write_40 rfl rfl iw_X7_write_X6 (by decide) fl_X7_write_37 rfl ?_
          refine g_iload_n X dX7_write_43 2 rfl rfl ?_
          refine g_iald X hf (by decide) 2 0 dX7_write_44 rfl rfl (fun v13 hf => ?_)
          refine g_aload_n X dX7_write_45 1 rfl rfl ?_
          refine g_get X (v := .ref (a 3)) 0 3 dX7_write_46 rfl rfl iw_X7_write_X6 (by decide) fl_X7_write_40 rfl ?_
          refine g_iload_n X dX7_write_49 2 rfl rfl ?_
          refine g_iald X hf (by decide) 3 0 dX7_write_50 rfl rfl (fun v14 hf => ?_)
          obtain ⟨v15, hc16, hf⟩ := Option.bind_eq_some_iff.mp hf
          refine g_callV X (As := [ii v12, ii v13, ii v14]) (st := []) (st1 := []) (ws' := c6 K a V0 ++ (c7 K b v15)) (X7_openCall_ok K l b V1 v12 v13 v14 v15 hc16) gX7_write_X7_openCall rfl 3 (by decide +kernel) ⟨rfl, rfl⟩ ⟨Nat.le_of_ble_eq_true rfl, Nat.le_of_ble_eq_true rfl⟩ ⟨Nat.zero_le _, Nat.zero_le _⟩ 4 rfl rfl rfl rfl (Nat.le_of_ble_eq_true rfl) dX7_write_51 (SG.one (c6 K a V0) [] rfl rfl rfl) rfl ?_
          refine g_goto X 77 dX7_write_54 (by decide) ?_
          exact hj5 v15 hf
    · refine g_sub (lv' := []) [] rfl ?_
      exact hk V1 hf
set_option maxHeartbeats 4000000 in
set_option maxRecDepth 100000 in
theorem X7_write_go (K : KE) (l : Launch) (a : Nat → Nat) (b : Nat → Nat) (WC : va_W) {p : Program} {e : Env} {s : State} {m : MethodId} {args : Array Value} {below : List Frame} {meth : Method} {c : Code} (X : CX p s m args c K.1 vwCl (kT K) (va_A WC s.heap.size) cX7_write 3 wsX7_write RX7) (hr : meth.sig.returnType = none) (hlk : meth.locks = false) (V0 : Pg) (V1 : Tx) (res : Tx) (hf : X7_write V0 V1 = some res) : GO p l e rmX7_write s m args below meth c K.1 vwCl (va_A WC s.heap.size) (MQ below (QC K.1 vwCl none WC (c6 K a V0 ++ (c7 K b res)) s.heap.size) args s 0 0 (va_A WC s.heap.size)) 3 0 0 0 [(0, .ref (b 0)), (1, .ref (a 0))] [] (c6 K a V0 ++ (c7 K b V1)) := by
  rw [X7_write] at hf
  refine g_aload_n X dX7_write_0 0 rfl rfl ?_
  refine g_iconst X dX7_write_1 ?_
  refine g_puti X 4 1 dX7_write_2 rfl rfl iw_X7_write_X7 tyX7_ok nmX7 (by decide) fl_X7_write_15 rfl rfl (Nat.le_of_ble_eq_true rfl) (ws' := c6 K a V0 ++ (c7 K b (V1.1, 0, V1.2.2.1, V1.2.2.2))) rfl ?_
  refine g_aload_n X dX7_write_5 0 rfl rfl ?_
  refine g_iconst X dX7_write_6 ?_
  refine g_puti X 4 3 dX7_write_7 rfl rfl iw_X7_write_X7 tyX7_ok nmX7 (by decide) fl_X7_write_22 rfl rfl (Nat.le_of_ble_eq_true rfl) (ws' := c6 K a V0 ++ (c7 K b (V1.1, 0, V1.2.2.1, 0))) rfl ?_
  refine g_iconst X dX7_write_10 ?_
  refine g_istore_n X (lv' := [(2, ii 0), (0, .ref (b 0)), (1, .ref (a 0))]) dX7_write_11 rfl (by decide) rfl ?_
  refine g_sub (lv' := [(0, .ref (b 0)), (1, .ref (a 0)), (2, ii 0)]) [1, 2, 0] rfl ?_
  refine X7_write_L12_ok K l a b WC X hr hlk V0 res FU 0 (V1.1, 0, V1.2.2.1, 0) hf (fun w17 hf => ?_)
  cases hf
  exact g_vret X hr hlk dX7_write_83
set_option maxHeartbeats 4000000 in
set_option maxRecDepth 100000 in
theorem X7_write_ok (K : KE) (l : Launch) (a : Nat → Nat) (b : Nat → Nat) (V0 : Pg) (V1 : Tx) (res : Tx) (hf : X7_write V0 V1 = some res) : CT l K.1 vwCl (kT K) yX7_write wsX7_write rmX7_write [.ref (b 0), .ref (a 0)] none (c6 K a V0 ++ (c7 K b V1)) (c6 K a V0 ++ (c7 K b res)) :=
  CT.mk (cc := cX7_write) (maxL := 3) (ret := none) (by decide) rfl (Nat.le_of_ble_eq_true rfl) (fun p e s m below meth c X hr hlk => X7_write_go K l a b _ X hr hlk V0 V1 res hf)
theorem wd_X9_mix_cl209 : Jvm.Cond.constantLong RX9 209 (31) ∈ wsX9_mix := by decide +kernel
def rmX9_mix : Room := { frames := 0, cells := 0, slots := 0, locals := 0 }
def X9_mix (p0 : Int) (p2 : Int) : Option (Int) := lgK p2 (some ((31 * p0) + p2))
set_option maxHeartbeats 4000000 in
set_option maxRecDepth 100000 in
theorem X9_mix_go (K : KE) (l : Launch) (WC : va_W) {p : Program} {e : Env} {s : State} {m : MethodId} {args : Array Value} {below : List Frame} {meth : Method} {c : Code} (X : CX p s m args c K.1 vwCl (kT K) (va_A WC s.heap.size) cX9_mix 3 wsX9_mix RX9) (hr : meth.sig.returnType = (some .long)) (hlk : meth.locks = false) (p0 : Int) (p2 : Int) (res : Int) (hf : X9_mix p0 p2 = some res) : GO p l e rmX9_mix s m args below meth c K.1 vwCl (va_A WC s.heap.size) (MQ below (QC K.1 vwCl (some (ll res)) WC ([]) s.heap.size) args s 0 0 (va_A WC s.heap.size)) 3 0 0 0 [(0, ll p0), (2, ii p2)] [] ([]) := by
  rw [X9_mix] at hf
  refine g_ldc2 X 31 dX9_mix_0 wd_X9_mix_cl209 (by decide +kernel) ?_
  refine g_lload_n X dX9_mix_3 0 rfl rfl ?_
  refine g_lmul X dX9_mix_4 ?_
  refine g_iload_n X dX9_mix_5 1 rfl rfl ?_
  refine g_i2l X hf dX9_mix_6 (fun hf => ?_)
  refine g_ladd X dX9_mix_7 ?_
  cases hf
  exact g_lret X hr hlk dX9_mix_8
set_option maxHeartbeats 4000000 in
set_option maxRecDepth 100000 in
theorem X9_mix_ok (K : KE) (l : Launch) (p0 : Int) (p2 : Int) (res : Int) (hf : X9_mix p0 p2 = some res) : CT l K.1 vwCl (kT K) yX9_mix wsX9_mix rmX9_mix [ll p0, ii p2] (some (ll res)) ([]) ([]) :=
  CT.mk (cc := cX9_mix) (maxL := 3) (ret := (some .long)) (by decide) rfl (Nat.le_of_ble_eq_true rfl) (fun p e s m below meth c X hr hlk => X9_mix_go K l  _ X hr hlk p0 p2 res hf)
theorem iw_X1_copyFrom_X1 : ∀ w ∈ u_ws RX1 TX1 4, w ∈ wsX1_copyFrom := by decide +kernel
theorem fl_X1_copyFrom_15 : Cond.fieldLink RX1 15 (TX1 0).1 (TX1 0).2.1 (TX1 0).2.2.1 ∈ wsX1_copyFrom := by decide +kernel
def rmX1_copyFrom : Room := { frames := 2, cells := 0, slots := 0, locals := 49 }
def X1_copyFrom_L2 (kx : FT → Option (FT)) (cn0 : Nat) (cn1 : Nat) (V1 : FT) : Nat → Int → FT → Option (FT)
  | 0, _, _ => none
  | n + 1, y2, V0 => brLT y2 (cn0 : Int) ((X1_copyFunction cn0 cn1 V0 V1 y2 y2).bind (fun v1 => X1_copyFrom_L2 kx cn0 cn1 V1 n (y2 + 1) v1)) (kx V0)
def X1_copyFrom (cn0 : Nat) (cn1 : Nat) (V0 : FT) (V1 : FT) : Option (FT) := X1_copyFrom_L2 (fun w3 => some w3) cn0 cn1 V1 FU 0 V0
set_option maxHeartbeats 4000000 in
set_option maxRecDepth 100000 in
theorem X1_copyFrom_L2_ok (K : KE) (l : Launch) (cn0 : Nat) (cn1 : Nat) (hcn0 : cn0 ≤ 1000) (hcn1 : cn1 ≤ 1000) (a : Nat → Nat) (b : Nat → Nat) (WC : va_W) {p : Program} {e : Env} {s : State} {m : MethodId} {args : Array Value} {below : List Frame} {meth : Method} {c : Code} (X : CX p s m args c K.1 vwCl (kT K) (va_A WC s.heap.size) cX1_copyFrom 3 wsX1_copyFrom RX1) (hr : meth.sig.returnType = none) (hlk : meth.locks = false) (V1 : FT)  (res : FT) {kx : FT → Option (FT)} : ∀ (n : Nat) (y2 : Int) (V0 : FT), X1_copyFrom_L2 kx cn0 cn1 V1 n y2 V0 = some res → (∀ (V0z : FT), kx V0z = some res → GO p l e rmX1_copyFrom s m args below meth c K.1 vwCl (va_A WC s.heap.size) (MQ below (QC K.1 vwCl none WC (c1 K cn0 a res ++ (c1 K cn1 b V1)) s.heap.size) args s 0 0 (va_A WC s.heap.size)) 3 0 0 23 [] [] (c1 K cn0 a V0z ++ (c1 K cn1 b V1))) → GO p l e rmX1_copyFrom s m args below meth c K.1 vwCl (va_A WC s.heap.size) (MQ below (QC K.1 vwCl none WC (c1 K cn0 a res ++ (c1 K cn1 b V1)) s.heap.size) args s 0 0 (va_A WC s.heap.size)) 3 0 0 2 [(0, .ref (a 0)), (1, .ref (b 0)), (2, ii y2)] [] (c1 K cn0 a V0 ++ (c1 K cn1 b V1)) := by
  intro n
  induction n with
  | zero =>
    intro y2 V0 hf _
    rw [X1_copyFrom_L2] at hf
    cases hf
  | succ n ih =>
    intro y2 V0 hf hk
    rw [X1_copyFrom_L2] at hf
    refine g_iload_n X dX1_copyFrom_2 2 rfl rfl ?_
    refine g_aload_n X dX1_copyFrom_3 0 rfl rfl ?_
    refine g_get X (v := ii (cn0 : Int)) 0 0 dX1_copyFrom_4 rfl rfl iw_X1_copyFrom_X1 (by decide) fl_X1_copyFrom_15 rfl ?_
    refine g_icmp_ge X hf 23 dX1_copyFrom_7 (by decide) (fun hf => ?_) (fun hf => ?_)
    · refine g_aload_n X dX1_copyFrom_10 0 rfl rfl ?_
      refine g_iload_n X dX1_copyFrom_11 2 rfl rfl ?_
      refine g_aload_n X dX1_copyFrom_12 1 rfl rfl ?_
      refine g_iload_n X dX1_copyFrom_13 2 rfl rfl ?_
      obtain ⟨v1, hc2, hf⟩ := Option.bind_eq_some_iff.mp hf
      refine g_callV X (As := [ii y2, .ref (b 0), ii y2]) (st := []) (st1 := []) (ws' := c1 K cn0 a v1 ++ (c1 K cn1 b V1)) (X1_copyFunction_ok K l cn0 cn1 hcn0 hcn1 a b V0 V1 y2 y2 v1 hc2) gX1_copyFrom_X1_copyFunction rfl 3 (by decide +kernel) ⟨rfl, rfl⟩ ⟨Nat.le_of_ble_eq_true rfl, Nat.le_of_ble_eq_true rfl⟩ ⟨Nat.zero_le _, Nat.zero_le _⟩ 0 rfl rfl rfl rfl (Nat.le_of_ble_eq_true rfl) dX1_copyFrom_14 (SG.all rfl) rfl ?_
      refine g_iinc X (lv' := [(2, ii (y2 + 1)), (0, .ref (a 0)), (1, .ref (b 0))]) dX1_copyFrom_17 2 rfl (by decide) rfl ?_
      refine g_goto X 2 dX1_copyFrom_20 (by decide) ?_
      refine g_sub (lv' := [(0, .ref (a 0)), (1, .ref (b 0)), (2, ii (y2 + 1))]) [1, 2, 0] rfl ?_
      exact ih (y2 + 1) v1 hf hk
    · refine g_sub (lv' := []) [] rfl ?_
      exact hk V0 hf
set_option maxHeartbeats 4000000 in
set_option maxRecDepth 100000 in
theorem X1_copyFrom_go (K : KE) (l : Launch) (cn0 : Nat) (cn1 : Nat) (hcn0 : cn0 ≤ 1000) (hcn1 : cn1 ≤ 1000) (a : Nat → Nat) (b : Nat → Nat) (WC : va_W) {p : Program} {e : Env} {s : State} {m : MethodId} {args : Array Value} {below : List Frame} {meth : Method} {c : Code} (X : CX p s m args c K.1 vwCl (kT K) (va_A WC s.heap.size) cX1_copyFrom 3 wsX1_copyFrom RX1) (hr : meth.sig.returnType = none) (hlk : meth.locks = false) (V0 : FT) (V1 : FT) (res : FT) (hf : X1_copyFrom cn0 cn1 V0 V1 = some res) : GO p l e rmX1_copyFrom s m args below meth c K.1 vwCl (va_A WC s.heap.size) (MQ below (QC K.1 vwCl none WC (c1 K cn0 a res ++ (c1 K cn1 b V1)) s.heap.size) args s 0 0 (va_A WC s.heap.size)) 3 0 0 0 [(0, .ref (a 0)), (1, .ref (b 0))] [] (c1 K cn0 a V0 ++ (c1 K cn1 b V1)) := by
  rw [X1_copyFrom] at hf
  refine g_iconst X dX1_copyFrom_0 ?_
  refine g_istore_n X (lv' := [(2, ii 0), (0, .ref (a 0)), (1, .ref (b 0))]) dX1_copyFrom_1 rfl (by decide) rfl ?_
  refine g_sub (lv' := [(0, .ref (a 0)), (1, .ref (b 0)), (2, ii 0)]) [1, 2, 0] rfl ?_
  refine X1_copyFrom_L2_ok K l cn0 cn1 hcn0 hcn1 a b WC X hr hlk V1 res FU 0 V0 hf (fun w3 hf => ?_)
  cases hf
  exact g_vret X hr hlk dX1_copyFrom_23
set_option maxHeartbeats 4000000 in
set_option maxRecDepth 100000 in
theorem X1_copyFrom_ok (K : KE) (l : Launch) (cn0 : Nat) (cn1 : Nat) (hcn0 : cn0 ≤ 1000) (hcn1 : cn1 ≤ 1000) (a : Nat → Nat) (b : Nat → Nat) (V0 : FT) (V1 : FT) (res : FT) (hf : X1_copyFrom cn0 cn1 V0 V1 = some res) : CT l K.1 vwCl (kT K) yX1_copyFrom wsX1_copyFrom rmX1_copyFrom [.ref (a 0), .ref (b 0)] none (c1 K cn0 a V0 ++ (c1 K cn1 b V1)) (c1 K cn0 a res ++ (c1 K cn1 b V1)) :=
  CT.mk (cc := cX1_copyFrom) (maxL := 3) (ret := none) (by decide) rfl (Nat.le_of_ble_eq_true rfl) (fun p e s m below meth c X hr hlk => X1_copyFrom_go K l cn0 cn1 hcn0 hcn1 a b _ X hr hlk V0 V1 res hf)
theorem iw_X4_copyFrom_X4 : ∀ w ∈ u_ws RX4 TX4 3, w ∈ wsX4_copyFrom := by decide +kernel
theorem fl_X4_copyFrom_9 : Cond.fieldLink RX4 9 (TX4 0).1 (TX4 0).2.1 (TX4 0).2.2.1 ∈ wsX4_copyFrom := by decide +kernel
theorem wd_X4_copyFrom_ac35 : Cond.methodLink RX4 35 arraycopyName ∈ wsX4_copyFrom := by decide +kernel
theorem wd_X4_copyFrom_an : Cond.native arraycopyName ∈ wsX4_copyFrom := by decide +kernel
theorem wd_X4_copyFrom_as : Cond.static arraycopyName ∈ wsX4_copyFrom := by decide +kernel
theorem wd_X4_copyFrom_ai : Cond.initialized "java/lang/System" ∈ wsX4_copyFrom := by decide +kernel
theorem fl_X4_copyFrom_15 : Cond.fieldLink RX4 15 (TX4 1).1 (TX4 1).2.1 (TX4 1).2.2.1 ∈ wsX4_copyFrom := by decide +kernel
theorem fl_X4_copyFrom_18 : Cond.fieldLink RX4 18 (TX4 2).1 (TX4 2).2.1 (TX4 2).2.2.1 ∈ wsX4_copyFrom := by decide +kernel
def rmX4_copyFrom : Room := { frames := 1, cells := 0, slots := 0, locals := 26 }
def X4_copyFrom (V0 : Mp) (V1 : Mp) : Option (Mp) := cpK 6 6 V1.1 V0.1 0 0 6 (fun f1 => cpK 24 24 V1.2.1 V0.2.1 0 0 24 (fun f2 => cpK 24 24 V1.2.2 V0.2.2 0 0 24 (fun f3 => some (f1, f2, f3))))
set_option maxHeartbeats 4000000 in
set_option maxRecDepth 100000 in
theorem X4_copyFrom_go (K : KE) (l : Launch) (a : Nat → Nat) (b : Nat → Nat) (WC : va_W) {p : Program} {e : Env} {s : State} {m : MethodId} {args : Array Value} {below : List Frame} {meth : Method} {c : Code} (X : CX p s m args c K.1 vwCl (kT K) (va_A WC s.heap.size) cX4_copyFrom 2 wsX4_copyFrom RX4) (hr : meth.sig.returnType = none) (hlk : meth.locks = false) (V0 : Mp) (V1 : Mp) (res : Mp) (hf : X4_copyFrom V0 V1 = some res) : GO p l e rmX4_copyFrom s m args below meth c K.1 vwCl (va_A WC s.heap.size) (MQ below (QC K.1 vwCl none WC (c4 K a res ++ (c4 K b V1)) s.heap.size) args s 0 0 (va_A WC s.heap.size)) 2 0 0 0 [(0, .ref (a 0)), (1, .ref (b 0))] [] (c4 K a V0 ++ (c4 K b V1)) := by
  rw [X4_copyFrom] at hf
  refine g_aload_n X dX4_copyFrom_0 1 rfl rfl ?_
  refine g_get X (v := .ref (b 1)) 4 0 dX4_copyFrom_1 rfl rfl iw_X4_copyFrom_X4 (by decide) fl_X4_copyFrom_9 rfl ?_
  refine g_iconst X dX4_copyFrom_4 ?_
  refine g_aload_n X dX4_copyFrom_5 0 rfl rfl ?_
  refine g_get X (v := .ref (a 1)) 0 0 dX4_copyFrom_6 rfl rfl iw_X4_copyFrom_X4 (by decide) fl_X4_copyFrom_9 rfl ?_
  refine g_iconst X dX4_copyFrom_9 ?_
  refine g_bipush X dX4_copyFrom_10 (by decide +kernel) ?_
  refine g_copy X hf (by decide) (by decide) wd_X4_copyFrom_ac35 wd_X4_copyFrom_an wd_X4_copyFrom_as wd_X4_copyFrom_ai 5 1 0 0 rfl rfl rfl rfl ⟨Nat.le_of_ble_eq_true rfl, Nat.le_of_ble_eq_true rfl⟩ dX4_copyFrom_12 (fun f1 => c4 K a (f1, V0.2.1, V0.2.2) ++ (c4 K b V1)) (fun _ => rfl) (fun f1 hf => ?_)
  refine g_aload_n X dX4_copyFrom_15 1 rfl rfl ?_
  refine g_get X (v := .ref (b 2)) 4 1 dX4_copyFrom_16 rfl rfl iw_X4_copyFrom_X4 (by decide) fl_X4_copyFrom_15 rfl ?_
  refine g_iconst X dX4_copyFrom_19 ?_
  refine g_aload_n X dX4_copyFrom_20 0 rfl rfl ?_
  refine g_get X (v := .ref (a 2)) 0 1 dX4_copyFrom_21 rfl rfl iw_X4_copyFrom_X4 (by decide) fl_X4_copyFrom_15 rfl ?_
  refine g_iconst X dX4_copyFrom_24 ?_
  refine g_bipush X dX4_copyFrom_25 (by decide +kernel) ?_
  refine g_copy X hf (by decide) (by decide) wd_X4_copyFrom_ac35 wd_X4_copyFrom_an wd_X4_copyFrom_as wd_X4_copyFrom_ai 6 2 0 0 rfl rfl rfl rfl ⟨Nat.le_of_ble_eq_true rfl, Nat.le_of_ble_eq_true rfl⟩ dX4_copyFrom_27 (fun f2 => c4 K a (f1, f2, V0.2.2) ++ (c4 K b V1)) (fun _ => rfl) (fun f2 hf => ?_)
  refine g_aload_n X dX4_copyFrom_30 1 rfl rfl ?_
  refine g_get X (v := .ref (b 3)) 4 2 dX4_copyFrom_31 rfl rfl iw_X4_copyFrom_X4 (by decide) fl_X4_copyFrom_18 rfl ?_
  refine g_iconst X dX4_copyFrom_34 ?_
  refine g_aload_n X dX4_copyFrom_35 0 rfl rfl ?_
  refine g_get X (v := .ref (a 3)) 0 2 dX4_copyFrom_36 rfl rfl iw_X4_copyFrom_X4 (by decide) fl_X4_copyFrom_18 rfl ?_
  refine g_iconst X dX4_copyFrom_39 ?_
  refine g_bipush X dX4_copyFrom_40 (by decide +kernel) ?_
  refine g_copy X hf (by decide) (by decide) wd_X4_copyFrom_ac35 wd_X4_copyFrom_an wd_X4_copyFrom_as wd_X4_copyFrom_ai 7 3 0 0 rfl rfl rfl rfl ⟨Nat.le_of_ble_eq_true rfl, Nat.le_of_ble_eq_true rfl⟩ dX4_copyFrom_42 (fun f3 => c4 K a (f1, f2, f3) ++ (c4 K b V1)) (fun _ => rfl) (fun f3 hf => ?_)
  cases hf
  exact g_vret X hr hlk dX4_copyFrom_45
set_option maxHeartbeats 4000000 in
set_option maxRecDepth 100000 in
theorem X4_copyFrom_ok (K : KE) (l : Launch) (a : Nat → Nat) (b : Nat → Nat) (V0 : Mp) (V1 : Mp) (res : Mp) (hf : X4_copyFrom V0 V1 = some res) : CT l K.1 vwCl (kT K) yX4_copyFrom wsX4_copyFrom rmX4_copyFrom [.ref (a 0), .ref (b 0)] none (c4 K a V0 ++ (c4 K b V1)) (c4 K a res ++ (c4 K b V1)) :=
  CT.mk (cc := cX4_copyFrom) (maxL := 2) (ret := none) (by decide) rfl (Nat.le_of_ble_eq_true rfl) (fun p e s m below meth c X hr hlk => X4_copyFrom_go K l a b _ X hr hlk V0 V1 res hf)
