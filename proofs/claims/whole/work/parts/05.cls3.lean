theorem iw_X5_replaceSite_X5 : ∀ w ∈ u_ws RX5 TX5 3, w ∈ wsX5_replaceSite := by decide +kernel
theorem fl_X5_replaceSite_12 : Cond.fieldLink RX5 12 (TX5 0).1 (TX5 0).2.1 (TX5 0).2.2.1 ∈ wsX5_replaceSite := by decide +kernel
theorem iw_X5_replaceSite_X6 : ∀ w ∈ u_ws RX6 TX6 4, w ∈ wsX5_replaceSite := by decide +kernel
theorem fl_X5_replaceSite_31 : Cond.fieldLink RX5 31 (TX6 0).1 (TX6 0).2.1 (TX6 0).2.2.1 ∈ wsX5_replaceSite := by decide +kernel
theorem iw_X5_replaceSite_X8 : ∀ w ∈ u_ws RX8 TX8 9, w ∈ wsX5_replaceSite := by decide +kernel
theorem fl_X5_replaceSite_86 : Cond.fieldLink RX5 86 (TX8 6).1 (TX8 6).2.1 (TX8 6).2.2.1 ∈ wsX5_replaceSite := by decide +kernel
theorem ne_X5_replaceSite_133 : (RX5, 133, yX9_isSource) ∈ nestL := by decide +kernel
theorem wd_X5_replaceSite_ini9 : Cond.initialized yX9_isSource.cls ∈ wsX5_replaceSite := by decide +kernel
theorem wd_X5_replaceSite_sta_X9_isSource : Cond.static yX9_isSource ∈ wsX5_replaceSite := by decide +kernel
theorem fl_X5_replaceSite_26 : Cond.fieldLink RX5 26 (TX8 7).1 (TX8 7).2.1 (TX8 7).2.2.1 ∈ wsX5_replaceSite := by decide +kernel
theorem fl_X5_replaceSite_18 : Cond.fieldLink RX5 18 (TX5 1).1 (TX5 1).2.1 (TX5 1).2.2.1 ∈ wsX5_replaceSite := by decide +kernel
def rmX5_replaceSite : Room := { frames := 3, cells := 0, slots := 0, locals := 76 }
def X5_replaceSite_L30 (kx : Mv → Option (St × Mv)) (V0 : St) (x2 : Int) (x3 : Int) (x4 : Int) : Nat → Int → Mv → Option (St × Mv)
  | 0, _, _ => none
  | n + 1, y5, V1 => brLT y5 x4 ((X4_sourceAt V0.2.2.2.2.2.2.1 x3 y5).bind (fun v5 => (X9_isSource v5).bind (fun v7 => ltK (fun q9 : Mv => X5_replaceSite_L30 kx V0 x2 x3 x4 n (y5 + 1) q9) (fun j10 => brEQ v7 0 ((X4_constantAt V0.2.2.2.2.2.2.1 x3 y5).bind (fun v11 => (X6_add V1.1 0 v11 0).bind (fun w13 => j10 (w13.2, V1.2.1, V1.2.2)))) (rdK 4 V1.2.1 v5 (fun v15 => rdK 4 V1.2.1 (v5 + 1) (fun v16 => (X6_addNodes V1.1 V0.2.2.2.2.2.2.2.1 v15 v16).bind (fun v17 => j10 (v17, V1.2.1, V1.2.2))))))))) (kx V1)
def X5_replaceSite (V0 : St) (V1 : Mv) (p2 : Int) (p3 : Int) (p4 : Int) : Option (St × Mv) := (X4_targetOf V0.2.2.2.2.2.2.1 p3).bind (fun v1 => (X6_add (0, V1.1.2.1, V1.1.2.2.1, V1.1.2.2.2) 3 v1 p4).bind (fun w3 => X5_replaceSite_L30 (fun w19 => (X6_endOf V0.2.2.2.2.2.2.2.1 p2).bind (fun v20 => (X6_replace V0.2.2.2.2.2.2.2.1 w19.1 p2 v20).bind (fun v22 => some ((V0.1, V0.2.1, V0.2.2.1, V0.2.2.2.1, V0.2.2.2.2.1, V0.2.2.2.2.2.1, V0.2.2.2.2.2.2.1, v22, V0.2.2.2.2.2.2.2.2), w19)))) V0 p2 p3 p4 FU 0 (w3.2, V1.2.1, V1.2.2)))
set_option maxHeartbeats 4000000 in
set_option maxRecDepth 100000 in
theorem X5_replaceSite_L30_ok (K : KE) (l : Launch) (a : Nat → Nat) (b : Nat → Nat) (WC : va_W) {p : Program} {e : Env} {s : State} {m : MethodId} {args : Array Value} {below : List Frame} {meth : Method} {c : Code} (X : CX p s m args c K.1 vwCl (kT K) (va_A WC s.heap.size) cX5_replaceSite 7 wsX5_replaceSite RX5) (hr : meth.sig.returnType = none) (hlk : meth.locks = false) (V0 : St) (x2 : Int) (x3 : Int) (x4 : Int) (res : St × Mv) {kx : Mv → Option (St × Mv)} : ∀ (n : Nat) (y5 : Int) (V1 : Mv), X5_replaceSite_L30 kx V0 x2 x3 x4 n y5 V1 = some res → (∀ (V1z : Mv), kx V1z = some res → GO p l e rmX5_replaceSite s m args below meth c K.1 vwCl (va_A WC s.heap.size) (MQ below (QC K.1 vwCl none WC (c8 K a res.1 ++ (c5 K b res.2)) s.heap.size) args s 0 0 (va_A WC s.heap.size)) 7 0 0 113 [(0, .ref (b 0)), (1, .ref (a 0)), (2, ii x2)] [] (c8 K a V0 ++ (c5 K b V1z))) → GO p l e rmX5_replaceSite s m args below meth c K.1 vwCl (va_A WC s.heap.size) (MQ below (QC K.1 vwCl none WC (c8 K a res.1 ++ (c5 K b res.2)) s.heap.size) args s 0 0 (va_A WC s.heap.size)) 7 0 0 30 [(0, .ref (b 0)), (1, .ref (a 0)), (2, ii x2), (3, ii x3), (4, ii x4), (5, ii y5)] [] (c8 K a V0 ++ (c5 K b V1)) := by
  intro n
  induction n with
  | zero =>
    intro y5 V1 hf _
    rw [X5_replaceSite_L30] at hf
    cases hf
  | succ n ih =>
    intro y5 V1 hf hk
    rw [X5_replaceSite_L30] at hf
    refine g_iload X dX5_replaceSite_30 5 rfl ?_
    refine g_iload X dX5_replaceSite_32 4 rfl ?_
    refine g_icmp_ge X hf 113 dX5_replaceSite_34 (by decide) (fun hf => ?_) (fun hf => ?_)
    · refine g_aload_n X dX5_replaceSite_37 1 rfl rfl ?_
      refine g_get X (v := .ref (ash a 14 0)) 0 6 dX5_replaceSite_38 rfl rfl iw_X5_replaceSite_X8 (by decide) fl_X5_replaceSite_86 rfl ?_
      refine g_iload_n X dX5_replaceSite_41 3 rfl rfl ?_
      refine g_iload X dX5_replaceSite_42 5 rfl ?_
      obtain ⟨v5, hc6, hf⟩ := Option.bind_eq_some_iff.mp hf
      refine g_callV X (As := [ii x3, ii y5]) (st := []) (st1 := [ii v5]) (ws' := c8 K a V0 ++ (c5 K b V1)) (X4_sourceAt_ok K l (ash a 14) V0.2.2.2.2.2.2.1 x3 y5 v5 hc6) gX5_replaceSite_X4_sourceAt rfl 2 (by decide +kernel) ⟨rfl, rfl⟩ ⟨Nat.le_of_ble_eq_true rfl, Nat.le_of_ble_eq_true rfl⟩ ⟨Nat.zero_le _, Nat.zero_le _⟩ 14 rfl rfl rfl rfl (Nat.le_of_ble_eq_true rfl) dX5_replaceSite_44 (SG.one ([(a 0, .inr (8, [.ref (ash a 1 0), .ref (ash a 5 0), .ref (ash a 9 0), ii V0.2.2.2.1, .ref (a 13), ii V0.2.2.2.2.2.1, .ref (ash a 14 0), .ref (ash a 18 0), .ref (a 22)]))] ++ (c1 K 6 (ash a 1) V0.1 ++ (c1 K 6 (ash a 5) V0.2.1 ++ (c1 K 4 (ash a 9) V0.2.2.1 ++ ([(a 13, .inl (K.2.1, 6, .inl (arI V0.2.2.2.2.1)))]))))) (c6 K (ash a 18) V0.2.2.2.2.2.2.2.1 ++ ([(a 22, .inl (K.2.1, 8, .inl (arI V0.2.2.2.2.2.2.2.2)))] ++ (c5 K b V1))) rfl rfl rfl) rfl ?_
      refine g_istore X (lv' := [(6, ii v5), (0, .ref (b 0)), (1, .ref (a 0)), (2, ii x2), (3, ii x3), (4, ii x4), (5, ii y5)]) dX5_replaceSite_47 (by decide) rfl ?_
      refine g_iload X dX5_replaceSite_49 0 rfl ?_
      obtain ⟨v7, hc8, hf⟩ := Option.bind_eq_some_iff.mp hf
      refine g_callSN X (As := [ii v5]) (st := []) (st1 := [ii v7]) (ws' := c8 K a V0 ++ (c5 K b V1)) (X9_isSource_ok K l v5 v7 hc8) ggX5_replaceSite_X9_isSource ne_X5_replaceSite_133 wd_X5_replaceSite_ini9 wd_X5_replaceSite_sta_X9_isSource rfl 1 (by decide +kernel) ⟨rfl, rfl⟩ ⟨Nat.le_of_ble_eq_true rfl, Nat.le_of_ble_eq_true rfl⟩ ⟨Nat.zero_le _, Nat.zero_le _⟩ rfl rfl (Nat.le_of_ble_eq_true rfl) dX5_replaceSite_51 SG.none rfl ?_
      refine g_let (G := fun q9 : Mv => GO p l e rmX5_replaceSite s m args below meth c K.1 vwCl (va_A WC s.heap.size) (MQ below (QC K.1 vwCl none WC (c8 K a res.1 ++ (c5 K b res.2)) s.heap.size) args s 0 0 (va_A WC s.heap.size)) 7 0 0 107 [(0, .ref (b 0)), (1, .ref (a 0)), (2, ii x2), (3, ii x3), (4, ii x4), (5, ii y5)] [] (c8 K a V0 ++ (c5 K b q9))) hf (fun q9 hf => ?_) (fun j10 hj10 hf => ?_)
      · refine g_iinc X (lv' := [(5, ii (y5 + 1)), (0, .ref (b 0)), (1, .ref (a 0)), (2, ii x2), (3, ii x3), (4, ii x4)]) dX5_replaceSite_107 5 rfl (by decide) rfl ?_
        refine g_goto X 30 dX5_replaceSite_110 (by decide) ?_
        refine g_sub (lv' := [(0, .ref (b 0)), (1, .ref (a 0)), (2, ii x2), (3, ii x3), (4, ii x4), (5, ii (y5 + 1))]) [1, 2, 3, 4, 5, 0] rfl ?_
        exact ih (y5 + 1) q9 hf hk
      · refine g_if_eq X hf 87 dX5_replaceSite_54 (by decide) (fun hf => ?_) (fun hf => ?_)
        · refine g_aload_n X dX5_replaceSite_87 1 rfl rfl ?_
          refine g_get X (v := .ref (ash b 1 0)) 23 0 dX5_replaceSite_88 rfl rfl iw_X5_replaceSite_X5 (by decide) fl_X5_replaceSite_12 rfl ?_
          refine g_iconst X dX5_replaceSite_91 ?_
          refine g_aload_n X dX5_replaceSite_92 2 rfl rfl ?_
          refine g_get X (v := .ref (ash a 14 0)) 0 6 dX5_replaceSite_93 rfl rfl iw_X5_replaceSite_X8 (by decide) fl_X5_replaceSite_86 rfl ?_
          refine g_iload_n X dX5_replaceSite_96 4 rfl rfl ?_
          refine g_iload X dX5_replaceSite_97 6 rfl ?_
          obtain ⟨v11, hc12, hf⟩ := Option.bind_eq_some_iff.mp hf
          refine g_callV X (As := [ii x3, ii y5]) (st := [ii 0, .ref (ash b 1 0)]) (st1 := [ii v11, ii 0, .ref (ash b 1 0)]) (ws' := c8 K a V0 ++ (c5 K b V1)) (X4_constantAt_ok K l (ash a 14) V0.2.2.2.2.2.2.1 x3 y5 v11 hc12) gX5_replaceSite_X4_constantAt rfl 2 (by decide +kernel) ⟨rfl, rfl⟩ ⟨Nat.le_of_ble_eq_true rfl, Nat.le_of_ble_eq_true rfl⟩ ⟨Nat.zero_le _, Nat.zero_le _⟩ 14 rfl rfl rfl rfl (Nat.le_of_ble_eq_true rfl) dX5_replaceSite_99 (SG.one ([(a 0, .inr (8, [.ref (ash a 1 0), .ref (ash a 5 0), .ref (ash a 9 0), ii V0.2.2.2.1, .ref (a 13), ii V0.2.2.2.2.2.1, .ref (ash a 14 0), .ref (ash a 18 0), .ref (a 22)]))] ++ (c1 K 6 (ash a 1) V0.1 ++ (c1 K 6 (ash a 5) V0.2.1 ++ (c1 K 4 (ash a 9) V0.2.2.1 ++ ([(a 13, .inl (K.2.1, 6, .inl (arI V0.2.2.2.2.1)))]))))) (c6 K (ash a 18) V0.2.2.2.2.2.2.2.1 ++ ([(a 22, .inl (K.2.1, 8, .inl (arI V0.2.2.2.2.2.2.2.2)))] ++ (c5 K b V1))) rfl rfl rfl) rfl ?_
          refine g_iconst X dX5_replaceSite_102 ?_
          obtain ⟨w13, hc14, hf⟩ := Option.bind_eq_some_iff.mp hf
          refine g_callV X (As := [ii 0, ii v11, ii 0]) (st := []) (st1 := [ii w13.1]) (ws' := c8 K a V0 ++ (c5 K b (w13.2, V1.2.1, V1.2.2))) (X6_add_ok K l (ash b 1) V1.1 0 v11 0 w13 hc14) gX5_replaceSite_X6_add rfl 3 (by decide +kernel) ⟨rfl, rfl⟩ ⟨Nat.le_of_ble_eq_true rfl, Nat.le_of_ble_eq_true rfl⟩ ⟨Nat.zero_le _, Nat.zero_le _⟩ 24 rfl rfl rfl rfl (Nat.le_of_ble_eq_true rfl) dX5_replaceSite_103 (SG.one (c8 K a V0 ++ ([(b 0, .inr (5, [.ref (ash b 1 0), .ref (b 5), .ref (b 6)]))])) ([(b 5, .inl (K.2.1, 4, .inl (arI V1.2.1)))] ++ ([(b 6, .inl (K.2.2.1, 3, .inl (arI V1.2.2)))])) rfl rfl rfl) rfl ?_
          refine g_pop X dX5_replaceSite_106 rfl ?_
          refine g_sub (lv' := [(0, .ref (b 0)), (1, .ref (a 0)), (2, ii x2), (3, ii x3), (4, ii x4), (5, ii y5)]) [1, 2, 3, 4, 5, 6] rfl ?_
          exact hj10 (w13.2, V1.2.1, V1.2.2) hf
        · refine g_aload_n X dX5_replaceSite_57 1 rfl rfl ?_
          refine g_get X (v := .ref (ash b 1 0)) 23 0 dX5_replaceSite_58 rfl rfl iw_X5_replaceSite_X5 (by decide) fl_X5_replaceSite_12 rfl ?_
          refine g_aload_n X dX5_replaceSite_61 2 rfl rfl ?_
          refine g_get X (v := .ref (ash a 18 0)) 0 7 dX5_replaceSite_62 rfl rfl iw_X5_replaceSite_X8 (by decide) fl_X5_replaceSite_26 rfl ?_
          refine g_aload_n X dX5_replaceSite_65 1 rfl rfl ?_
          refine g_get X (v := .ref (b 5)) 23 1 dX5_replaceSite_66 rfl rfl iw_X5_replaceSite_X5 (by decide) fl_X5_replaceSite_18 rfl ?_
          refine g_iload X dX5_replaceSite_69 0 rfl ?_
          refine g_iald X hf (by decide) 28 0 dX5_replaceSite_71 rfl rfl (fun v15 hf => ?_)
          refine g_aload_n X dX5_replaceSite_72 1 rfl rfl ?_
          refine g_get X (v := .ref (b 5)) 23 1 dX5_replaceSite_73 rfl rfl iw_X5_replaceSite_X5 (by decide) fl_X5_replaceSite_18 rfl ?_
          refine g_iload X dX5_replaceSite_76 0 rfl ?_
          refine g_iconst X dX5_replaceSite_78 ?_
          refine g_iadd X dX5_replaceSite_79 ?_
          refine g_iald X hf (by decide) 28 0 dX5_replaceSite_80 rfl rfl (fun v16 hf => ?_)
          obtain ⟨v17, hc18, hf⟩ := Option.bind_eq_some_iff.mp hf
          refine g_callV X (As := [.ref (ash a 18 0), ii v15, ii v16]) (st := []) (st1 := []) (ws' := c8 K a V0 ++ (c5 K b (v17, V1.2.1, V1.2.2))) (X6_addNodes_ok K l (ash b 1) (ash a 18) V1.1 V0.2.2.2.2.2.2.2.1 v15 v16 v17 hc18) gX5_replaceSite_X6_addNodes rfl 3 (by decide +kernel) ⟨rfl, rfl⟩ ⟨Nat.le_of_ble_eq_true rfl, Nat.le_of_ble_eq_true rfl⟩ ⟨Nat.zero_le _, Nat.zero_le _⟩ 24 rfl rfl rfl rfl (Nat.le_of_ble_eq_true rfl) dX5_replaceSite_81 (SG.swap rfl rfl (SG.two ([(a 0, .inr (8, [.ref (ash a 1 0), .ref (ash a 5 0), .ref (ash a 9 0), ii V0.2.2.2.1, .ref (a 13), ii V0.2.2.2.2.2.1, .ref (ash a 14 0), .ref (ash a 18 0), .ref (a 22)]))] ++ (c1 K 6 (ash a 1) V0.1 ++ (c1 K 6 (ash a 5) V0.2.1 ++ (c1 K 4 (ash a 9) V0.2.2.1 ++ ([(a 13, .inl (K.2.1, 6, .inl (arI V0.2.2.2.2.1)))] ++ (c4 K (ash a 14) V0.2.2.2.2.2.2.1)))))) ([(a 22, .inl (K.2.1, 8, .inl (arI V0.2.2.2.2.2.2.2.2)))] ++ ([(b 0, .inr (5, [.ref (ash b 1 0), .ref (b 5), .ref (b 6)]))])) ([(b 5, .inl (K.2.1, 4, .inl (arI V1.2.1)))] ++ ([(b 6, .inl (K.2.2.1, 3, .inl (arI V1.2.2)))])) rfl rfl rfl)) rfl ?_
          refine g_goto X 107 dX5_replaceSite_84 (by decide) ?_
          refine g_sub (lv' := [(0, .ref (b 0)), (1, .ref (a 0)), (2, ii x2), (3, ii x3), (4, ii x4), (5, ii y5)]) [1, 2, 3, 4, 5, 6] rfl ?_
          exact hj10 (v17, V1.2.1, V1.2.2) hf
    · refine g_sub (lv' := [(0, .ref (b 0)), (1, .ref (a 0)), (2, ii x2)]) [0, 1, 2] rfl ?_
      exact hk V1 hf
set_option maxHeartbeats 4000000 in
set_option maxRecDepth 100000 in
theorem X5_replaceSite_go (K : KE) (l : Launch) (a : Nat → Nat) (b : Nat → Nat) (WC : va_W) {p : Program} {e : Env} {s : State} {m : MethodId} {args : Array Value} {below : List Frame} {meth : Method} {c : Code} (X : CX p s m args c K.1 vwCl (kT K) (va_A WC s.heap.size) cX5_replaceSite 7 wsX5_replaceSite RX5) (hr : meth.sig.returnType = none) (hlk : meth.locks = false) (V0 : St) (V1 : Mv) (p2 : Int) (p3 : Int) (p4 : Int) (res : St × Mv) (hf : X5_replaceSite V0 V1 p2 p3 p4 = some res) : GO p l e rmX5_replaceSite s m args below meth c K.1 vwCl (va_A WC s.heap.size) (MQ below (QC K.1 vwCl none WC (c8 K a res.1 ++ (c5 K b res.2)) s.heap.size) args s 0 0 (va_A WC s.heap.size)) 7 0 0 0 [(0, .ref (b 0)), (1, .ref (a 0)), (2, ii p2), (3, ii p3), (4, ii p4)] [] (c8 K a V0 ++ (c5 K b V1)) := by
  rw [X5_replaceSite] at hf
  refine g_aload_n X dX5_replaceSite_0 0 rfl rfl ?_
  refine g_get X (v := .ref (ash b 1 0)) 23 0 dX5_replaceSite_1 rfl rfl iw_X5_replaceSite_X5 (by decide) fl_X5_replaceSite_12 rfl ?_
  refine g_iconst X dX5_replaceSite_4 ?_
  refine g_puti X 24 0 dX5_replaceSite_5 rfl rfl iw_X5_replaceSite_X6 tyX6_ok nmX6 (by decide) fl_X5_replaceSite_31 rfl rfl (Nat.le_of_ble_eq_true rfl) (ws' := c8 K a V0 ++ (c5 K b ((0, V1.1.2.1, V1.1.2.2.1, V1.1.2.2.2), V1.2.1, V1.2.2))) rfl ?_
  refine g_aload_n X dX5_replaceSite_8 0 rfl rfl ?_
  refine g_get X (v := .ref (ash b 1 0)) 23 0 dX5_replaceSite_9 rfl rfl iw_X5_replaceSite_X5 (by decide) fl_X5_replaceSite_12 rfl ?_
  refine g_iconst X dX5_replaceSite_12 ?_
  refine g_aload_n X dX5_replaceSite_13 1 rfl rfl ?_
  refine g_get X (v := .ref (ash a 14 0)) 0 6 dX5_replaceSite_14 rfl rfl iw_X5_replaceSite_X8 (by decide) fl_X5_replaceSite_86 rfl ?_
  refine g_iload_n X dX5_replaceSite_17 3 rfl rfl ?_
  obtain ⟨v1, hc2, hf⟩ := Option.bind_eq_some_iff.mp hf
  refine g_callV X (As := [ii p3]) (st := [ii 3, .ref (ash b 1 0)]) (st1 := [ii v1, ii 3, .ref (ash b 1 0)]) (ws' := c8 K a V0 ++ (c5 K b ((0, V1.1.2.1, V1.1.2.2.1, V1.1.2.2.2), V1.2.1, V1.2.2))) (X4_targetOf_ok K l (ash a 14) V0.2.2.2.2.2.2.1 p3 v1 hc2) gX5_replaceSite_X4_targetOf rfl 1 (by decide +kernel) ⟨rfl, rfl⟩ ⟨Nat.le_of_ble_eq_true rfl, Nat.le_of_ble_eq_true rfl⟩ ⟨Nat.zero_le _, Nat.zero_le _⟩ 14 rfl rfl rfl rfl (Nat.le_of_ble_eq_true rfl) dX5_replaceSite_18 (SG.one ([(a 0, .inr (8, [.ref (ash a 1 0), .ref (ash a 5 0), .ref (ash a 9 0), ii V0.2.2.2.1, .ref (a 13), ii V0.2.2.2.2.2.1, .ref (ash a 14 0), .ref (ash a 18 0), .ref (a 22)]))] ++ (c1 K 6 (ash a 1) V0.1 ++ (c1 K 6 (ash a 5) V0.2.1 ++ (c1 K 4 (ash a 9) V0.2.2.1 ++ ([(a 13, .inl (K.2.1, 6, .inl (arI V0.2.2.2.2.1)))]))))) (c6 K (ash a 18) V0.2.2.2.2.2.2.2.1 ++ ([(a 22, .inl (K.2.1, 8, .inl (arI V0.2.2.2.2.2.2.2.2)))] ++ (c5 K b ((0, V1.1.2.1, V1.1.2.2.1, V1.1.2.2.2), V1.2.1, V1.2.2)))) rfl rfl rfl) rfl ?_
  refine g_iload X dX5_replaceSite_21 4 rfl ?_
  obtain ⟨w3, hc4, hf⟩ := Option.bind_eq_some_iff.mp hf
  refine g_callV X (As := [ii 3, ii v1, ii p4]) (st := []) (st1 := [ii w3.1]) (ws' := c8 K a V0 ++ (c5 K b (w3.2, V1.2.1, V1.2.2))) (X6_add_ok K l (ash b 1) (0, V1.1.2.1, V1.1.2.2.1, V1.1.2.2.2) 3 v1 p4 w3 hc4) gX5_replaceSite_X6_add rfl 3 (by decide +kernel) ⟨rfl, rfl⟩ ⟨Nat.le_of_ble_eq_true rfl, Nat.le_of_ble_eq_true rfl⟩ ⟨Nat.zero_le _, Nat.zero_le _⟩ 24 rfl rfl rfl rfl (Nat.le_of_ble_eq_true rfl) dX5_replaceSite_23 (SG.one (c8 K a V0 ++ ([(b 0, .inr (5, [.ref (ash b 1 0), .ref (b 5), .ref (b 6)]))])) ([(b 5, .inl (K.2.1, 4, .inl (arI V1.2.1)))] ++ ([(b 6, .inl (K.2.2.1, 3, .inl (arI V1.2.2)))])) rfl rfl rfl) rfl ?_
  refine g_pop X dX5_replaceSite_26 rfl ?_
  refine g_iconst X dX5_replaceSite_27 ?_
  refine g_istore X (lv' := [(5, ii 0), (0, .ref (b 0)), (1, .ref (a 0)), (2, ii p2), (3, ii p3), (4, ii p4)]) dX5_replaceSite_28 (by decide) rfl ?_
  refine g_sub (lv' := [(0, .ref (b 0)), (1, .ref (a 0)), (2, ii p2), (3, ii p3), (4, ii p4), (5, ii 0)]) [1, 2, 3, 4, 5, 0] rfl ?_
  refine X5_replaceSite_L30_ok K l a b WC X hr hlk V0 p2 p3 p4 res FU 0 (w3.2, V1.2.1, V1.2.2) hf (fun w19 hf => ?_)
  refine g_aload_n X dX5_replaceSite_113 1 rfl rfl ?_
  refine g_get X (v := .ref (ash a 18 0)) 0 7 dX5_replaceSite_114 rfl rfl iw_X5_replaceSite_X8 (by decide) fl_X5_replaceSite_26 rfl ?_
  refine g_iload_n X dX5_replaceSite_117 2 rfl rfl ?_
  refine g_aload_n X dX5_replaceSite_118 1 rfl rfl ?_
  refine g_get X (v := .ref (ash a 18 0)) 0 7 dX5_replaceSite_119 rfl rfl iw_X5_replaceSite_X8 (by decide) fl_X5_replaceSite_26 rfl ?_
  refine g_iload_n X dX5_replaceSite_122 2 rfl rfl ?_
  obtain ⟨v20, hc21, hf⟩ := Option.bind_eq_some_iff.mp hf
  refine g_callV X (As := [ii p2]) (st := [ii p2, .ref (ash a 18 0)]) (st1 := [ii v20, ii p2, .ref (ash a 18 0)]) (ws' := c8 K a V0 ++ (c5 K b w19)) (X6_endOf_ok K l (ash a 18) V0.2.2.2.2.2.2.2.1 p2 v20 hc21) gX5_replaceSite_X6_endOf rfl 1 (by decide +kernel) ⟨rfl, rfl⟩ ⟨Nat.le_of_ble_eq_true rfl, Nat.le_of_ble_eq_true rfl⟩ ⟨Nat.zero_le _, Nat.zero_le _⟩ 18 rfl rfl rfl rfl (Nat.le_of_ble_eq_true rfl) dX5_replaceSite_123 (SG.one ([(a 0, .inr (8, [.ref (ash a 1 0), .ref (ash a 5 0), .ref (ash a 9 0), ii V0.2.2.2.1, .ref (a 13), ii V0.2.2.2.2.2.1, .ref (ash a 14 0), .ref (ash a 18 0), .ref (a 22)]))] ++ (c1 K 6 (ash a 1) V0.1 ++ (c1 K 6 (ash a 5) V0.2.1 ++ (c1 K 4 (ash a 9) V0.2.2.1 ++ ([(a 13, .inl (K.2.1, 6, .inl (arI V0.2.2.2.2.1)))] ++ (c4 K (ash a 14) V0.2.2.2.2.2.2.1)))))) ([(a 22, .inl (K.2.1, 8, .inl (arI V0.2.2.2.2.2.2.2.2)))] ++ (c5 K b w19)) rfl rfl rfl) rfl ?_
  refine g_aload_n X dX5_replaceSite_126 0 rfl rfl ?_
  refine g_get X (v := .ref (ash b 1 0)) 23 0 dX5_replaceSite_127 rfl rfl iw_X5_replaceSite_X5 (by decide) fl_X5_replaceSite_12 rfl ?_
  obtain ⟨v22, hc23, hf⟩ := Option.bind_eq_some_iff.mp hf
  refine g_callV X (As := [ii p2, ii v20, .ref (ash b 1 0)]) (st := []) (st1 := []) (ws' := c8 K a (V0.1, V0.2.1, V0.2.2.1, V0.2.2.2.1, V0.2.2.2.2.1, V0.2.2.2.2.2.1, V0.2.2.2.2.2.2.1, v22, V0.2.2.2.2.2.2.2.2) ++ (c5 K b w19)) (X6_replace_ok K l (ash a 18) (ash b 1) V0.2.2.2.2.2.2.2.1 w19.1 p2 v20 v22 hc23) gX5_replaceSite_X6_replace rfl 3 (by decide +kernel) ⟨rfl, rfl⟩ ⟨Nat.le_of_ble_eq_true rfl, Nat.le_of_ble_eq_true rfl⟩ ⟨Nat.zero_le _, Nat.zero_le _⟩ 18 rfl rfl rfl rfl (Nat.le_of_ble_eq_true rfl) dX5_replaceSite_130 (SG.two ([(a 0, .inr (8, [.ref (ash a 1 0), .ref (ash a 5 0), .ref (ash a 9 0), ii V0.2.2.2.1, .ref (a 13), ii V0.2.2.2.2.2.1, .ref (ash a 14 0), .ref (ash a 18 0), .ref (a 22)]))] ++ (c1 K 6 (ash a 1) V0.1 ++ (c1 K 6 (ash a 5) V0.2.1 ++ (c1 K 4 (ash a 9) V0.2.2.1 ++ ([(a 13, .inl (K.2.1, 6, .inl (arI V0.2.2.2.2.1)))] ++ (c4 K (ash a 14) V0.2.2.2.2.2.2.1)))))) ([(a 22, .inl (K.2.1, 8, .inl (arI V0.2.2.2.2.2.2.2.2)))] ++ ([(b 0, .inr (5, [.ref (ash b 1 0), .ref (b 5), .ref (b 6)]))])) ([(b 5, .inl (K.2.1, 4, .inl (arI w19.2.1)))] ++ ([(b 6, .inl (K.2.2.1, 3, .inl (arI w19.2.2)))])) rfl rfl rfl) rfl ?_
  cases hf
  exact g_vret X hr hlk dX5_replaceSite_133
set_option maxHeartbeats 4000000 in
set_option maxRecDepth 100000 in
theorem X5_replaceSite_ok (K : KE) (l : Launch) (a : Nat → Nat) (b : Nat → Nat) (V0 : St) (V1 : Mv) (p2 : Int) (p3 : Int) (p4 : Int) (res : St × Mv) (hf : X5_replaceSite V0 V1 p2 p3 p4 = some res) : CT l K.1 vwCl (kT K) yX5_replaceSite wsX5_replaceSite rmX5_replaceSite [.ref (b 0), .ref (a 0), ii p2, ii p3, ii p4] none (c8 K a V0 ++ (c5 K b V1)) (c8 K a res.1 ++ (c5 K b res.2)) :=
  CT.mk (cc := cX5_replaceSite) (maxL := 7) (ret := none) (by decide) rfl (Nat.le_of_ble_eq_true rfl) (fun p e s m below meth c X hr hlk => X5_replaceSite_go K l a b _ X hr hlk V0 V1 p2 p3 p4 res hf)
theorem iw_X5_replaceOrReason_X8 : ∀ w ∈ u_ws RX8 TX8 9, w ∈ wsX5_replaceOrReason := by decide +kernel
theorem fl_X5_replaceOrReason_26 : Cond.fieldLink RX5 26 (TX8 7).1 (TX8 7).2.1 (TX8 7).2.2.1 ∈ wsX5_replaceOrReason := by decide +kernel
theorem iw_X5_replaceOrReason_X6 : ∀ w ∈ u_ws RX6 TX6 4, w ∈ wsX5_replaceOrReason := by decide +kernel
theorem fl_X5_replaceOrReason_60 : Cond.fieldLink RX5 60 (TX6 2).1 (TX6 2).2.1 (TX6 2).2.2.1 ∈ wsX5_replaceOrReason := by decide +kernel
theorem fl_X5_replaceOrReason_53 : Cond.fieldLink RX5 53 (TX6 3).1 (TX6 3).2.1 (TX6 3).2.2.1 ∈ wsX5_replaceOrReason := by decide +kernel
theorem fl_X5_replaceOrReason_63 : Cond.fieldLink RX5 63 (TX8 0).1 (TX8 0).2.1 (TX8 0).2.2.1 ∈ wsX5_replaceOrReason := by decide +kernel
theorem fl_X5_replaceOrReason_86 : Cond.fieldLink RX5 86 (TX8 6).1 (TX8 6).2.1 (TX8 6).2.2.1 ∈ wsX5_replaceOrReason := by decide +kernel
def rmX5_replaceOrReason : Room := { frames := 4, cells := 0, slots := 0, locals := 102 }
def X5_replaceOrReason (V0 : St) (V1 : Mv) (p2 : Int) : Option (Int × St × Mv) := rdK 30 V0.2.2.2.2.2.2.2.1.2.2.1 p2 (fun v1 => rdK 30 V0.2.2.2.2.2.2.2.1.2.2.2 p2 (fun v2 => (X1_arityOf 6 V0.1 v1).bind (fun v3 => brEQ v2 v3 ((X8_keepsMeaning V0 v1).bind (fun v5 => brEQ v5 0 ((X5_adaptOrReason V0 V1 p2 v1).bind (fun w7 => some (w7.1, w7.2, V1))) ((X5_findArguments V0 V1 p2).bind (fun v9 => (X8_usedEntries V0 v1).bind (fun v11 => rdK 30 V0.2.2.2.2.2.2.2.1.2.2.2 p2 (fun v13 => (X5_effectReason V0.2.2.2.2.2.2.1 v9 v1 v11 v13).bind (fun v14 => brEQ v14 0 ((X5_sizeAfterReplacing V0 v9 p2 v1 v11).bind (fun v16 => brLE v16 30 ((X5_replaceSite V0 v9 p2 v1 v11).bind (fun w18 => some (0, w18.1, w18.2))) (some (7, V0, v9)))) (some (v14, V0, v9))))))))) (some (1, V0, V1)))))
set_option maxHeartbeats 4000000 in
set_option maxRecDepth 100000 in
theorem X5_replaceOrReason_go (K : KE) (l : Launch) (a : Nat → Nat) (b : Nat → Nat) (WC : va_W) {p : Program} {e : Env} {s : State} {m : MethodId} {args : Array Value} {below : List Frame} {meth : Method} {c : Code} (X : CX p s m args c K.1 vwCl (kT K) (va_A WC s.heap.size) cX5_replaceOrReason 7 wsX5_replaceOrReason RX5) (hr : meth.sig.returnType = (some .int)) (hlk : meth.locks = false) (V0 : St) (V1 : Mv) (p2 : Int) (res : Int × St × Mv) (hf : X5_replaceOrReason V0 V1 p2 = some res) : GO p l e rmX5_replaceOrReason s m args below meth c K.1 vwCl (va_A WC s.heap.size) (MQ below (QC K.1 vwCl (some (ii res.1)) WC (c8 K a res.2.1 ++ (c5 K b res.2.2)) s.heap.size) args s 0 0 (va_A WC s.heap.size)) 7 0 0 0 [(0, .ref (b 0)), (1, .ref (a 0)), (2, ii p2)] [] (c8 K a V0 ++ (c5 K b V1)) := by
  rw [X5_replaceOrReason] at hf
  refine g_aload_n X dX5_replaceOrReason_0 1 rfl rfl ?_
  refine g_get X (v := .ref (ash a 18 0)) 0 7 dX5_replaceOrReason_1 rfl rfl iw_X5_replaceOrReason_X8 (by decide) fl_X5_replaceOrReason_26 rfl ?_
  refine g_astore_n X (lv' := [(3, .ref (ash a 18 0)), (0, .ref (b 0)), (1, .ref (a 0)), (2, ii p2)]) dX5_replaceOrReason_4 rfl (by decide) rfl ?_
  refine g_aload_n X dX5_replaceOrReason_5 0 rfl rfl ?_
  refine g_get X (v := .ref (ash a 18 2)) 18 2 dX5_replaceOrReason_6 rfl rfl iw_X5_replaceOrReason_X6 (by decide) fl_X5_replaceOrReason_60 rfl ?_
  refine g_iload_n X dX5_replaceOrReason_9 3 rfl rfl ?_
  refine g_iald X hf (by decide) 20 0 dX5_replaceOrReason_10 rfl rfl (fun v1 hf => ?_)
  refine g_istore X (lv' := [(4, ii v1), (3, .ref (ash a 18 0)), (0, .ref (b 0)), (1, .ref (a 0)), (2, ii p2)]) dX5_replaceOrReason_11 (by decide) rfl ?_
  refine g_aload_n X dX5_replaceOrReason_13 1 rfl rfl ?_
  refine g_get X (v := .ref (ash a 18 3)) 18 3 dX5_replaceOrReason_14 rfl rfl iw_X5_replaceOrReason_X6 (by decide) fl_X5_replaceOrReason_53 rfl ?_
  refine g_iload_n X dX5_replaceOrReason_17 4 rfl rfl ?_
  refine g_iald X hf (by decide) 21 0 dX5_replaceOrReason_18 rfl rfl (fun v2 hf => ?_)
  refine g_aload_n X dX5_replaceOrReason_19 3 rfl rfl ?_
  refine g_get X (v := .ref (ash a 1 0)) 0 0 dX5_replaceOrReason_20 rfl rfl iw_X5_replaceOrReason_X8 (by decide) fl_X5_replaceOrReason_63 rfl ?_
  refine g_iload X dX5_replaceOrReason_23 0 rfl ?_
  obtain ⟨v3, hc4, hf⟩ := Option.bind_eq_some_iff.mp hf
  refine g_callV X (As := [ii v1]) (st := [ii v2]) (st1 := [ii v3, ii v2]) (ws' := c8 K a V0 ++ (c5 K b V1)) (X1_arityOf_ok K l 6 (by decide) (ash a 1) V0.1 v1 v3 hc4) gX5_replaceOrReason_X1_arityOf rfl 1 (by decide +kernel) ⟨rfl, rfl⟩ ⟨Nat.le_of_ble_eq_true rfl, Nat.le_of_ble_eq_true rfl⟩ ⟨Nat.zero_le _, Nat.zero_le _⟩ 1 rfl rfl rfl rfl (Nat.le_of_ble_eq_true rfl) dX5_replaceOrReason_25 (SG.one ([(a 0, .inr (8, [.ref (ash a 1 0), .ref (ash a 5 0), .ref (ash a 9 0), ii V0.2.2.2.1, .ref (a 13), ii V0.2.2.2.2.2.1, .ref (ash a 14 0), .ref (ash a 18 0), .ref (a 22)]))]) (c1 K 6 (ash a 5) V0.2.1 ++ (c1 K 4 (ash a 9) V0.2.2.1 ++ ([(a 13, .inl (K.2.1, 6, .inl (arI V0.2.2.2.2.1)))] ++ (c4 K (ash a 14) V0.2.2.2.2.2.2.1 ++ (c6 K (ash a 18) V0.2.2.2.2.2.2.2.1 ++ ([(a 22, .inl (K.2.1, 8, .inl (arI V0.2.2.2.2.2.2.2.2)))] ++ (c5 K b V1))))))) rfl rfl rfl) rfl ?_
  refine g_icmp_eq X hf 33 dX5_replaceOrReason_28 (by decide) (fun hf => ?_) (fun hf => ?_)
  · refine g_aload_n X dX5_replaceOrReason_33 3 rfl rfl ?_
    refine g_iload X dX5_replaceOrReason_34 0 rfl ?_
    obtain ⟨v5, hc6, hf⟩ := Option.bind_eq_some_iff.mp hf
    refine g_callV X (As := [ii v1]) (st := []) (st1 := [ii v5]) (ws' := c8 K a V0 ++ (c5 K b V1)) (X8_keepsMeaning_ok K l a V0 v1 v5 hc6) gX5_replaceOrReason_X8_keepsMeaning rfl 1 (by decide +kernel) ⟨rfl, rfl⟩ ⟨Nat.le_of_ble_eq_true rfl, Nat.le_of_ble_eq_true rfl⟩ ⟨Nat.zero_le _, Nat.zero_le _⟩ 0 rfl rfl rfl rfl (Nat.le_of_ble_eq_true rfl) dX5_replaceOrReason_36 (SG.one [] (c5 K b V1) rfl rfl rfl) rfl ?_
    refine g_if_ne X hf 51 dX5_replaceOrReason_39 (by decide) (fun hf => ?_) (fun hf => ?_)
    · refine g_aload_n X dX5_replaceOrReason_42 2 rfl rfl ?_
      refine g_aload_n X dX5_replaceOrReason_43 3 rfl rfl ?_
      refine g_iload_n X dX5_replaceOrReason_44 4 rfl rfl ?_
      refine g_iload X dX5_replaceOrReason_45 0 rfl ?_
      obtain ⟨w7, hc8, hf⟩ := Option.bind_eq_some_iff.mp hf
      refine g_callV X (As := [.ref (a 0), ii p2, ii v1]) (st := []) (st1 := [ii w7.1]) (ws' := c8 K a w7.2 ++ (c5 K b V1)) (X5_adaptOrReason_ok K l a b V0 V1 p2 v1 w7 hc8) gX5_replaceOrReason_X5_adaptOrReason rfl 3 (by decide +kernel) ⟨rfl, rfl⟩ ⟨Nat.le_of_ble_eq_true rfl, Nat.le_of_ble_eq_true rfl⟩ ⟨Nat.zero_le _, Nat.zero_le _⟩ 23 rfl rfl rfl rfl (Nat.le_of_ble_eq_true rfl) dX5_replaceOrReason_47 (SG.all rfl) rfl ?_
      cases hf
      exact g_iret X hr hlk dX5_replaceOrReason_50
    · refine g_aload_n X dX5_replaceOrReason_51 2 rfl rfl ?_
      refine g_aload_n X dX5_replaceOrReason_52 3 rfl rfl ?_
      refine g_iload_n X dX5_replaceOrReason_53 4 rfl rfl ?_
      obtain ⟨v9, hc10, hf⟩ := Option.bind_eq_some_iff.mp hf
      refine g_callV X (As := [.ref (a 0), ii p2]) (st := []) (st1 := []) (ws' := c8 K a V0 ++ (c5 K b v9)) (X5_findArguments_ok K l a b V0 V1 p2 v9 hc10) gX5_replaceOrReason_X5_findArguments rfl 2 (by decide +kernel) ⟨rfl, rfl⟩ ⟨Nat.le_of_ble_eq_true rfl, Nat.le_of_ble_eq_true rfl⟩ ⟨Nat.zero_le _, Nat.zero_le _⟩ 23 rfl rfl rfl rfl (Nat.le_of_ble_eq_true rfl) dX5_replaceOrReason_54 (SG.all rfl) rfl ?_
      refine g_aload_n X dX5_replaceOrReason_57 3 rfl rfl ?_
      refine g_iload X dX5_replaceOrReason_58 0 rfl ?_
      obtain ⟨v11, hc12, hf⟩ := Option.bind_eq_some_iff.mp hf
      refine g_callV X (As := [ii v1]) (st := []) (st1 := [ii v11]) (ws' := c8 K a V0 ++ (c5 K b v9)) (X8_usedEntries_ok K l a V0 v1 v11 hc12) gX5_replaceOrReason_X8_usedEntries rfl 1 (by decide +kernel) ⟨rfl, rfl⟩ ⟨Nat.le_of_ble_eq_true rfl, Nat.le_of_ble_eq_true rfl⟩ ⟨Nat.zero_le _, Nat.zero_le _⟩ 0 rfl rfl rfl rfl (Nat.le_of_ble_eq_true rfl) dX5_replaceOrReason_60 (SG.one [] (c5 K b v9) rfl rfl rfl) rfl ?_
      refine g_istore X (lv' := [(5, ii v11), (4, ii v1), (3, .ref (ash a 18 0)), (0, .ref (b 0)), (1, .ref (a 0)), (2, ii p2)]) dX5_replaceOrReason_63 (by decide) rfl ?_
      refine g_aload_n X dX5_replaceOrReason_65 3 rfl rfl ?_
      refine g_aload_n X dX5_replaceOrReason_66 4 rfl rfl ?_
      refine g_get X (v := .ref (ash a 14 0)) 0 6 dX5_replaceOrReason_67 rfl rfl iw_X5_replaceOrReason_X8 (by decide) fl_X5_replaceOrReason_86 rfl ?_
      refine g_iload X dX5_replaceOrReason_70 1 rfl ?_
      refine g_iload X dX5_replaceOrReason_72 0 rfl ?_
      refine g_aload_n X dX5_replaceOrReason_74 2 rfl rfl ?_
      refine g_get X (v := .ref (ash a 18 3)) 18 3 dX5_replaceOrReason_75 rfl rfl iw_X5_replaceOrReason_X6 (by decide) fl_X5_replaceOrReason_53 rfl ?_
      refine g_iload_n X dX5_replaceOrReason_78 5 rfl rfl ?_
      refine g_iald X hf (by decide) 21 0 dX5_replaceOrReason_79 rfl rfl (fun v13 hf => ?_)
      obtain ⟨v14, hc15, hf⟩ := Option.bind_eq_some_iff.mp hf
      refine g_callV X (As := [.ref (ash a 14 0), ii v1, ii v11, ii v13]) (st := []) (st1 := [ii v14]) (ws' := c8 K a V0 ++ (c5 K b v9)) (X5_effectReason_ok K l (ash a 14) b V0.2.2.2.2.2.2.1 v9 v1 v11 v13 v14 hc15) gX5_replaceOrReason_X5_effectReason rfl 4 (by decide +kernel) ⟨rfl, rfl⟩ ⟨Nat.le_of_ble_eq_true rfl, Nat.le_of_ble_eq_true rfl⟩ ⟨Nat.zero_le _, Nat.zero_le _⟩ 23 rfl rfl rfl rfl (Nat.le_of_ble_eq_true rfl) dX5_replaceOrReason_80 (SG.two ([(a 0, .inr (8, [.ref (ash a 1 0), .ref (ash a 5 0), .ref (ash a 9 0), ii V0.2.2.2.1, .ref (a 13), ii V0.2.2.2.2.2.1, .ref (ash a 14 0), .ref (ash a 18 0), .ref (a 22)]))] ++ (c1 K 6 (ash a 1) V0.1 ++ (c1 K 6 (ash a 5) V0.2.1 ++ (c1 K 4 (ash a 9) V0.2.2.1 ++ ([(a 13, .inl (K.2.1, 6, .inl (arI V0.2.2.2.2.1)))]))))) (c6 K (ash a 18) V0.2.2.2.2.2.2.2.1 ++ ([(a 22, .inl (K.2.1, 8, .inl (arI V0.2.2.2.2.2.2.2.2)))])) [] rfl rfl rfl) rfl ?_
      refine g_istore X (lv' := [(6, ii v14), (5, ii v11), (4, ii v1), (3, .ref (ash a 18 0)), (0, .ref (b 0)), (1, .ref (a 0)), (2, ii p2)]) dX5_replaceOrReason_83 (by decide) rfl ?_
      refine g_iload X dX5_replaceOrReason_85 0 rfl ?_
      refine g_if_eq X hf 93 dX5_replaceOrReason_87 (by decide) (fun hf => ?_) (fun hf => ?_)
      · refine g_aload_n X dX5_replaceOrReason_93 4 rfl rfl ?_
        refine g_aload_n X dX5_replaceOrReason_94 5 rfl rfl ?_
        refine g_iload_n X dX5_replaceOrReason_95 6 rfl rfl ?_
        refine g_iload X dX5_replaceOrReason_96 2 rfl ?_
        refine g_iload X dX5_replaceOrReason_98 1 rfl ?_
        obtain ⟨v16, hc17, hf⟩ := Option.bind_eq_some_iff.mp hf
        refine g_callV X (As := [.ref (a 0), ii p2, ii v1, ii v11]) (st := []) (st1 := [ii v16]) (ws' := c8 K a V0 ++ (c5 K b v9)) (X5_sizeAfterReplacing_ok K l a b V0 v9 p2 v1 v11 v16 hc17) gX5_replaceOrReason_X5_sizeAfterReplacing rfl 4 (by decide +kernel) ⟨rfl, rfl⟩ ⟨Nat.le_of_ble_eq_true rfl, Nat.le_of_ble_eq_true rfl⟩ ⟨Nat.zero_le _, Nat.zero_le _⟩ 23 rfl rfl rfl rfl (Nat.le_of_ble_eq_true rfl) dX5_replaceOrReason_100 (SG.all rfl) rfl ?_
        refine g_bipush X dX5_replaceOrReason_103 (by decide +kernel) ?_
        refine g_icmp_le X hf 111 dX5_replaceOrReason_105 (by decide) (fun hf => ?_) (fun hf => ?_)
        · refine g_aload_n X dX5_replaceOrReason_111 4 rfl rfl ?_
          refine g_aload_n X dX5_replaceOrReason_112 5 rfl rfl ?_
          refine g_iload_n X dX5_replaceOrReason_113 6 rfl rfl ?_
          refine g_iload X dX5_replaceOrReason_114 2 rfl ?_
          refine g_iload X dX5_replaceOrReason_116 1 rfl ?_
          obtain ⟨w18, hc19, hf⟩ := Option.bind_eq_some_iff.mp hf
          refine g_callV X (As := [.ref (a 0), ii p2, ii v1, ii v11]) (st := []) (st1 := []) (ws' := c8 K a w18.1 ++ (c5 K b w18.2)) (X5_replaceSite_ok K l a b V0 v9 p2 v1 v11 w18 hc19) gX5_replaceOrReason_X5_replaceSite rfl 4 (by decide +kernel) ⟨rfl, rfl⟩ ⟨Nat.le_of_ble_eq_true rfl, Nat.le_of_ble_eq_true rfl⟩ ⟨Nat.zero_le _, Nat.zero_le _⟩ 23 rfl rfl rfl rfl (Nat.le_of_ble_eq_true rfl) dX5_replaceOrReason_118 (SG.all rfl) rfl ?_
          refine g_iconst X dX5_replaceOrReason_121 ?_
          cases hf
          exact g_iret X hr hlk dX5_replaceOrReason_122
        · refine g_bipush X dX5_replaceOrReason_108 (by decide +kernel) ?_
          cases hf
          exact g_iret X hr hlk dX5_replaceOrReason_110
      · refine g_iload X dX5_replaceOrReason_90 0 rfl ?_
        cases hf
        exact g_iret X hr hlk dX5_replaceOrReason_92
  · refine g_iconst X dX5_replaceOrReason_31 ?_
    cases hf
    exact g_iret X hr hlk dX5_replaceOrReason_32
set_option maxHeartbeats 4000000 in
set_option maxRecDepth 100000 in
theorem X5_replaceOrReason_ok (K : KE) (l : Launch) (a : Nat → Nat) (b : Nat → Nat) (V0 : St) (V1 : Mv) (p2 : Int) (res : Int × St × Mv) (hf : X5_replaceOrReason V0 V1 p2 = some res) : CT l K.1 vwCl (kT K) yX5_replaceOrReason wsX5_replaceOrReason rmX5_replaceOrReason [.ref (b 0), .ref (a 0), ii p2] (some (ii res.1)) (c8 K a V0 ++ (c5 K b V1)) (c8 K a res.2.1 ++ (c5 K b res.2.2)) :=
  CT.mk (cc := cX5_replaceOrReason) (maxL := 7) (ret := (some .int)) (by decide) rfl (Nat.le_of_ble_eq_true rfl) (fun p e s m below meth c X hr hlk => X5_replaceOrReason_go K l a b _ X hr hlk V0 V1 p2 res hf)
theorem iw_X6_countSites_X6 : ∀ w ∈ u_ws RX6 TX6 4, w ∈ wsX6_countSites := by decide +kernel
theorem fl_X6_countSites_9 : Cond.fieldLink RX6 9 (TX6 0).1 (TX6 0).2.1 (TX6 0).2.2.1 ∈ wsX6_countSites := by decide +kernel
theorem fl_X6_countSites_15 : Cond.fieldLink RX6 15 (TX6 1).1 (TX6 1).2.1 (TX6 1).2.2.1 ∈ wsX6_countSites := by decide +kernel
def rmX6_countSites : Room := { frames := 0, cells := 0, slots := 0, locals := 0 }
def X6_countSites_L4 (kx : Int → Option (Int)) (V0 : Pg) : Nat → Int → Int → Option (Int)
  | 0, _, _ => none
  | n + 1, y1, y2 => brLT y2 V0.1 (rdK 30 V0.2.1 y2 (fun v1 => ltK (fun q2 : Int => X6_countSites_L4 kx V0 n q2 (y2 + 1)) (fun j3 => brEQ v1 2 (j3 (y1 + 1)) (j3 y1)))) (kx y1)
def X6_countSites (V0 : Pg) : Option (Int) := X6_countSites_L4 (fun w4 => some w4) V0 FU 0 0
set_option maxHeartbeats 4000000 in
set_option maxRecDepth 100000 in
theorem X6_countSites_L4_ok (K : KE) (l : Launch) (a : Nat → Nat) (WC : va_W) {p : Program} {e : Env} {s : State} {m : MethodId} {args : Array Value} {below : List Frame} {meth : Method} {c : Code} (X : CX p s m args c K.1 vwCl (kT K) (va_A WC s.heap.size) cX6_countSites 3 wsX6_countSites RX6) (hr : meth.sig.returnType = (some .int)) (hlk : meth.locks = false) (V0 : Pg)  (res : Int) {kx : Int → Option (Int)} : ∀ (n : Nat) (y1 : Int) (y2 : Int), X6_countSites_L4 kx V0 n y1 y2 = some res → (∀ (z1 : Int), kx z1 = some res → GO p l e rmX6_countSites s m args below meth c K.1 vwCl (va_A WC s.heap.size) (MQ below (QC K.1 vwCl (some (ii res)) WC (c6 K a V0) s.heap.size) args s 0 0 (va_A WC s.heap.size)) 3 0 0 31 [(1, ii z1)] [] (c6 K a V0)) → GO p l e rmX6_countSites s m args below meth c K.1 vwCl (va_A WC s.heap.size) (MQ below (QC K.1 vwCl (some (ii res)) WC (c6 K a V0) s.heap.size) args s 0 0 (va_A WC s.heap.size)) 3 0 0 4 [(0, .ref (a 0)), (1, ii y1), (2, ii y2)] [] (c6 K a V0) := by
  intro n
  induction n with
  | zero =>
    intro y1 y2 hf _
    rw [X6_countSites_L4] at hf
    cases hf
  | succ n ih =>
    intro y1 y2 hf hk
    rw [X6_countSites_L4] at hf
    refine g_iload_n X dX6_countSites_4 2 rfl rfl ?_
    refine g_aload_n X dX6_countSites_5 0 rfl rfl ?_
    refine g_get X (v := ii V0.1) 0 0 dX6_countSites_6 rfl rfl iw_X6_countSites_X6 (by decide) fl_X6_countSites_9 rfl ?_
    refine g_icmp_ge X hf 31 dX6_countSites_9 (by decide) (fun hf => ?_) (fun hf => ?_)
    · refine g_aload_n X dX6_countSites_12 0 rfl rfl ?_
      refine g_get X (v := .ref (a 1)) 0 1 dX6_countSites_13 rfl rfl iw_X6_countSites_X6 (by decide) fl_X6_countSites_15 rfl ?_
      refine g_iload_n X dX6_countSites_16 2 rfl rfl ?_
      refine g_iald X hf (by decide) 1 0 dX6_countSites_17 rfl rfl (fun v1 hf => ?_)
      refine g_iconst X dX6_countSites_18 ?_
      refine g_let (G := fun q2 : Int => GO p l e rmX6_countSites s m args below meth c K.1 vwCl (va_A WC s.heap.size) (MQ below (QC K.1 vwCl (some (ii res)) WC (c6 K a V0) s.heap.size) args s 0 0 (va_A WC s.heap.size)) 3 0 0 25 [(0, .ref (a 0)), (1, ii q2), (2, ii y2)] [] (c6 K a V0)) hf (fun q2 hf => ?_) (fun j3 hj3 hf => ?_)
      · refine g_iinc X (lv' := [(2, ii (y2 + 1)), (0, .ref (a 0)), (1, ii q2)]) dX6_countSites_25 2 rfl (by decide) rfl ?_
        refine g_goto X 4 dX6_countSites_28 (by decide) ?_
        refine g_sub (lv' := [(0, .ref (a 0)), (1, ii q2), (2, ii (y2 + 1))]) [1, 2, 0] rfl ?_
        exact ih q2 (y2 + 1) hf hk
      · refine g_icmp_ne X hf 25 dX6_countSites_19 (by decide) (fun hf => ?_) (fun hf => ?_)
        · refine g_iinc X (lv' := [(1, ii (y1 + 1)), (0, .ref (a 0)), (2, ii y2)]) dX6_countSites_22 1 rfl (by decide) rfl ?_
          refine g_sub (lv' := [(0, .ref (a 0)), (1, ii (y1 + 1)), (2, ii y2)]) [1, 0, 2] rfl ?_
          exact hj3 (y1 + 1) hf
        · exact hj3 y1 hf
    · refine g_sub (lv' := [(1, ii y1)]) [1] rfl ?_
      exact hk y1 hf
set_option maxHeartbeats 4000000 in
set_option maxRecDepth 100000 in
theorem X6_countSites_go (K : KE) (l : Launch) (a : Nat → Nat) (WC : va_W) {p : Program} {e : Env} {s : State} {m : MethodId} {args : Array Value} {below : List Frame} {meth : Method} {c : Code} (X : CX p s m args c K.1 vwCl (kT K) (va_A WC s.heap.size) cX6_countSites 3 wsX6_countSites RX6) (hr : meth.sig.returnType = (some .int)) (hlk : meth.locks = false) (V0 : Pg) (res : Int) (hf : X6_countSites V0 = some res) : GO p l e rmX6_countSites s m args below meth c K.1 vwCl (va_A WC s.heap.size) (MQ below (QC K.1 vwCl (some (ii res)) WC (c6 K a V0) s.heap.size) args s 0 0 (va_A WC s.heap.size)) 3 0 0 0 [(0, .ref (a 0))] [] (c6 K a V0) := by
  rw [X6_countSites] at hf
  refine g_iconst X dX6_countSites_0 ?_
  refine g_istore_n X (lv' := [(1, ii 0), (0, .ref (a 0))]) dX6_countSites_1 rfl (by decide) rfl ?_
  refine g_iconst X dX6_countSites_2 ?_
  refine g_istore_n X (lv' := [(2, ii 0), (1, ii 0), (0, .ref (a 0))]) dX6_countSites_3 rfl (by decide) rfl ?_
  refine g_sub (lv' := [(0, .ref (a 0)), (1, ii 0), (2, ii 0)]) [2, 1, 0] rfl ?_
  refine X6_countSites_L4_ok K l a WC X hr hlk V0 res FU 0 0 hf (fun w4 hf => ?_)
  refine g_iload_n X dX6_countSites_31 0 rfl rfl ?_
  cases hf
  exact g_iret X hr hlk dX6_countSites_32
set_option maxHeartbeats 4000000 in
set_option maxRecDepth 100000 in
theorem X6_countSites_ok (K : KE) (l : Launch) (a : Nat → Nat) (V0 : Pg) (res : Int) (hf : X6_countSites V0 = some res) : CT l K.1 vwCl (kT K) yX6_countSites wsX6_countSites rmX6_countSites [.ref (a 0)] (some (ii res)) (c6 K a V0) (c6 K a V0) :=
  CT.mk (cc := cX6_countSites) (maxL := 3) (ret := (some .int)) (by decide) rfl (Nat.le_of_ble_eq_true rfl) (fun p e s m below meth c X hr hlk => X6_countSites_go K l a _ X hr hlk V0 res hf)
