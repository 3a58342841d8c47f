def rmX3_readExpression (d : Nat) : Room := { frames := 2 * d + 4, cells := 0, slots := 0, locals := 60 * d + 100 }
def rmX3_readCall (d : Nat) : Room := { frames := 2 * d + 5, cells := 0, slots := 0, locals := 60 * d + 130 }
theorem iw_X3_readCall_X3 : ∀ w ∈ u_ws RX3 TX3 3, w ∈ wsX3_readCall := by decide +kernel
theorem fl_X3_readCall_19 : Cond.fieldLink RX3 19 (TX3 2).1 (TX3 2).2.1 (TX3 2).2.2.1 ∈ wsX3_readCall := by decide +kernel
def X3_readCall_L48 (kx : In → Pg → Option (Int × In × Pg)) (RE : St → In → Pg → Option (Int × In × Pg)) (V0 : St) (x5 : Int) : Nat → Int → In → Pg → Option (Int × In × Pg)
  | 0, _, _, _ => none
  | n + 1, y6, V1, V2 => brLT y6 x5 (ltK (fun q9 : In => (RE V0 q9 V2).bind (fun w11 => brEQ w11.1 0 (some (0, w11.2.1, w11.2.2)) (X3_readCall_L48 kx RE V0 x5 n (y6 + 1) w11.2.1 w11.2.2))) (fun j10 => brLE y6 0 (j10 V1) ((X3_take V1 44).bind (fun w13 => brEQ w13.1 0 (some (0, w13.2, V2)) (j10 w13.2))))) (kx V1 V2)
def X3_readCall (RE : St → In → Pg → Option (Int × In × Pg)) (V0 : St) (V1 : In) (V2 : Pg) (p3 : Int) (p4 : Int) : Option (Int × In × Pg) := (X8_tableOf V0 p3).bind (fun v1 => sel3 v1 ((X1_arityOf 6 V0.1 p4).bind (fun v3 => (X3_take (V1.1, V1.2.1, (V1.2.2 + 1)) 40).bind (fun w5 => brEQ w5.1 0 (some (0, w5.2, V2)) ((X6_add V2 p3 p4 v3).bind (fun w7 => brEQ w7.1 0 (some (0, w5.2, w7.2)) (X3_readCall_L48 (fun w15 w16 => (X3_take w15 41).bind (fun w17 => boK w17.1 (some (w17.1, w17.2, w16)))) RE V0 v3 FU 0 w5.2 w7.2)))))) ((X1_arityOf 6 V0.2.1 p4).bind (fun v20 => (X3_take (V1.1, V1.2.1, (V1.2.2 + 1)) 40).bind (fun w22 => brEQ w22.1 0 (some (0, w22.2, V2)) ((X6_add V2 p3 p4 v20).bind (fun w24 => brEQ w24.1 0 (some (0, w22.2, w24.2)) (X3_readCall_L48 (fun w26 w27 => (X3_take w26 41).bind (fun w28 => boK w28.1 (some (w28.1, w28.2, w27)))) RE V0 v20 FU 0 w22.2 w24.2)))))) ((X1_arityOf 4 V0.2.2.1 p4).bind (fun v31 => (X3_take (V1.1, V1.2.1, (V1.2.2 + 1)) 40).bind (fun w33 => brEQ w33.1 0 (some (0, w33.2, V2)) ((X6_add V2 p3 p4 v31).bind (fun w35 => brEQ w35.1 0 (some (0, w33.2, w35.2)) (X3_readCall_L48 (fun w37 w38 => (X3_take w37 41).bind (fun w39 => boK w39.1 (some (w39.1, w39.2, w38)))) RE V0 v31 FU 0 w33.2 w35.2)))))))
set_option maxHeartbeats 4000000 in
set_option maxRecDepth 100000 in
theorem X3_readCall_L48_ok (K : KE) (l : Launch) (a : Nat → Nat) (b : Nat → Nat) (d : Nat → Nat) (RE : St → In → Pg → Option (Int × In × Pg)) (dp : Nat) (hRE : ∀ (V0 : St) (V1 : In) (V2 : Pg) (res : Int × In × Pg), RE V0 V1 V2 = some res → CT l K.1 vwCl (kT K) yX3_readExpression wsX3_readExpression (rmX3_readExpression dp) [.ref (b 0), .ref (a 0), .ref (d 0)] (some (ii res.1)) (c8 K a V0 ++ (c3 K b V1 ++ (c6 K d V2))) (c8 K a V0 ++ (c3 K b res.2.1 ++ (c6 K d res.2.2)))) (WC : va_W) {p : Program} {e : Env} {s : State} {m : MethodId} {args : Array Value} {below : List Frame} {meth : Method} {c : Code} (X : CX p s m args c K.1 vwCl (kT K) (va_A WC s.heap.size) cX3_readCall 7 wsX3_readCall RX3) (hr : meth.sig.returnType = (some .boolean)) (hlk : meth.locks = false) (V0 : St) (x5 : Int) (res : Int × In × Pg) {kx : In → Pg → Option (Int × In × Pg)} : ∀ (n : Nat) (y6 : Int) (V1 : In) (V2 : Pg), X3_readCall_L48 kx RE V0 x5 n y6 V1 V2 = some res → (∀ (V1z : In) (V2z : Pg), kx V1z V2z = some res → GO p l e (rmX3_readCall dp) s m args below meth c K.1 vwCl (va_A WC s.heap.size) (MQ below (QC K.1 vwCl (some (ii res.1)) WC (c8 K a V0 ++ (c3 K b res.2.1 ++ (c6 K d res.2.2))) s.heap.size) args s 0 0 (va_A WC s.heap.size)) 7 0 0 88 [(0, .ref (b 0))] [] (c8 K a V0 ++ (c3 K b V1z ++ (c6 K d V2z)))) → GO p l e (rmX3_readCall dp) s m args below meth c K.1 vwCl (va_A WC s.heap.size) (MQ below (QC K.1 vwCl (some (ii res.1)) WC (c8 K a V0 ++ (c3 K b res.2.1 ++ (c6 K d res.2.2))) s.heap.size) args s 0 0 (va_A WC s.heap.size)) 7 0 0 48 [(0, .ref (b 0)), (1, .ref (a 0)), (2, .ref (d 0)), (5, ii x5), (6, ii y6)] [] (c8 K a V0 ++ (c3 K b V1 ++ (c6 K d V2))) := by
  intro n
  induction n with
  | zero =>
    intro y6 V1 V2 hf _
    rw [X3_readCall_L48] at hf
    cases hf
  | succ n ih =>
    intro y6 V1 V2 hf hk
    rw [X3_readCall_L48] at hf
    refine g_iload X dX3_readCall_48 4 rfl ?_
    refine g_iload X dX3_readCall_50 3 rfl ?_
    refine g_icmp_ge X hf 88 dX3_readCall_52 (by decide) (fun hf => ?_) (fun hf => ?_)
    · refine g_iload X dX3_readCall_55 4 rfl ?_
      refine g_let (G := fun q9 : In => GO p l e (rmX3_readCall dp) s m args below meth c K.1 vwCl (va_A WC s.heap.size) (MQ below (QC K.1 vwCl (some (ii res.1)) WC (c8 K a V0 ++ (c3 K b res.2.1 ++ (c6 K d res.2.2))) s.heap.size) args s 0 0 (va_A WC s.heap.size)) 7 0 0 71 [(0, .ref (b 0)), (1, .ref (a 0)), (2, .ref (d 0)), (5, ii x5), (6, ii y6)] [] (c8 K a V0 ++ (c3 K b q9 ++ (c6 K d V2)))) hf (fun q9 hf => ?_) (fun j10 hj10 hf => ?_)
      · refine g_aload_n X dX3_readCall_71 0 rfl rfl ?_
        refine g_aload_n X dX3_readCall_72 1 rfl rfl ?_
        refine g_aload_n X dX3_readCall_73 2 rfl rfl ?_
        obtain ⟨w11, hc12, hf⟩ := Option.bind_eq_some_iff.mp hf
        refine g_callV X (As := [.ref (a 0), .ref (d 0)]) (st := []) (st1 := [ii w11.1]) (ws' := c8 K a V0 ++ (c3 K b w11.2.1 ++ (c6 K d w11.2.2))) (hRE V0 q9 V2 w11 hc12) gX3_readCall_X3_readExpression rfl 2 (by decide +kernel) ⟨rfl, rfl⟩ ⟨by simp only [rmX3_readCall, rmX3_readExpression]; omega, by simp only [rmX3_readCall, rmX3_readExpression]; omega⟩ ⟨Nat.zero_le _, Nat.zero_le _⟩ 23 rfl rfl rfl rfl (Nat.le_of_ble_eq_true rfl) dX3_readCall_74 (SG.all rfl) rfl ?_
        refine g_if_ne X hf 82 dX3_readCall_77 (by decide) (fun hf => ?_) (fun hf => ?_)
        · refine g_iconst X dX3_readCall_80 ?_
          cases hf
          exact g_zret X (Or.inl rfl) hr hlk dX3_readCall_81
        · refine g_iinc X (lv' := [(6, ii (y6 + 1)), (0, .ref (b 0)), (1, .ref (a 0)), (2, .ref (d 0)), (5, ii x5)]) dX3_readCall_82 4 rfl (by decide) rfl ?_
          refine g_goto X 48 dX3_readCall_85 (by decide) ?_
          refine g_sub (lv' := [(0, .ref (b 0)), (1, .ref (a 0)), (2, .ref (d 0)), (5, ii x5), (6, ii (y6 + 1))]) [1, 2, 3, 4, 0] rfl ?_
          exact ih (y6 + 1) w11.2.1 w11.2.2 hf hk
      · refine g_if_le X hf 71 dX3_readCall_57 (by decide) (fun hf => ?_) (fun hf => ?_)
        · exact hj10 V1 hf
        · refine g_aload_n X dX3_readCall_60 0 rfl rfl ?_
          refine g_bipush X dX3_readCall_61 (by decide +kernel) ?_
          obtain ⟨w13, hc14, hf⟩ := Option.bind_eq_some_iff.mp hf
          refine g_callV X (As := [ii 44]) (st := []) (st1 := [ii w13.1]) (ws' := c8 K a V0 ++ (c3 K b w13.2 ++ (c6 K d V2))) (X3_take_ok K l b V1 44 w13 hc14) gX3_readCall_X3_take rfl 1 (by decide +kernel) ⟨rfl, rfl⟩ ⟨by simp only [rmX3_readCall, rmX3_take]; omega, by simp only [rmX3_readCall, rmX3_take]; omega⟩ ⟨Nat.zero_le _, Nat.zero_le _⟩ 23 rfl rfl rfl rfl (Nat.le_of_ble_eq_true rfl) dX3_readCall_63 (SG.one (c8 K a V0) (c6 K d V2) rfl rfl rfl) rfl ?_
          refine g_if_ne X hf 71 dX3_readCall_66 (by decide) (fun hf => ?_) (fun hf => ?_)
          · refine g_iconst X dX3_readCall_69 ?_
            cases hf
            exact g_zret X (Or.inl rfl) hr hlk dX3_readCall_70
          · exact hj10 w13.2 hf
    · refine g_sub (lv' := [(0, .ref (b 0))]) [0] rfl ?_
      exact hk V1 V2 hf
set_option maxHeartbeats 4000000 in
set_option maxRecDepth 100000 in
theorem X3_readCall_go (K : KE) (l : Launch) (a : Nat → Nat) (b : Nat → Nat) (d : Nat → Nat) (RE : St → In → Pg → Option (Int × In × Pg)) (dp : Nat) (hRE : ∀ (V0 : St) (V1 : In) (V2 : Pg) (res : Int × In × Pg), RE V0 V1 V2 = some res → CT l K.1 vwCl (kT K) yX3_readExpression wsX3_readExpression (rmX3_readExpression dp) [.ref (b 0), .ref (a 0), .ref (d 0)] (some (ii res.1)) (c8 K a V0 ++ (c3 K b V1 ++ (c6 K d V2))) (c8 K a V0 ++ (c3 K b res.2.1 ++ (c6 K d res.2.2)))) (WC : va_W) {p : Program} {e : Env} {s : State} {m : MethodId} {args : Array Value} {below : List Frame} {meth : Method} {c : Code} (X : CX p s m args c K.1 vwCl (kT K) (va_A WC s.heap.size) cX3_readCall 7 wsX3_readCall RX3) (hr : meth.sig.returnType = (some .boolean)) (hlk : meth.locks = false) (V0 : St) (V1 : In) (V2 : Pg) (p3 : Int) (p4 : Int) (res : Int × In × Pg) (hf : X3_readCall RE V0 V1 V2 p3 p4 = some res) : GO p l e (rmX3_readCall dp) s m args below meth c K.1 vwCl (va_A WC s.heap.size) (MQ below (QC K.1 vwCl (some (ii res.1)) WC (c8 K a V0 ++ (c3 K b res.2.1 ++ (c6 K d res.2.2))) s.heap.size) args s 0 0 (va_A WC s.heap.size)) 7 0 0 0 [(0, .ref (b 0)), (1, .ref (a 0)), (2, .ref (d 0)), (3, ii p3), (4, ii p4)] [] (c8 K a V0 ++ (c3 K b V1 ++ (c6 K d V2))) := by
  rw [X3_readCall] at hf
  refine g_aload_n X dX3_readCall_0 1 rfl rfl ?_
  refine g_iload_n X dX3_readCall_1 3 rfl rfl ?_
  obtain ⟨v1, hc2, hf⟩ := Option.bind_eq_some_iff.mp hf
  refine g_callV X (As := [ii p3]) (st := []) (st1 := [.ref (tbA a v1)]) (ws' := c8 K a V0 ++ (c3 K b V1 ++ (c6 K d V2))) (X8_tableOf_ok K l a V0 p3 v1 hc2) gX3_readCall_X8_tableOf rfl 1 (by decide +kernel) ⟨rfl, rfl⟩ ⟨by simp only [rmX3_readCall, rmX8_tableOf]; omega, by simp only [rmX3_readCall, rmX8_tableOf]; omega⟩ ⟨Nat.zero_le _, Nat.zero_le _⟩ 0 rfl rfl rfl rfl (Nat.le_of_ble_eq_true rfl) dX3_readCall_2 (SG.one [] (c3 K b V1 ++ (c6 K d V2)) rfl rfl rfl) rfl ?_
  replace hf := sel3_some hf
  rcases hf with ⟨hv, hf⟩ | ⟨hv, hf⟩ | ⟨hv, hf⟩
  · subst hv
    refine g_stk (st' := [.ref (ash a 1 0)]) rfl ?_
    refine g_iload X dX3_readCall_5 4 rfl ?_
    obtain ⟨v3, hc4, hf⟩ := Option.bind_eq_some_iff.mp hf
    refine g_callV X (As := [ii p4]) (st := []) (st1 := [ii v3]) (ws' := c8 K a V0 ++ (c3 K b V1 ++ (c6 K d V2))) (X1_arityOf_ok K l 6 (by decide) (ash a 1) V0.1 p4 v3 hc4) gX3_readCall_X1_arityOf rfl 1 (by decide +kernel) ⟨rfl, rfl⟩ ⟨by simp only [rmX3_readCall, rmX1_arityOf]; omega, by simp only [rmX3_readCall, rmX1_arityOf]; omega⟩ ⟨Nat.zero_le _, Nat.zero_le _⟩ 1 rfl rfl rfl rfl (Nat.le_of_ble_eq_true rfl) dX3_readCall_7 (SG.one ([(a 0, .inr (8, [.ref (ash a 1 0), .ref (ash a 5 0), .ref (ash a 9 0), ii V0.2.2.2.1, .ref (a 13), ii V0.2.2.2.2.2.1, .ref (ash a 14 0), .ref (ash a 18 0), .ref (a 22)]))]) (c1 K 6 (ash a 5) V0.2.1 ++ (c1 K 4 (ash a 9) V0.2.2.1 ++ ([(a 13, .inl (K.2.1, 6, .inl (arI V0.2.2.2.2.1)))] ++ (c4 K (ash a 14) V0.2.2.2.2.2.2.1 ++ (c6 K (ash a 18) V0.2.2.2.2.2.2.2.1 ++ ([(a 22, .inl (K.2.1, 8, .inl (arI V0.2.2.2.2.2.2.2.2)))] ++ (c3 K b V1 ++ (c6 K d V2)))))))) rfl rfl rfl) rfl ?_
    refine g_istore X (lv' := [(5, ii v3), (0, .ref (b 0)), (1, .ref (a 0)), (2, .ref (d 0)), (3, ii p3), (4, ii p4)]) dX3_readCall_10 (by decide) rfl ?_
    refine g_aload_n X dX3_readCall_12 1 rfl rfl ?_
    refine g_dup X dX3_readCall_13 rfl ?_
    refine g_get X (v := ii V1.2.2) 23 2 dX3_readCall_14 rfl rfl iw_X3_readCall_X3 (by decide) fl_X3_readCall_19 rfl ?_
    refine g_iconst X dX3_readCall_17 ?_
    refine g_iadd X dX3_readCall_18 ?_
    refine g_puti X 23 2 dX3_readCall_19 rfl rfl iw_X3_readCall_X3 tyX3_ok nmX3 (by decide) fl_X3_readCall_19 rfl rfl (Nat.le_of_ble_eq_true rfl) (ws' := c8 K a V0 ++ (c3 K b (V1.1, V1.2.1, (V1.2.2 + 1)) ++ (c6 K d V2))) rfl ?_
    refine g_aload_n X dX3_readCall_22 1 rfl rfl ?_
    refine g_bipush X dX3_readCall_23 (by decide +kernel) ?_
    obtain ⟨w5, hc6, hf⟩ := Option.bind_eq_some_iff.mp hf
    refine g_callV X (As := [ii 40]) (st := []) (st1 := [ii w5.1]) (ws' := c8 K a V0 ++ (c3 K b w5.2 ++ (c6 K d V2))) (X3_take_ok K l b (V1.1, V1.2.1, (V1.2.2 + 1)) 40 w5 hc6) gX3_readCall_X3_take rfl 1 (by decide +kernel) ⟨rfl, rfl⟩ ⟨by simp only [rmX3_readCall, rmX3_take]; omega, by simp only [rmX3_readCall, rmX3_take]; omega⟩ ⟨Nat.zero_le _, Nat.zero_le _⟩ 23 rfl rfl rfl rfl (Nat.le_of_ble_eq_true rfl) dX3_readCall_25 (SG.one (c8 K a V0) (c6 K d V2) rfl rfl rfl) rfl ?_
    refine g_if_eq X hf 43 dX3_readCall_28 (by decide) (fun hf => ?_) (fun hf => ?_)
    · refine g_iconst X dX3_readCall_43 ?_
      cases hf
      exact g_zret X (Or.inl rfl) hr hlk dX3_readCall_44
    · refine g_aload_n X dX3_readCall_31 3 rfl rfl ?_
      refine g_iload_n X dX3_readCall_32 4 rfl rfl ?_
      refine g_iload X dX3_readCall_33 5 rfl ?_
      refine g_iload X dX3_readCall_35 0 rfl ?_
      obtain ⟨w7, hc8, hf⟩ := Option.bind_eq_some_iff.mp hf
      refine g_callV X (As := [ii p3, ii p4, ii v3]) (st := []) (st1 := [ii w7.1]) (ws' := c8 K a V0 ++ (c3 K b w5.2 ++ (c6 K d w7.2))) (X6_add_ok K l d V2 p3 p4 v3 w7 hc8) gX3_readCall_X6_add rfl 3 (by decide +kernel) ⟨rfl, rfl⟩ ⟨by simp only [rmX3_readCall, rmX6_add]; omega, by simp only [rmX3_readCall, rmX6_add]; omega⟩ ⟨Nat.zero_le _, Nat.zero_le _⟩ 25 rfl rfl rfl rfl (Nat.le_of_ble_eq_true rfl) dX3_readCall_37 (SG.one (c8 K a V0 ++ (c3 K b w5.2)) [] rfl rfl rfl) rfl ?_
      refine g_if_ne X hf 45 dX3_readCall_40 (by decide) (fun hf => ?_) (fun hf => ?_)
      · refine g_iconst X dX3_readCall_43 ?_
        cases hf
        exact g_zret X (Or.inl rfl) hr hlk dX3_readCall_44
      · refine g_iconst X dX3_readCall_45 ?_
        refine g_istore X (lv' := [(6, ii 0), (5, ii v3), (0, .ref (b 0)), (1, .ref (a 0)), (2, .ref (d 0)), (3, ii p3), (4, ii p4)]) dX3_readCall_46 (by decide) rfl ?_
        refine g_sub (lv' := [(0, .ref (b 0)), (1, .ref (a 0)), (2, .ref (d 0)), (5, ii v3), (6, ii 0)]) [2, 3, 4, 1, 0] rfl ?_
        refine X3_readCall_L48_ok K l a b d RE dp hRE WC X hr hlk V0 v3 res FU 0 w5.2 w7.2 hf (fun w15 w16 hf => ?_)
        refine g_aload_n X dX3_readCall_88 0 rfl rfl ?_
        refine g_bipush X dX3_readCall_89 (by decide +kernel) ?_
        obtain ⟨w17, hc18, hf⟩ := Option.bind_eq_some_iff.mp hf
        refine g_callV X (As := [ii 41]) (st := []) (st1 := [ii w17.1]) (ws' := c8 K a V0 ++ (c3 K b w17.2 ++ (c6 K d w16))) (X3_take_ok K l b w15 41 w17 hc18) gX3_readCall_X3_take rfl 1 (by decide +kernel) ⟨rfl, rfl⟩ ⟨by simp only [rmX3_readCall, rmX3_take]; omega, by simp only [rmX3_readCall, rmX3_take]; omega⟩ ⟨Nat.zero_le _, Nat.zero_le _⟩ 23 rfl rfl rfl rfl (Nat.le_of_ble_eq_true rfl) dX3_readCall_91 (SG.one (c8 K a V0) (c6 K d w16) rfl rfl rfl) rfl ?_
        obtain ⟨hb19, hf⟩ := boK_some hf
        cases hf
        exact g_zret X hb19 hr hlk dX3_readCall_94
  · subst hv
    refine g_stk (st' := [.ref (ash a 5 0)]) rfl ?_
    refine g_iload X dX3_readCall_5 4 rfl ?_
    obtain ⟨v20, hc21, hf⟩ := Option.bind_eq_some_iff.mp hf
    refine g_callV X (As := [ii p4]) (st := []) (st1 := [ii v20]) (ws' := c8 K a V0 ++ (c3 K b V1 ++ (c6 K d V2))) (X1_arityOf_ok K l 6 (by decide) (ash a 5) V0.2.1 p4 v20 hc21) gX3_readCall_X1_arityOf rfl 1 (by decide +kernel) ⟨rfl, rfl⟩ ⟨by simp only [rmX3_readCall, rmX1_arityOf]; omega, by simp only [rmX3_readCall, rmX1_arityOf]; omega⟩ ⟨Nat.zero_le _, Nat.zero_le _⟩ 5 rfl rfl rfl rfl (Nat.le_of_ble_eq_true rfl) dX3_readCall_7 (SG.one ([(a 0, .inr (8, [.ref (ash a 1 0), .ref (ash a 5 0), .ref (ash a 9 0), ii V0.2.2.2.1, .ref (a 13), ii V0.2.2.2.2.2.1, .ref (ash a 14 0), .ref (ash a 18 0), .ref (a 22)]))] ++ (c1 K 6 (ash a 1) V0.1)) (c1 K 4 (ash a 9) V0.2.2.1 ++ ([(a 13, .inl (K.2.1, 6, .inl (arI V0.2.2.2.2.1)))] ++ (c4 K (ash a 14) V0.2.2.2.2.2.2.1 ++ (c6 K (ash a 18) V0.2.2.2.2.2.2.2.1 ++ ([(a 22, .inl (K.2.1, 8, .inl (arI V0.2.2.2.2.2.2.2.2)))] ++ (c3 K b V1 ++ (c6 K d V2))))))) rfl rfl rfl) rfl ?_
    refine g_istore X (lv' := [(5, ii v20), (0, .ref (b 0)), (1, .ref (a 0)), (2, .ref (d 0)), (3, ii p3), (4, ii p4)]) dX3_readCall_10 (by decide) rfl ?_
    refine g_aload_n X dX3_readCall_12 1 rfl rfl ?_
    refine g_dup X dX3_readCall_13 rfl ?_
    refine g_get X (v := ii V1.2.2) 23 2 dX3_readCall_14 rfl rfl iw_X3_readCall_X3 (by decide) fl_X3_readCall_19 rfl ?_
    refine g_iconst X dX3_readCall_17 ?_
    refine g_iadd X dX3_readCall_18 ?_
    refine g_puti X 23 2 dX3_readCall_19 rfl rfl iw_X3_readCall_X3 tyX3_ok nmX3 (by decide) fl_X3_readCall_19 rfl rfl (Nat.le_of_ble_eq_true rfl) (ws' := c8 K a V0 ++ (c3 K b (V1.1, V1.2.1, (V1.2.2 + 1)) ++ (c6 K d V2))) rfl ?_
    refine g_aload_n X dX3_readCall_22 1 rfl rfl ?_
    refine g_bipush X dX3_readCall_23 (by decide +kernel) ?_
    obtain ⟨w22, hc23, hf⟩ := Option.bind_eq_some_iff.mp hf
    refine g_callV X (As := [ii 40]) (st := []) (st1 := [ii w22.1]) (ws' := c8 K a V0 ++ (c3 K b w22.2 ++ (c6 K d V2))) (X3_take_ok K l b (V1.1, V1.2.1, (V1.2.2 + 1)) 40 w22 hc23) gX3_readCall_X3_take rfl 1 (by decide +kernel) ⟨rfl, rfl⟩ ⟨by simp only [rmX3_readCall, rmX3_take]; omega, by simp only [rmX3_readCall, rmX3_take]; omega⟩ ⟨Nat.zero_le _, Nat.zero_le _⟩ 23 rfl rfl rfl rfl (Nat.le_of_ble_eq_true rfl) dX3_readCall_25 (SG.one (c8 K a V0) (c6 K d V2) rfl rfl rfl) rfl ?_
    refine g_if_eq X hf 43 dX3_readCall_28 (by decide) (fun hf => ?_) (fun hf => ?_)
    · refine g_iconst X dX3_readCall_43 ?_
      cases hf
      exact g_zret X (Or.inl rfl) hr hlk dX3_readCall_44
    · refine g_aload_n X dX3_readCall_31 3 rfl rfl ?_
      refine g_iload_n X dX3_readCall_32 4 rfl rfl ?_
      refine g_iload X dX3_readCall_33 5 rfl ?_
      refine g_iload X dX3_readCall_35 0 rfl ?_
      obtain ⟨w24, hc25, hf⟩ := Option.bind_eq_some_iff.mp hf
      refine g_callV X (As := [ii p3, ii p4, ii v20]) (st := []) (st1 := [ii w24.1]) (ws' := c8 K a V0 ++ (c3 K b w22.2 ++ (c6 K d w24.2))) (X6_add_ok K l d V2 p3 p4 v20 w24 hc25) gX3_readCall_X6_add rfl 3 (by decide +kernel) ⟨rfl, rfl⟩ ⟨by simp only [rmX3_readCall, rmX6_add]; omega, by simp only [rmX3_readCall, rmX6_add]; omega⟩ ⟨Nat.zero_le _, Nat.zero_le _⟩ 25 rfl rfl rfl rfl (Nat.le_of_ble_eq_true rfl) dX3_readCall_37 (SG.one (c8 K a V0 ++ (c3 K b w22.2)) [] rfl rfl rfl) rfl ?_
      refine g_if_ne X hf 45 dX3_readCall_40 (by decide) (fun hf => ?_) (fun hf => ?_)
      · refine g_iconst X dX3_readCall_43 ?_
        cases hf
        exact g_zret X (Or.inl rfl) hr hlk dX3_readCall_44
      · refine g_iconst X dX3_readCall_45 ?_
        refine g_istore X (lv' := [(6, ii 0), (5, ii v20), (0, .ref (b 0)), (1, .ref (a 0)), (2, .ref (d 0)), (3, ii p3), (4, ii p4)]) dX3_readCall_46 (by decide) rfl ?_
        refine g_sub (lv' := [(0, .ref (b 0)), (1, .ref (a 0)), (2, .ref (d 0)), (5, ii v20), (6, ii 0)]) [2, 3, 4, 1, 0] rfl ?_
        refine X3_readCall_L48_ok K l a b d RE dp hRE WC X hr hlk V0 v20 res FU 0 w22.2 w24.2 hf (fun w26 w27 hf => ?_)
        refine g_aload_n X dX3_readCall_88 0 rfl rfl ?_
        refine g_bipush X dX3_readCall_89 (by decide +kernel) ?_
        obtain ⟨w28, hc29, hf⟩ := Option.bind_eq_some_iff.mp hf
        refine g_callV X (As := [ii 41]) (st := []) (st1 := [ii w28.1]) (ws' := c8 K a V0 ++ (c3 K b w28.2 ++ (c6 K d w27))) (X3_take_ok K l b w26 41 w28 hc29) gX3_readCall_X3_take rfl 1 (by decide +kernel) ⟨rfl, rfl⟩ ⟨by simp only [rmX3_readCall, rmX3_take]; omega, by simp only [rmX3_readCall, rmX3_take]; omega⟩ ⟨Nat.zero_le _, Nat.zero_le _⟩ 23 rfl rfl rfl rfl (Nat.le_of_ble_eq_true rfl) dX3_readCall_91 (SG.one (c8 K a V0) (c6 K d w27) rfl rfl rfl) rfl ?_
        obtain ⟨hb30, hf⟩ := boK_some hf
        cases hf
        exact g_zret X hb30 hr hlk dX3_readCall_94
  · subst hv
    refine g_stk (st' := [.ref (ash a 9 0)]) rfl ?_
    refine g_iload X dX3_readCall_5 4 rfl ?_
    obtain ⟨v31, hc32, hf⟩ := Option.bind_eq_some_iff.mp hf
    refine g_callV X (As := [ii p4]) (st := []) (st1 := [ii v31]) (ws' := c8 K a V0 ++ (c3 K b V1 ++ (c6 K d V2))) (X1_arityOf_ok K l 4 (by decide) (ash a 9) V0.2.2.1 p4 v31 hc32) gX3_readCall_X1_arityOf rfl 1 (by decide +kernel) ⟨rfl, rfl⟩ ⟨by simp only [rmX3_readCall, rmX1_arityOf]; omega, by simp only [rmX3_readCall, rmX1_arityOf]; omega⟩ ⟨Nat.zero_le _, Nat.zero_le _⟩ 9 rfl rfl rfl rfl (Nat.le_of_ble_eq_true rfl) dX3_readCall_7 (SG.one ([(a 0, .inr (8, [.ref (ash a 1 0), .ref (ash a 5 0), .ref (ash a 9 0), ii V0.2.2.2.1, .ref (a 13), ii V0.2.2.2.2.2.1, .ref (ash a 14 0), .ref (ash a 18 0), .ref (a 22)]))] ++ (c1 K 6 (ash a 1) V0.1 ++ (c1 K 6 (ash a 5) V0.2.1))) ([(a 13, .inl (K.2.1, 6, .inl (arI V0.2.2.2.2.1)))] ++ (c4 K (ash a 14) V0.2.2.2.2.2.2.1 ++ (c6 K (ash a 18) V0.2.2.2.2.2.2.2.1 ++ ([(a 22, .inl (K.2.1, 8, .inl (arI V0.2.2.2.2.2.2.2.2)))] ++ (c3 K b V1 ++ (c6 K d V2)))))) rfl rfl rfl) rfl ?_
    refine g_istore X (lv' := [(5, ii v31), (0, .ref (b 0)), (1, .ref (a 0)), (2, .ref (d 0)), (3, ii p3), (4, ii p4)]) dX3_readCall_10 (by decide) rfl ?_
    refine g_aload_n X dX3_readCall_12 1 rfl rfl ?_
    refine g_dup X dX3_readCall_13 rfl ?_
    refine g_get X (v := ii V1.2.2) 23 2 dX3_readCall_14 rfl rfl iw_X3_readCall_X3 (by decide) fl_X3_readCall_19 rfl ?_
    refine g_iconst X dX3_readCall_17 ?_
    refine g_iadd X dX3_readCall_18 ?_
    refine g_puti X 23 2 dX3_readCall_19 rfl rfl iw_X3_readCall_X3 tyX3_ok nmX3 (by decide) fl_X3_readCall_19 rfl rfl (Nat.le_of_ble_eq_true rfl) (ws' := c8 K a V0 ++ (c3 K b (V1.1, V1.2.1, (V1.2.2 + 1)) ++ (c6 K d V2))) rfl ?_
    refine g_aload_n X dX3_readCall_22 1 rfl rfl ?_
    refine g_bipush X dX3_readCall_23 (by decide +kernel) ?_
    obtain ⟨w33, hc34, hf⟩ := Option.bind_eq_some_iff.mp hf
    refine g_callV X (As := [ii 40]) (st := []) (st1 := [ii w33.1]) (ws' := c8 K a V0 ++ (c3 K b w33.2 ++ (c6 K d V2))) (X3_take_ok K l b (V1.1, V1.2.1, (V1.2.2 + 1)) 40 w33 hc34) gX3_readCall_X3_take rfl 1 (by decide +kernel) ⟨rfl, rfl⟩ ⟨by simp only [rmX3_readCall, rmX3_take]; omega, by simp only [rmX3_readCall, rmX3_take]; omega⟩ ⟨Nat.zero_le _, Nat.zero_le _⟩ 23 rfl rfl rfl rfl (Nat.le_of_ble_eq_true rfl) dX3_readCall_25 (SG.one (c8 K a V0) (c6 K d V2) rfl rfl rfl) rfl ?_
    refine g_if_eq X hf 43 dX3_readCall_28 (by decide) (fun hf => ?_) (fun hf => ?_)
    · refine g_iconst X dX3_readCall_43 ?_
      cases hf
      exact g_zret X (Or.inl rfl) hr hlk dX3_readCall_44
    · refine g_aload_n X dX3_readCall_31 3 rfl rfl ?_
      refine g_iload_n X dX3_readCall_32 4 rfl rfl ?_
      refine g_iload X dX3_readCall_33 5 rfl ?_
      refine g_iload X dX3_readCall_35 0 rfl ?_
      obtain ⟨w35, hc36, hf⟩ := Option.bind_eq_some_iff.mp hf
      refine g_callV X (As := [ii p3, ii p4, ii v31]) (st := []) (st1 := [ii w35.1]) (ws' := c8 K a V0 ++ (c3 K b w33.2 ++ (c6 K d w35.2))) (X6_add_ok K l d V2 p3 p4 v31 w35 hc36) gX3_readCall_X6_add rfl 3 (by decide +kernel) ⟨rfl, rfl⟩ ⟨by simp only [rmX3_readCall, rmX6_add]; omega, by simp only [rmX3_readCall, rmX6_add]; omega⟩ ⟨Nat.zero_le _, Nat.zero_le _⟩ 25 rfl rfl rfl rfl (Nat.le_of_ble_eq_true rfl) dX3_readCall_37 (SG.one (c8 K a V0 ++ (c3 K b w33.2)) [] rfl rfl rfl) rfl ?_
      refine g_if_ne X hf 45 dX3_readCall_40 (by decide) (fun hf => ?_) (fun hf => ?_)
      · refine g_iconst X dX3_readCall_43 ?_
        cases hf
        exact g_zret X (Or.inl rfl) hr hlk dX3_readCall_44
      · refine g_iconst X dX3_readCall_45 ?_
        refine g_istore X (lv' := [(6, ii 0), (5, ii v31), (0, .ref (b 0)), (1, .ref (a 0)), (2, .ref (d 0)), (3, ii p3), (4, ii p4)]) dX3_readCall_46 (by decide) rfl ?_
        refine g_sub (lv' := [(0, .ref (b 0)), (1, .ref (a 0)), (2, .ref (d 0)), (5, ii v31), (6, ii 0)]) [2, 3, 4, 1, 0] rfl ?_
        refine X3_readCall_L48_ok K l a b d RE dp hRE WC X hr hlk V0 v31 res FU 0 w33.2 w35.2 hf (fun w37 w38 hf => ?_)
        refine g_aload_n X dX3_readCall_88 0 rfl rfl ?_
        refine g_bipush X dX3_readCall_89 (by decide +kernel) ?_
        obtain ⟨w39, hc40, hf⟩ := Option.bind_eq_some_iff.mp hf
        refine g_callV X (As := [ii 41]) (st := []) (st1 := [ii w39.1]) (ws' := c8 K a V0 ++ (c3 K b w39.2 ++ (c6 K d w38))) (X3_take_ok K l b w37 41 w39 hc40) gX3_readCall_X3_take rfl 1 (by decide +kernel) ⟨rfl, rfl⟩ ⟨by simp only [rmX3_readCall, rmX3_take]; omega, by simp only [rmX3_readCall, rmX3_take]; omega⟩ ⟨Nat.zero_le _, Nat.zero_le _⟩ 23 rfl rfl rfl rfl (Nat.le_of_ble_eq_true rfl) dX3_readCall_91 (SG.one (c8 K a V0) (c6 K d w38) rfl rfl rfl) rfl ?_
        obtain ⟨hb41, hf⟩ := boK_some hf
        cases hf
        exact g_zret X hb41 hr hlk dX3_readCall_94
set_option maxHeartbeats 4000000 in
set_option maxRecDepth 100000 in
theorem X3_readCall_ok (K : KE) (l : Launch) (RE : St → In → Pg → Option (Int × In × Pg)) (dp : Nat) {a : Nat → Nat} {b : Nat → Nat} {d : Nat → Nat} (hRE : ∀ (V0 : St) (V1 : In) (V2 : Pg) (res : Int × In × Pg), RE V0 V1 V2 = some res → CT l K.1 vwCl (kT K) yX3_readExpression wsX3_readExpression (rmX3_readExpression dp) [.ref (b 0), .ref (a 0), .ref (d 0)] (some (ii res.1)) (c8 K a V0 ++ (c3 K b V1 ++ (c6 K d V2))) (c8 K a V0 ++ (c3 K b res.2.1 ++ (c6 K d res.2.2)))) (V0 : St) (V1 : In) (V2 : Pg) (p3 : Int) (p4 : Int) (res : Int × In × Pg) (hf : X3_readCall RE V0 V1 V2 p3 p4 = some res) : CT l K.1 vwCl (kT K) yX3_readCall wsX3_readCall (rmX3_readCall dp) [.ref (b 0), .ref (a 0), .ref (d 0), ii p3, ii p4] (some (ii res.1)) (c8 K a V0 ++ (c3 K b V1 ++ (c6 K d V2))) (c8 K a V0 ++ (c3 K b res.2.1 ++ (c6 K d res.2.2))) :=
  CT.mk (cc := cX3_readCall) (maxL := 7) (ret := (some .boolean)) (by decide) rfl (Nat.le_of_ble_eq_true rfl) (fun p e s m below meth c X hr hlk => X3_readCall_go K l a b d RE dp hRE _ X hr hlk V0 V1 V2 p3 p4 res hf)
theorem iw_X3_readExpression_X3 : ∀ w ∈ u_ws RX3 TX3 3, w ∈ wsX3_readExpression := by decide +kernel
theorem fl_X3_readExpression_19 : Cond.fieldLink RX3 19 (TX3 2).1 (TX3 2).2.1 (TX3 2).2.2.1 ∈ wsX3_readExpression := by decide +kernel
theorem fl_X3_readExpression_15 : Cond.fieldLink RX3 15 (TX3 1).1 (TX3 1).2.1 (TX3 1).2.2.1 ∈ wsX3_readExpression := by decide +kernel
theorem iw_X3_readExpression_X6 : ∀ w ∈ u_ws RX6 TX6 4, w ∈ wsX3_readExpression := by decide +kernel
theorem fl_X3_readExpression_22 : Cond.fieldLink RX3 22 (TX6 0).1 (TX6 0).2.1 (TX6 0).2.2.1 ∈ wsX3_readExpression := by decide +kernel
theorem fl_X3_readExpression_9 : Cond.fieldLink RX3 9 (TX3 0).1 (TX3 0).2.1 (TX3 0).2.2.1 ∈ wsX3_readExpression := by decide +kernel
theorem ne_X3_readExpression_31 : (RX3, 31, yX9_within) ∈ nestL := by decide +kernel
theorem wd_X3_readExpression_ini9 : Cond.initialized yX9_within.cls ∈ wsX3_readExpression := by decide +kernel
theorem wd_X3_readExpression_sta_X9_within : Cond.static yX9_within ∈ wsX3_readExpression := by decide +kernel
theorem iw_X3_readExpression_X8 : ∀ w ∈ u_ws RX8 TX8 9, w ∈ wsX3_readExpression := by decide +kernel
theorem fl_X3_readExpression_46 : Cond.fieldLink RX3 46 (TX8 3).1 (TX8 3).2.1 (TX8 3).2.2.1 ∈ wsX3_readExpression := by decide +kernel
def X3_readExpression : Nat → St → In → Pg → Option (Int × In × Pg)
  | 0, _, _, _ => none
  | n + 1, V0, V1, V2 => brLT V1.2.2 V1.2.1 (brLT V2.1 30 (rdK 120 V1.1 V1.2.2 (fun v1 => (X9_within v1 48 57).bind (fun v2 => brEQ v2 0 ((X9_within v1 120 121).bind (fun v4 => brEQ v4 0 ((X9_within v1 97 102).bind (fun v6 => brEQ v6 0 ((X9_within v1 65 70).bind (fun v8 => brEQ v8 0 ((X9_within v1 112 ((112 + V0.2.2.2.1) - 1)).bind (fun v10 => brEQ v10 0 (some (0, V1, V2)) ((X3_readCall (X3_readExpression n) V0 V1 V2 4 (v1 - 112)).bind (fun w12 => boK w12.1 (some (w12.1, w12.2.1, w12.2.2)))))) ((X3_readCall (X3_readExpression n) V0 V1 V2 3 (v1 - 65)).bind (fun w15 => boK w15.1 (some (w15.1, w15.2.1, w15.2.2)))))) ((X3_readCall (X3_readExpression n) V0 V1 V2 2 (v1 - 97)).bind (fun w18 => boK w18.1 (some (w18.1, w18.2.1, w18.2.2)))))) ((X6_add V2 1 (v1 - 120) 0).bind (fun w21 => boK w21.1 (some (w21.1, (V1.1, V1.2.1, (V1.2.2 + 1)), w21.2)))))) ((X3_readNumber V1 V2).bind (fun w24 => boK w24.1 (some (w24.1, w24.2.1, w24.2.2))))))) (some (0, V1, V2))) (some (0, V1, V2))
set_option maxHeartbeats 4000000 in
set_option maxRecDepth 100000 in
theorem X3_readExpression_go (K : KE) (l : Launch) (a : Nat → Nat) (b : Nat → Nat) (d : Nat → Nat) (n : Nat) (ih : ∀ (V0 : St) (V1 : In) (V2 : Pg) (res : Int × In × Pg), X3_readExpression n V0 V1 V2 = some res → CT l K.1 vwCl (kT K) yX3_readExpression wsX3_readExpression (rmX3_readExpression n) [.ref (b 0), .ref (a 0), .ref (d 0)] (some (ii res.1)) (c8 K a V0 ++ (c3 K b V1 ++ (c6 K d V2))) (c8 K a V0 ++ (c3 K b res.2.1 ++ (c6 K d res.2.2)))) (WC : va_W) {p : Program} {e : Env} {s : State} {m : MethodId} {args : Array Value} {below : List Frame} {meth : Method} {c : Code} (X : CX p s m args c K.1 vwCl (kT K) (va_A WC s.heap.size) cX3_readExpression 4 wsX3_readExpression RX3) (hr : meth.sig.returnType = (some .boolean)) (hlk : meth.locks = false) (V0 : St) (V1 : In) (V2 : Pg) (res : Int × In × Pg) (hf : X3_readExpression (n + 1) V0 V1 V2 = some res) : GO p l e (rmX3_readExpression (n + 1)) s m args below meth c K.1 vwCl (va_A WC s.heap.size) (MQ below (QC K.1 vwCl (some (ii res.1)) WC (c8 K a V0 ++ (c3 K b res.2.1 ++ (c6 K d res.2.2))) s.heap.size) args s 0 0 (va_A WC s.heap.size)) 4 0 0 0 [(0, .ref (b 0)), (1, .ref (a 0)), (2, .ref (d 0))] [] (c8 K a V0 ++ (c3 K b V1 ++ (c6 K d V2))) := by
  rw [X3_readExpression] at hf
  refine g_aload_n X dX3_readExpression_0 0 rfl rfl ?_
  refine g_get X (v := ii V1.2.2) 23 2 dX3_readExpression_1 rfl rfl iw_X3_readExpression_X3 (by decide) fl_X3_readExpression_19 rfl ?_
  refine g_aload_n X dX3_readExpression_4 0 rfl rfl ?_
  refine g_get X (v := ii V1.2.1) 23 1 dX3_readExpression_5 rfl rfl iw_X3_readExpression_X3 (by decide) fl_X3_readExpression_15 rfl ?_
  refine g_icmp_ge X hf 20 dX3_readExpression_8 (by decide) (fun hf => ?_) (fun hf => ?_)
  · refine g_aload_n X dX3_readExpression_11 2 rfl rfl ?_
    refine g_get X (v := ii V2.1) 25 0 dX3_readExpression_12 rfl rfl iw_X3_readExpression_X6 (by decide) fl_X3_readExpression_22 rfl ?_
    refine g_bipush X dX3_readExpression_15 (by decide +kernel) ?_
    refine g_icmp_lt X hf 22 dX3_readExpression_17 (by decide) (fun hf => ?_) (fun hf => ?_)
    · refine g_aload_n X dX3_readExpression_22 0 rfl rfl ?_
      refine g_get X (v := .ref (b 1)) 23 0 dX3_readExpression_23 rfl rfl iw_X3_readExpression_X3 (by decide) fl_X3_readExpression_9 rfl ?_
      refine g_aload_n X dX3_readExpression_26 0 rfl rfl ?_
      refine g_get X (v := ii V1.2.2) 23 2 dX3_readExpression_27 rfl rfl iw_X3_readExpression_X3 (by decide) fl_X3_readExpression_19 rfl ?_
      refine g_iald X hf (by decide) 24 0 dX3_readExpression_30 rfl rfl (fun v1 hf => ?_)
      refine g_istore_n X (lv' := [(3, ii v1), (0, .ref (b 0)), (1, .ref (a 0)), (2, .ref (d 0))]) dX3_readExpression_31 rfl (by decide) rfl ?_
      refine g_iload_n X dX3_readExpression_32 0 rfl rfl ?_
      refine g_bipush X dX3_readExpression_33 (by decide +kernel) ?_
      refine g_bipush X dX3_readExpression_35 (by decide +kernel) ?_
      obtain ⟨v2, hc3, hf⟩ := Option.bind_eq_some_iff.mp hf
      refine g_callSN X (As := [ii v1, ii 48, ii 57]) (st := []) (st1 := [ii v2]) (ws' := c8 K a V0 ++ (c3 K b V1 ++ (c6 K d V2))) (X9_within_ok K l v1 48 57 v2 hc3) ggX3_readExpression_X9_within ne_X3_readExpression_31 wd_X3_readExpression_ini9 wd_X3_readExpression_sta_X9_within rfl 3 (by decide +kernel) ⟨rfl, rfl⟩ ⟨by simp only [rmX3_readExpression, rmX9_within]; omega, by simp only [rmX3_readExpression, rmX9_within]; omega⟩ ⟨Nat.zero_le _, Nat.zero_le _⟩ rfl rfl (Nat.le_of_ble_eq_true rfl) dX3_readExpression_37 SG.none rfl ?_
      refine g_if_eq X hf 49 dX3_readExpression_40 (by decide) (fun hf => ?_) (fun hf => ?_)
      · refine g_iload_n X dX3_readExpression_49 0 rfl rfl ?_
        refine g_bipush X dX3_readExpression_50 (by decide +kernel) ?_
        refine g_bipush X dX3_readExpression_52 (by decide +kernel) ?_
        obtain ⟨v4, hc5, hf⟩ := Option.bind_eq_some_iff.mp hf
        refine g_callSN X (As := [ii v1, ii 120, ii 121]) (st := []) (st1 := [ii v4]) (ws' := c8 K a V0 ++ (c3 K b V1 ++ (c6 K d V2))) (X9_within_ok K l v1 120 121 v4 hc5) ggX3_readExpression_X9_within ne_X3_readExpression_31 wd_X3_readExpression_ini9 wd_X3_readExpression_sta_X9_within rfl 3 (by decide +kernel) ⟨rfl, rfl⟩ ⟨by simp only [rmX3_readExpression, rmX9_within]; omega, by simp only [rmX3_readExpression, rmX9_within]; omega⟩ ⟨Nat.zero_le _, Nat.zero_le _⟩ rfl rfl (Nat.le_of_ble_eq_true rfl) dX3_readExpression_54 SG.none rfl ?_
        refine g_if_eq X hf 81 dX3_readExpression_57 (by decide) (fun hf => ?_) (fun hf => ?_)
        · refine g_iload_n X dX3_readExpression_81 0 rfl rfl ?_
          refine g_bipush X dX3_readExpression_82 (by decide +kernel) ?_
          refine g_bipush X dX3_readExpression_84 (by decide +kernel) ?_
          obtain ⟨v6, hc7, hf⟩ := Option.bind_eq_some_iff.mp hf
          refine g_callSN X (As := [ii v1, ii 97, ii 102]) (st := []) (st1 := [ii v6]) (ws' := c8 K a V0 ++ (c3 K b V1 ++ (c6 K d V2))) (X9_within_ok K l v1 97 102 v6 hc7) ggX3_readExpression_X9_within ne_X3_readExpression_31 wd_X3_readExpression_ini9 wd_X3_readExpression_sta_X9_within rfl 3 (by decide +kernel) ⟨rfl, rfl⟩ ⟨by simp only [rmX3_readExpression, rmX9_within]; omega, by simp only [rmX3_readExpression, rmX9_within]; omega⟩ ⟨Nat.zero_le _, Nat.zero_le _⟩ rfl rfl (Nat.le_of_ble_eq_true rfl) dX3_readExpression_86 SG.none rfl ?_
          refine g_if_eq X hf 104 dX3_readExpression_89 (by decide) (fun hf => ?_) (fun hf => ?_)
          · refine g_iload_n X dX3_readExpression_104 0 rfl rfl ?_
            refine g_bipush X dX3_readExpression_105 (by decide +kernel) ?_
            refine g_bipush X dX3_readExpression_107 (by decide +kernel) ?_
            obtain ⟨v8, hc9, hf⟩ := Option.bind_eq_some_iff.mp hf
            refine g_callSN X (As := [ii v1, ii 65, ii 70]) (st := []) (st1 := [ii v8]) (ws' := c8 K a V0 ++ (c3 K b V1 ++ (c6 K d V2))) (X9_within_ok K l v1 65 70 v8 hc9) ggX3_readExpression_X9_within ne_X3_readExpression_31 wd_X3_readExpression_ini9 wd_X3_readExpression_sta_X9_within rfl 3 (by decide +kernel) ⟨rfl, rfl⟩ ⟨by simp only [rmX3_readExpression, rmX9_within]; omega, by simp only [rmX3_readExpression, rmX9_within]; omega⟩ ⟨Nat.zero_le _, Nat.zero_le _⟩ rfl rfl (Nat.le_of_ble_eq_true rfl) dX3_readExpression_109 SG.none rfl ?_
            refine g_if_eq X hf 127 dX3_readExpression_112 (by decide) (fun hf => ?_) (fun hf => ?_)
            · refine g_iload_n X dX3_readExpression_127 0 rfl rfl ?_
              refine g_bipush X dX3_readExpression_128 (by decide +kernel) ?_
              refine g_bipush X dX3_readExpression_130 (by decide +kernel) ?_
              refine g_aload_n X dX3_readExpression_132 2 rfl rfl ?_
              refine g_get X (v := ii V0.2.2.2.1) 0 3 dX3_readExpression_133 rfl rfl iw_X3_readExpression_X8 (by decide) fl_X3_readExpression_46 rfl ?_
              refine g_iadd X dX3_readExpression_136 ?_
              refine g_iconst X dX3_readExpression_137 ?_
              refine g_isub X dX3_readExpression_138 ?_
              obtain ⟨v10, hc11, hf⟩ := Option.bind_eq_some_iff.mp hf
              refine g_callSN X (As := [ii v1, ii 112, ii ((112 + V0.2.2.2.1) - 1)]) (st := []) (st1 := [ii v10]) (ws' := c8 K a V0 ++ (c3 K b V1 ++ (c6 K d V2))) (X9_within_ok K l v1 112 ((112 + V0.2.2.2.1) - 1) v10 hc11) ggX3_readExpression_X9_within ne_X3_readExpression_31 wd_X3_readExpression_ini9 wd_X3_readExpression_sta_X9_within rfl 3 (by decide +kernel) ⟨rfl, rfl⟩ ⟨by simp only [rmX3_readExpression, rmX9_within]; omega, by simp only [rmX3_readExpression, rmX9_within]; omega⟩ ⟨Nat.zero_le _, Nat.zero_le _⟩ rfl rfl (Nat.le_of_ble_eq_true rfl) dX3_readExpression_139 SG.none rfl ?_
              refine g_if_eq X hf 157 dX3_readExpression_142 (by decide) (fun hf => ?_) (fun hf => ?_)
              · refine g_iconst X dX3_readExpression_157 ?_
                cases hf
                exact g_zret X (Or.inl rfl) hr hlk dX3_readExpression_158
              · refine g_aload_n X dX3_readExpression_145 1 rfl rfl ?_
                refine g_aload_n X dX3_readExpression_146 2 rfl rfl ?_
                refine g_aload_n X dX3_readExpression_147 3 rfl rfl ?_
                refine g_iconst X dX3_readExpression_148 ?_
                refine g_iload_n X dX3_readExpression_149 0 rfl rfl ?_
                refine g_bipush X dX3_readExpression_150 (by decide +kernel) ?_
                refine g_isub X dX3_readExpression_152 ?_
                obtain ⟨w12, hc13, hf⟩ := Option.bind_eq_some_iff.mp hf
                refine g_callV X (As := [.ref (a 0), .ref (d 0), ii 4, ii (v1 - 112)]) (st := []) (st1 := [ii w12.1]) (ws' := c8 K a V0 ++ (c3 K b w12.2.1 ++ (c6 K d w12.2.2))) (X3_readCall_ok K l (X3_readExpression n) n ih V0 V1 V2 4 (v1 - 112) w12 hc13) gX3_readExpression_X3_readCall rfl 4 (by decide +kernel) ⟨rfl, rfl⟩ ⟨by simp only [rmX3_readExpression, rmX3_readCall]; omega, by simp only [rmX3_readExpression, rmX3_readCall]; omega⟩ ⟨Nat.zero_le _, Nat.zero_le _⟩ 23 rfl rfl rfl rfl (Nat.le_of_ble_eq_true rfl) dX3_readExpression_153 (SG.all rfl) rfl ?_
                obtain ⟨hb14, hf⟩ := boK_some hf
                cases hf
                exact g_zret X hb14 hr hlk dX3_readExpression_156
            · refine g_aload_n X dX3_readExpression_115 1 rfl rfl ?_
              refine g_aload_n X dX3_readExpression_116 2 rfl rfl ?_
              refine g_aload_n X dX3_readExpression_117 3 rfl rfl ?_
              refine g_iconst X dX3_readExpression_118 ?_
              refine g_iload_n X dX3_readExpression_119 0 rfl rfl ?_
              refine g_bipush X dX3_readExpression_120 (by decide +kernel) ?_
              refine g_isub X dX3_readExpression_122 ?_
              obtain ⟨w15, hc16, hf⟩ := Option.bind_eq_some_iff.mp hf
              refine g_callV X (As := [.ref (a 0), .ref (d 0), ii 3, ii (v1 - 65)]) (st := []) (st1 := [ii w15.1]) (ws' := c8 K a V0 ++ (c3 K b w15.2.1 ++ (c6 K d w15.2.2))) (X3_readCall_ok K l (X3_readExpression n) n ih V0 V1 V2 3 (v1 - 65) w15 hc16) gX3_readExpression_X3_readCall rfl 4 (by decide +kernel) ⟨rfl, rfl⟩ ⟨by simp only [rmX3_readExpression, rmX3_readCall]; omega, by simp only [rmX3_readExpression, rmX3_readCall]; omega⟩ ⟨Nat.zero_le _, Nat.zero_le _⟩ 23 rfl rfl rfl rfl (Nat.le_of_ble_eq_true rfl) dX3_readExpression_123 (SG.all rfl) rfl ?_
              obtain ⟨hb17, hf⟩ := boK_some hf
              cases hf
              exact g_zret X hb17 hr hlk dX3_readExpression_126
          · refine g_aload_n X dX3_readExpression_92 1 rfl rfl ?_
            refine g_aload_n X dX3_readExpression_93 2 rfl rfl ?_
            refine g_aload_n X dX3_readExpression_94 3 rfl rfl ?_
            refine g_iconst X dX3_readExpression_95 ?_
            refine g_iload_n X dX3_readExpression_96 0 rfl rfl ?_
            refine g_bipush X dX3_readExpression_97 (by decide +kernel) ?_
            refine g_isub X dX3_readExpression_99 ?_
            obtain ⟨w18, hc19, hf⟩ := Option.bind_eq_some_iff.mp hf
            refine g_callV X (As := [.ref (a 0), .ref (d 0), ii 2, ii (v1 - 97)]) (st := []) (st1 := [ii w18.1]) (ws' := c8 K a V0 ++ (c3 K b w18.2.1 ++ (c6 K d w18.2.2))) (X3_readCall_ok K l (X3_readExpression n) n ih V0 V1 V2 2 (v1 - 97) w18 hc19) gX3_readExpression_X3_readCall rfl 4 (by decide +kernel) ⟨rfl, rfl⟩ ⟨by simp only [rmX3_readExpression, rmX3_readCall]; omega, by simp only [rmX3_readExpression, rmX3_readCall]; omega⟩ ⟨Nat.zero_le _, Nat.zero_le _⟩ 23 rfl rfl rfl rfl (Nat.le_of_ble_eq_true rfl) dX3_readExpression_100 (SG.all rfl) rfl ?_
            obtain ⟨hb20, hf⟩ := boK_some hf
            cases hf
            exact g_zret X hb20 hr hlk dX3_readExpression_103
        · refine g_aload_n X dX3_readExpression_60 1 rfl rfl ?_
          refine g_dup X dX3_readExpression_61 rfl ?_
          refine g_get X (v := ii V1.2.2) 23 2 dX3_readExpression_62 rfl rfl iw_X3_readExpression_X3 (by decide) fl_X3_readExpression_19 rfl ?_
          refine g_iconst X dX3_readExpression_65 ?_
          refine g_iadd X dX3_readExpression_66 ?_
          refine g_puti X 23 2 dX3_readExpression_67 rfl rfl iw_X3_readExpression_X3 tyX3_ok nmX3 (by decide) fl_X3_readExpression_19 rfl rfl (Nat.le_of_ble_eq_true rfl) (ws' := c8 K a V0 ++ (c3 K b (V1.1, V1.2.1, (V1.2.2 + 1)) ++ (c6 K d V2))) rfl ?_
          refine g_aload_n X dX3_readExpression_70 3 rfl rfl ?_
          refine g_iconst X dX3_readExpression_71 ?_
          refine g_iload_n X dX3_readExpression_72 0 rfl rfl ?_
          refine g_bipush X dX3_readExpression_73 (by decide +kernel) ?_
          refine g_isub X dX3_readExpression_75 ?_
          refine g_iconst X dX3_readExpression_76 ?_
          obtain ⟨w21, hc22, hf⟩ := Option.bind_eq_some_iff.mp hf
          refine g_callV X (As := [ii 1, ii (v1 - 120), ii 0]) (st := []) (st1 := [ii w21.1]) (ws' := c8 K a V0 ++ (c3 K b (V1.1, V1.2.1, (V1.2.2 + 1)) ++ (c6 K d w21.2))) (X6_add_ok K l d V2 1 (v1 - 120) 0 w21 hc22) gX3_readExpression_X6_add rfl 3 (by decide +kernel) ⟨rfl, rfl⟩ ⟨by simp only [rmX3_readExpression, rmX6_add]; omega, by simp only [rmX3_readExpression, rmX6_add]; omega⟩ ⟨Nat.zero_le _, Nat.zero_le _⟩ 25 rfl rfl rfl rfl (Nat.le_of_ble_eq_true rfl) dX3_readExpression_77 (SG.one (c8 K a V0 ++ (c3 K b (V1.1, V1.2.1, (V1.2.2 + 1)))) [] rfl rfl rfl) rfl ?_
          obtain ⟨hb23, hf⟩ := boK_some hf
          cases hf
          exact g_zret X hb23 hr hlk dX3_readExpression_80
      · refine g_aload_n X dX3_readExpression_43 1 rfl rfl ?_
        refine g_aload_n X dX3_readExpression_44 3 rfl rfl ?_
        obtain ⟨w24, hc25, hf⟩ := Option.bind_eq_some_iff.mp hf
        refine g_callV X (As := [.ref (d 0)]) (st := []) (st1 := [ii w24.1]) (ws' := c8 K a V0 ++ (c3 K b w24.2.1 ++ (c6 K d w24.2.2))) (X3_readNumber_ok K l b d V1 V2 w24 hc25) gX3_readExpression_X3_readNumber rfl 1 (by decide +kernel) ⟨rfl, rfl⟩ ⟨by simp only [rmX3_readExpression, rmX3_readNumber]; omega, by simp only [rmX3_readExpression, rmX3_readNumber]; omega⟩ ⟨Nat.zero_le _, Nat.zero_le _⟩ 23 rfl rfl rfl rfl (Nat.le_of_ble_eq_true rfl) dX3_readExpression_45 (SG.two (c8 K a V0) [] [] rfl rfl rfl) rfl ?_
        obtain ⟨hb26, hf⟩ := boK_some hf
        cases hf
        exact g_zret X hb26 hr hlk dX3_readExpression_48
    · refine g_iconst X dX3_readExpression_20 ?_
      cases hf
      exact g_zret X (Or.inl rfl) hr hlk dX3_readExpression_21
  · refine g_iconst X dX3_readExpression_20 ?_
    cases hf
    exact g_zret X (Or.inl rfl) hr hlk dX3_readExpression_21
set_option maxHeartbeats 4000000 in
set_option maxRecDepth 100000 in
theorem X3_readExpression_ok (K : KE) (l : Launch) (a : Nat → Nat) (b : Nat → Nat) (d : Nat → Nat) : ∀ (n : Nat) (V0 : St) (V1 : In) (V2 : Pg) (res : Int × In × Pg), X3_readExpression n V0 V1 V2 = some res → CT l K.1 vwCl (kT K) yX3_readExpression wsX3_readExpression (rmX3_readExpression n) [.ref (b 0), .ref (a 0), .ref (d 0)] (some (ii res.1)) (c8 K a V0 ++ (c3 K b V1 ++ (c6 K d V2))) (c8 K a V0 ++ (c3 K b res.2.1 ++ (c6 K d res.2.2))) := by
  intro n
  induction n with
  | zero =>
    intro V0 V1 V2 res hf
    rw [X3_readExpression] at hf
    cases hf
  | succ n ih =>
    intro V0 V1 V2 res hf
    exact CT.mk (cc := cX3_readExpression) (maxL := 4) (ret := (some .boolean)) (by decide) rfl (Nat.le_of_ble_eq_true rfl) (fun p e s m below meth c X hr hlk => X3_readExpression_go K l a b d n ih _ X hr hlk V0 V1 V2 res hf)
def rmX5_treatFrom (d : Nat) : Room := { frames := 2 * d + 4, cells := 0, slots := 0, locals := 60 * d + 100 }
def rmX5_treatArguments (d : Nat) : Room := { frames := 2 * d + 5, cells := 0, slots := 0, locals := 60 * d + 130 }
theorem iw_X5_treatArguments_X8 : ∀ w ∈ u_ws RX8 TX8 9, w ∈ wsX5_treatArguments := by decide +kernel
theorem fl_X5_treatArguments_26 : Cond.fieldLink RX5 26 (TX8 7).1 (TX8 7).2.1 (TX8 7).2.2.1 ∈ wsX5_treatArguments := by decide +kernel
theorem iw_X5_treatArguments_X6 : ∀ w ∈ u_ws RX6 TX6 4, w ∈ wsX5_treatArguments := by decide +kernel
theorem fl_X5_treatArguments_53 : Cond.fieldLink RX5 53 (TX6 3).1 (TX6 3).2.1 (TX6 3).2.2.1 ∈ wsX5_treatArguments := by decide +kernel
def X5_treatArguments_L19 (kx : St → Mv → Option (St × Mv)) (RE : St → Mv → Int → Int → Option (Int × St × Mv)) (x3 : Int) (x4 : Int) : Nat → Int → Int → St → Mv → Option (St × Mv)
  | 0, _, _, _, _ => none
  | n + 1, y5, y6, V0, V1 => brLT y6 x4 ((RE V0 V1 y5 (x3 + 1)).bind (fun w2 => X5_treatArguments_L19 kx RE x3 x4 n w2.1 (y6 + 1) w2.2.1 w2.2.2)) (kx V0 V1)
def X5_treatArguments (RE : St → Mv → Int → Int → Option (Int × St × Mv)) (V0 : St) (V1 : Mv) (p2 : Int) (p3 : Int) : Option (St × Mv) := rdK 30 V0.2.2.2.2.2.2.2.1.2.2.2 p2 (fun v1 => X5_treatArguments_L19 (fun w4 w5 => some (w4, w5)) RE p3 v1 FU (p2 + 1) 0 V0 V1)
set_option maxHeartbeats 4000000 in
set_option maxRecDepth 100000 in
theorem X5_treatArguments_L19_ok (K : KE) (l : Launch) (a : Nat → Nat) (b : Nat → Nat) (RE : St → Mv → Int → Int → Option (Int × St × Mv)) (dp : Nat) (hRE : ∀ (V0 : St) (V1 : Mv) (p2 : Int) (p3 : Int) (res : Int × St × Mv), RE V0 V1 p2 p3 = some res → CT l K.1 vwCl (kT K) yX5_treatFrom wsX5_treatFrom (rmX5_treatFrom dp) [.ref (b 0), .ref (a 0), ii p2, ii p3] (some (ii res.1)) (c8 K a V0 ++ (c5 K b V1)) (c8 K a res.2.1 ++ (c5 K b res.2.2))) (WC : va_W) {p : Program} {e : Env} {s : State} {m : MethodId} {args : Array Value} {below : List Frame} {meth : Method} {c : Code} (X : CX p s m args c K.1 vwCl (kT K) (va_A WC s.heap.size) cX5_treatArguments 7 wsX5_treatArguments RX5) (hr : meth.sig.returnType = none) (hlk : meth.locks = false)  (x3 : Int) (x4 : Int) (res : St × Mv) {kx : St → Mv → Option (St × Mv)} : ∀ (n : Nat) (y5 : Int) (y6 : Int) (V0 : St) (V1 : Mv), X5_treatArguments_L19 kx RE x3 x4 n y5 y6 V0 V1 = some res → (∀ (V0z : St) (V1z : Mv), kx V0z V1z = some res → GO p l e (rmX5_treatArguments dp) s m args below meth c K.1 vwCl (va_A WC s.heap.size) (MQ below (QC K.1 vwCl none WC (c8 K a res.1 ++ (c5 K b res.2)) s.heap.size) args s 0 0 (va_A WC s.heap.size)) 7 0 0 44 [] [] (c8 K a V0z ++ (c5 K b V1z))) → GO p l e (rmX5_treatArguments dp) s m args below meth c K.1 vwCl (va_A WC s.heap.size) (MQ below (QC K.1 vwCl none WC (c8 K a res.1 ++ (c5 K b res.2)) s.heap.size) args s 0 0 (va_A WC s.heap.size)) 7 0 0 19 [(0, .ref (b 0)), (1, .ref (a 0)), (3, ii x3), (4, ii x4), (5, ii y5), (6, ii y6)] [] (c8 K a V0 ++ (c5 K b V1)) := by
  intro n
  induction n with
  | zero =>
    intro y5 y6 V0 V1 hf _
    rw [X5_treatArguments_L19] at hf
    cases hf
  | succ n ih =>
    intro y5 y6 V0 V1 hf hk
    rw [X5_treatArguments_L19] at hf
    refine g_iload X dX5_treatArguments_19 5 rfl ?_
    refine g_iload X dX5_treatArguments_21 3 rfl ?_
    refine g_icmp_ge X hf 44 dX5_treatArguments_23 (by decide) (fun hf => ?_) (fun hf => ?_)
    · refine g_aload_n X dX5_treatArguments_26 0 rfl rfl ?_
      refine g_aload_n X dX5_treatArguments_27 1 rfl rfl ?_
      refine g_iload X dX5_treatArguments_28 4 rfl ?_
      refine g_iload_n X dX5_treatArguments_30 2 rfl rfl ?_
      refine g_iconst X dX5_treatArguments_31 ?_
      refine g_iadd X dX5_treatArguments_32 ?_
      obtain ⟨w2, hc3, hf⟩ := Option.bind_eq_some_iff.mp hf
      refine g_callV X (As := [.ref (a 0), ii y5, ii (x3 + 1)]) (st := []) (st1 := [ii w2.1]) (ws' := c8 K a w2.2.1 ++ (c5 K b w2.2.2)) (hRE V0 V1 y5 (x3 + 1) w2 hc3) gX5_treatArguments_X5_treatFrom rfl 3 (by decide +kernel) ⟨rfl, rfl⟩ ⟨by simp only [rmX5_treatArguments, rmX5_treatFrom]; omega, by simp only [rmX5_treatArguments, rmX5_treatFrom]; omega⟩ ⟨Nat.zero_le _, Nat.zero_le _⟩ 23 rfl rfl rfl rfl (Nat.le_of_ble_eq_true rfl) dX5_treatArguments_33 (SG.all rfl) rfl ?_
      refine g_istore X (lv' := [(5, ii w2.1), (0, .ref (b 0)), (1, .ref (a 0)), (3, ii x3), (4, ii x4), (6, ii y6)]) dX5_treatArguments_36 (by decide) rfl ?_
      refine g_iinc X (lv' := [(6, ii (y6 + 1)), (5, ii w2.1), (0, .ref (b 0)), (1, .ref (a 0)), (3, ii x3), (4, ii x4)]) dX5_treatArguments_38 5 rfl (by decide) rfl ?_
      refine g_goto X 19 dX5_treatArguments_41 (by decide) ?_
      refine g_sub (lv' := [(0, .ref (b 0)), (1, .ref (a 0)), (3, ii x3), (4, ii x4), (5, ii w2.1), (6, ii (y6 + 1))]) [2, 3, 4, 5, 1, 0] rfl ?_
      exact ih w2.1 (y6 + 1) w2.2.1 w2.2.2 hf hk
    · refine g_sub (lv' := []) [] rfl ?_
      exact hk V0 V1 hf
set_option maxHeartbeats 4000000 in
set_option maxRecDepth 100000 in
theorem X5_treatArguments_go (K : KE) (l : Launch) (a : Nat → Nat) (b : Nat → Nat) (RE : St → Mv → Int → Int → Option (Int × St × Mv)) (dp : Nat) (hRE : ∀ (V0 : St) (V1 : Mv) (p2 : Int) (p3 : Int) (res : Int × St × Mv), RE V0 V1 p2 p3 = some res → CT l K.1 vwCl (kT K) yX5_treatFrom wsX5_treatFrom (rmX5_treatFrom dp) [.ref (b 0), .ref (a 0), ii p2, ii p3] (some (ii res.1)) (c8 K a V0 ++ (c5 K b V1)) (c8 K a res.2.1 ++ (c5 K b res.2.2))) (WC : va_W) {p : Program} {e : Env} {s : State} {m : MethodId} {args : Array Value} {below : List Frame} {meth : Method} {c : Code} (X : CX p s m args c K.1 vwCl (kT K) (va_A WC s.heap.size) cX5_treatArguments 7 wsX5_treatArguments RX5) (hr : meth.sig.returnType = none) (hlk : meth.locks = false) (V0 : St) (V1 : Mv) (p2 : Int) (p3 : Int) (res : St × Mv) (hf : X5_treatArguments RE V0 V1 p2 p3 = some res) : GO p l e (rmX5_treatArguments dp) s m args below meth c K.1 vwCl (va_A WC s.heap.size) (MQ below (QC K.1 vwCl none WC (c8 K a res.1 ++ (c5 K b res.2)) s.heap.size) args s 0 0 (va_A WC s.heap.size)) 7 0 0 0 [(0, .ref (b 0)), (1, .ref (a 0)), (2, ii p2), (3, ii p3)] [] (c8 K a V0 ++ (c5 K b V1)) := by
  rw [X5_treatArguments] at hf
  refine g_aload_n X dX5_treatArguments_0 1 rfl rfl ?_
  refine g_get X (v := .ref (ash a 18 0)) 0 7 dX5_treatArguments_1 rfl rfl iw_X5_treatArguments_X8 (by decide) fl_X5_treatArguments_26 rfl ?_
  refine g_get X (v := .ref (ash a 18 3)) 18 3 dX5_treatArguments_4 rfl rfl iw_X5_treatArguments_X6 (by decide) fl_X5_treatArguments_53 rfl ?_
  refine g_iload_n X dX5_treatArguments_7 2 rfl rfl ?_
  refine g_iald X hf (by decide) 21 0 dX5_treatArguments_8 rfl rfl (fun v1 hf => ?_)
  refine g_istore X (lv' := [(4, ii v1), (0, .ref (b 0)), (1, .ref (a 0)), (2, ii p2), (3, ii p3)]) dX5_treatArguments_9 (by decide) rfl ?_
  refine g_iload_n X dX5_treatArguments_11 3 rfl rfl ?_
  refine g_iconst X dX5_treatArguments_12 ?_
  refine g_iadd X dX5_treatArguments_13 ?_
  refine g_istore X (lv' := [(5, ii (p2 + 1)), (4, ii v1), (0, .ref (b 0)), (1, .ref (a 0)), (2, ii p2), (3, ii p3)]) dX5_treatArguments_14 (by decide) rfl ?_
  refine g_iconst X dX5_treatArguments_16 ?_
  refine g_istore X (lv' := [(6, ii 0), (5, ii (p2 + 1)), (4, ii v1), (0, .ref (b 0)), (1, .ref (a 0)), (2, ii p2), (3, ii p3)]) dX5_treatArguments_17 (by decide) rfl ?_
  refine g_sub (lv' := [(0, .ref (b 0)), (1, .ref (a 0)), (3, ii p3), (4, ii v1), (5, ii (p2 + 1)), (6, ii 0)]) [3, 4, 6, 2, 1, 0] rfl ?_
  refine X5_treatArguments_L19_ok K l a b RE dp hRE WC X hr hlk p3 v1 res FU (p2 + 1) 0 V0 V1 hf (fun w4 w5 hf => ?_)
  cases hf
  exact g_vret X hr hlk dX5_treatArguments_44
set_option maxHeartbeats 4000000 in
set_option maxRecDepth 100000 in
theorem X5_treatArguments_ok (K : KE) (l : Launch) (RE : St → Mv → Int → Int → Option (Int × St × Mv)) (dp : Nat) {a : Nat → Nat} {b : Nat → Nat} (hRE : ∀ (V0 : St) (V1 : Mv) (p2 : Int) (p3 : Int) (res : Int × St × Mv), RE V0 V1 p2 p3 = some res → CT l K.1 vwCl (kT K) yX5_treatFrom wsX5_treatFrom (rmX5_treatFrom dp) [.ref (b 0), .ref (a 0), ii p2, ii p3] (some (ii res.1)) (c8 K a V0 ++ (c5 K b V1)) (c8 K a res.2.1 ++ (c5 K b res.2.2))) (V0 : St) (V1 : Mv) (p2 : Int) (p3 : Int) (res : St × Mv) (hf : X5_treatArguments RE V0 V1 p2 p3 = some res) : CT l K.1 vwCl (kT K) yX5_treatArguments wsX5_treatArguments (rmX5_treatArguments dp) [.ref (b 0), .ref (a 0), ii p2, ii p3] none (c8 K a V0 ++ (c5 K b V1)) (c8 K a res.1 ++ (c5 K b res.2)) :=
  CT.mk (cc := cX5_treatArguments) (maxL := 7) (ret := none) (by decide) rfl (Nat.le_of_ble_eq_true rfl) (fun p e s m below meth c X hr hlk => X5_treatArguments_go K l a b RE dp hRE _ X hr hlk V0 V1 p2 p3 res hf)
theorem iw_X5_treatFrom_X8 : ∀ w ∈ u_ws RX8 TX8 9, w ∈ wsX5_treatFrom := by decide +kernel
theorem fl_X5_treatFrom_26 : Cond.fieldLink RX5 26 (TX8 7).1 (TX8 7).2.1 (TX8 7).2.2.1 ∈ wsX5_treatFrom := by decide +kernel
theorem iw_X5_treatFrom_X6 : ∀ w ∈ u_ws RX6 TX6 4, w ∈ wsX5_treatFrom := by decide +kernel
theorem fl_X5_treatFrom_31 : Cond.fieldLink RX5 31 (TX6 0).1 (TX6 0).2.1 (TX6 0).2.2.1 ∈ wsX5_treatFrom := by decide +kernel
theorem fl_X5_treatFrom_39 : Cond.fieldLink RX5 39 (TX6 1).1 (TX6 1).2.1 (TX6 1).2.2.1 ∈ wsX5_treatFrom := by decide +kernel
theorem fl_X5_treatFrom_42 : Cond.fieldLink RX5 42 (TX8 8).1 (TX8 8).2.1 (TX8 8).2.2.1 ∈ wsX5_treatFrom := by decide +kernel
def X5_treatFrom : Nat → St → Mv → Int → Int → Option (Int × St × Mv)
  | 0, _, _, _, _ => none
  | n + 1, V0, V1, p2, p3 => brLT p2 V0.2.2.2.2.2.2.2.1.1 (brLT p3 30 ((X5_treatArguments (X5_treatFrom n) V0 V1 p2 p3).bind (fun w1 => rdK 30 w1.1.2.2.2.2.2.2.2.1.2.1 p2 (fun v3 => brEQ v3 2 ((X5_replaceOrReason w1.1 w1.2 p2).bind (fun w4 => rdK 8 w4.2.1.2.2.2.2.2.2.2.2 w4.1 (fun v6 => wrK 8 w4.2.1.2.2.2.2.2.2.2.2 w4.1 (v6 + 1) (fun f7 => (X6_endOf w4.2.1.2.2.2.2.2.2.2.1 p2).bind (fun v8 => some (v8, (w4.2.1.1, w4.2.1.2.1, w4.2.1.2.2.1, w4.2.1.2.2.2.1, w4.2.1.2.2.2.2.1, w4.2.1.2.2.2.2.2.1, w4.2.1.2.2.2.2.2.2.1, w4.2.1.2.2.2.2.2.2.2.1, f7), w4.2.2)))))) ((X6_endOf w1.1.2.2.2.2.2.2.2.1 p2).bind (fun v10 => some (v10, w1.1, w1.2)))))) (some (V0.2.2.2.2.2.2.2.1.1, V0, V1))) (some (V0.2.2.2.2.2.2.2.1.1, V0, V1))
set_option maxHeartbeats 4000000 in
set_option maxRecDepth 100000 in
theorem X5_treatFrom_go (K : KE) (l : Launch) (a : Nat → Nat) (b : Nat → Nat) (n : Nat) (ih : ∀ (V0 : St) (V1 : Mv) (p2 : Int) (p3 : Int) (res : Int × St × Mv), X5_treatFrom n V0 V1 p2 p3 = some res → CT l K.1 vwCl (kT K) yX5_treatFrom wsX5_treatFrom (rmX5_treatFrom n) [.ref (b 0), .ref (a 0), ii p2, ii p3] (some (ii res.1)) (c8 K a V0 ++ (c5 K b V1)) (c8 K a res.2.1 ++ (c5 K b res.2.2))) (WC : va_W) {p : Program} {e : Env} {s : State} {m : MethodId} {args : Array Value} {below : List Frame} {meth : Method} {c : Code} (X : CX p s m args c K.1 vwCl (kT K) (va_A WC s.heap.size) cX5_treatFrom 5 wsX5_treatFrom RX5) (hr : meth.sig.returnType = (some .int)) (hlk : meth.locks = false) (V0 : St) (V1 : Mv) (p2 : Int) (p3 : Int) (res : Int × St × Mv) (hf : X5_treatFrom (n + 1) V0 V1 p2 p3 = some res) : GO p l e (rmX5_treatFrom (n + 1)) s m args below meth c K.1 vwCl (va_A WC s.heap.size) (MQ below (QC K.1 vwCl (some (ii res.1)) WC (c8 K a res.2.1 ++ (c5 K b res.2.2)) s.heap.size) args s 0 0 (va_A WC s.heap.size)) 5 0 0 0 [(0, .ref (b 0)), (1, .ref (a 0)), (2, ii p2), (3, ii p3)] [] (c8 K a V0 ++ (c5 K b V1)) := by
  rw [X5_treatFrom] at hf
  refine g_aload_n X dX5_treatFrom_0 1 rfl rfl ?_
  refine g_get X (v := .ref (ash a 18 0)) 0 7 dX5_treatFrom_1 rfl rfl iw_X5_treatFrom_X8 (by decide) fl_X5_treatFrom_26 rfl ?_
  refine g_astore X (lv' := [(4, .ref (ash a 18 0)), (0, .ref (b 0)), (1, .ref (a 0)), (2, ii p2), (3, ii p3)]) dX5_treatFrom_4 (by decide) rfl ?_
  refine g_iload_n X dX5_treatFrom_6 3 rfl rfl ?_
  refine g_aload X dX5_treatFrom_7 0 rfl ?_
  refine g_get X (v := ii V0.2.2.2.2.2.2.2.1.1) 18 0 dX5_treatFrom_9 rfl rfl iw_X5_treatFrom_X6 (by decide) fl_X5_treatFrom_31 rfl ?_
  refine g_icmp_ge X hf 21 dX5_treatFrom_12 (by decide) (fun hf => ?_) (fun hf => ?_)
  · refine g_iload_n X dX5_treatFrom_15 4 rfl rfl ?_
    refine g_bipush X dX5_treatFrom_16 (by decide +kernel) ?_
    refine g_icmp_lt X hf 27 dX5_treatFrom_18 (by decide) (fun hf => ?_) (fun hf => ?_)
    · refine g_aload_n X dX5_treatFrom_27 1 rfl rfl ?_
      refine g_aload_n X dX5_treatFrom_28 2 rfl rfl ?_
      refine g_iload_n X dX5_treatFrom_29 3 rfl rfl ?_
      refine g_iload_n X dX5_treatFrom_30 4 rfl rfl ?_
      obtain ⟨w1, hc2, hf⟩ := Option.bind_eq_some_iff.mp hf
      refine g_callV X (As := [.ref (a 0), ii p2, ii p3]) (st := []) (st1 := []) (ws' := c8 K a w1.1 ++ (c5 K b w1.2)) (X5_treatArguments_ok K l (X5_treatFrom n) n ih V0 V1 p2 p3 w1 hc2) gX5_treatFrom_X5_treatArguments rfl 3 (by decide +kernel) ⟨rfl, rfl⟩ ⟨by simp only [rmX5_treatFrom, rmX5_treatArguments]; omega, by simp only [rmX5_treatFrom, rmX5_treatArguments]; omega⟩ ⟨Nat.zero_le _, Nat.zero_le _⟩ 23 rfl rfl rfl rfl (Nat.le_of_ble_eq_true rfl) dX5_treatFrom_31 (SG.all rfl) rfl ?_
      refine g_aload X dX5_treatFrom_34 0 rfl ?_
      refine g_get X (v := .ref (ash a 18 1)) 18 1 dX5_treatFrom_36 rfl rfl iw_X5_treatFrom_X6 (by decide) fl_X5_treatFrom_39 rfl ?_
      refine g_iload_n X dX5_treatFrom_39 3 rfl rfl ?_
      refine g_iald X hf (by decide) 19 0 dX5_treatFrom_40 rfl rfl (fun v3 hf => ?_)
      refine g_iconst X dX5_treatFrom_41 ?_
      refine g_icmp_ne X hf 60 dX5_treatFrom_42 (by decide) (fun hf => ?_) (fun hf => ?_)
      · refine g_aload_n X dX5_treatFrom_45 2 rfl rfl ?_
        refine g_get X (v := .ref (a 22)) 0 8 dX5_treatFrom_46 rfl rfl iw_X5_treatFrom_X8 (by decide) fl_X5_treatFrom_42 rfl ?_
        refine g_aload_n X dX5_treatFrom_49 1 rfl rfl ?_
        refine g_aload_n X dX5_treatFrom_50 2 rfl rfl ?_
        refine g_iload_n X dX5_treatFrom_51 3 rfl rfl ?_
        obtain ⟨w4, hc5, hf⟩ := Option.bind_eq_some_iff.mp hf
        refine g_callV X (As := [.ref (a 0), ii p2]) (st := [.ref (a 22)]) (st1 := [ii w4.1, .ref (a 22)]) (ws' := c8 K a w4.2.1 ++ (c5 K b w4.2.2)) (X5_replaceOrReason_ok K l a b w1.1 w1.2 p2 w4 hc5) gX5_treatFrom_X5_replaceOrReason rfl 2 (by decide +kernel) ⟨rfl, rfl⟩ ⟨by simp only [rmX5_treatFrom, rmX5_replaceOrReason]; omega, by simp only [rmX5_treatFrom, rmX5_replaceOrReason]; omega⟩ ⟨Nat.zero_le _, Nat.zero_le _⟩ 23 rfl rfl rfl rfl (Nat.le_of_ble_eq_true rfl) dX5_treatFrom_52 (SG.all rfl) rfl ?_
        refine g_dup2 X dX5_treatFrom_55 rfl rfl ?_
        refine g_iald X hf (by decide) 22 0 dX5_treatFrom_56 rfl rfl (fun v6 hf => ?_)
        refine g_iconst X dX5_treatFrom_57 ?_
        refine g_iadd X dX5_treatFrom_58 ?_
        refine g_iast X hf (by decide) 22 0 dX5_treatFrom_59 rfl rfl (fun f7 => c8 K a (w4.2.1.1, w4.2.1.2.1, w4.2.1.2.2.1, w4.2.1.2.2.2.1, w4.2.1.2.2.2.2.1, w4.2.1.2.2.2.2.2.1, w4.2.1.2.2.2.2.2.2.1, w4.2.1.2.2.2.2.2.2.2.1, f7) ++ (c5 K b w4.2.2)) (fun _ => rfl) (fun f7 hf => ?_)
        refine g_aload X dX5_treatFrom_60 0 rfl ?_
        refine g_iload_n X dX5_treatFrom_62 3 rfl rfl ?_
        obtain ⟨v8, hc9, hf⟩ := Option.bind_eq_some_iff.mp hf
        refine g_callV X (As := [ii p2]) (st := []) (st1 := [ii v8]) (ws' := c8 K a (w4.2.1.1, w4.2.1.2.1, w4.2.1.2.2.1, w4.2.1.2.2.2.1, w4.2.1.2.2.2.2.1, w4.2.1.2.2.2.2.2.1, w4.2.1.2.2.2.2.2.2.1, w4.2.1.2.2.2.2.2.2.2.1, f7) ++ (c5 K b w4.2.2)) (X6_endOf_ok K l (ash a 18) w4.2.1.2.2.2.2.2.2.2.1 p2 v8 hc9) gX5_treatFrom_X6_endOf rfl 1 (by decide +kernel) ⟨rfl, rfl⟩ ⟨by simp only [rmX5_treatFrom, rmX6_endOf]; omega, by simp only [rmX5_treatFrom, rmX6_endOf]; omega⟩ ⟨Nat.zero_le _, Nat.zero_le _⟩ 18 rfl rfl rfl rfl (Nat.le_of_ble_eq_true rfl) dX5_treatFrom_63 (SG.one ([(a 0, .inr (8, [.ref (ash a 1 0), .ref (ash a 5 0), .ref (ash a 9 0), ii w4.2.1.2.2.2.1, .ref (a 13), ii w4.2.1.2.2.2.2.2.1, .ref (ash a 14 0), .ref (ash a 18 0), .ref (a 22)]))] ++ (c1 K 6 (ash a 1) w4.2.1.1 ++ (c1 K 6 (ash a 5) w4.2.1.2.1 ++ (c1 K 4 (ash a 9) w4.2.1.2.2.1 ++ ([(a 13, .inl (K.2.1, 6, .inl (arI w4.2.1.2.2.2.2.1)))] ++ (c4 K (ash a 14) w4.2.1.2.2.2.2.2.2.1)))))) ([(a 22, .inl (K.2.1, 8, .inl (arI f7)))] ++ (c5 K b w4.2.2)) rfl rfl rfl) rfl ?_
        cases hf
        exact g_iret X hr hlk dX5_treatFrom_66
      · refine g_aload X dX5_treatFrom_60 0 rfl ?_
        refine g_iload_n X dX5_treatFrom_62 3 rfl rfl ?_
        obtain ⟨v10, hc11, hf⟩ := Option.bind_eq_some_iff.mp hf
        refine g_callV X (As := [ii p2]) (st := []) (st1 := [ii v10]) (ws' := c8 K a w1.1 ++ (c5 K b w1.2)) (X6_endOf_ok K l (ash a 18) w1.1.2.2.2.2.2.2.2.1 p2 v10 hc11) gX5_treatFrom_X6_endOf rfl 1 (by decide +kernel) ⟨rfl, rfl⟩ ⟨by simp only [rmX5_treatFrom, rmX6_endOf]; omega, by simp only [rmX5_treatFrom, rmX6_endOf]; omega⟩ ⟨Nat.zero_le _, Nat.zero_le _⟩ 18 rfl rfl rfl rfl (Nat.le_of_ble_eq_true rfl) dX5_treatFrom_63 (SG.one ([(a 0, .inr (8, [.ref (ash a 1 0), .ref (ash a 5 0), .ref (ash a 9 0), ii w1.1.2.2.2.1, .ref (a 13), ii w1.1.2.2.2.2.2.1, .ref (ash a 14 0), .ref (ash a 18 0), .ref (a 22)]))] ++ (c1 K 6 (ash a 1) w1.1.1 ++ (c1 K 6 (ash a 5) w1.1.2.1 ++ (c1 K 4 (ash a 9) w1.1.2.2.1 ++ ([(a 13, .inl (K.2.1, 6, .inl (arI w1.1.2.2.2.2.1)))] ++ (c4 K (ash a 14) w1.1.2.2.2.2.2.2.1)))))) ([(a 22, .inl (K.2.1, 8, .inl (arI w1.1.2.2.2.2.2.2.2.2)))] ++ (c5 K b w1.2)) rfl rfl rfl) rfl ?_
        cases hf
        exact g_iret X hr hlk dX5_treatFrom_66
    · refine g_aload X dX5_treatFrom_21 0 rfl ?_
      refine g_get X (v := ii V0.2.2.2.2.2.2.2.1.1) 18 0 dX5_treatFrom_23 rfl rfl iw_X5_treatFrom_X6 (by decide) fl_X5_treatFrom_31 rfl ?_
      cases hf
      exact g_iret X hr hlk dX5_treatFrom_26
  · refine g_aload X dX5_treatFrom_21 0 rfl ?_
    refine g_get X (v := ii V0.2.2.2.2.2.2.2.1.1) 18 0 dX5_treatFrom_23 rfl rfl iw_X5_treatFrom_X6 (by decide) fl_X5_treatFrom_31 rfl ?_
    cases hf
    exact g_iret X hr hlk dX5_treatFrom_26
set_option maxHeartbeats 4000000 in
set_option maxRecDepth 100000 in
theorem X5_treatFrom_ok (K : KE) (l : Launch) (a : Nat → Nat) (b : Nat → Nat) : ∀ (n : Nat) (V0 : St) (V1 : Mv) (p2 : Int) (p3 : Int) (res : Int × St × Mv), X5_treatFrom n V0 V1 p2 p3 = some res → CT l K.1 vwCl (kT K) yX5_treatFrom wsX5_treatFrom (rmX5_treatFrom n) [.ref (b 0), .ref (a 0), ii p2, ii p3] (some (ii res.1)) (c8 K a V0 ++ (c5 K b V1)) (c8 K a res.2.1 ++ (c5 K b res.2.2)) := by
  intro n
  induction n with
  | zero =>
    intro V0 V1 p2 p3 res hf
    rw [X5_treatFrom] at hf
    cases hf
  | succ n ih =>
    intro V0 V1 p2 p3 res hf
    exact CT.mk (cc := cX5_treatFrom) (maxL := 5) (ret := (some .int)) (by decide) rfl (Nat.le_of_ble_eq_true rfl) (fun p e s m below meth c X hr hlk => X5_treatFrom_go K l a b n ih _ X hr hlk V0 V1 p2 p3 res hf)
theorem iw_X3_readProgram_X3 : ∀ w ∈ u_ws RX3 TX3 3, w ∈ wsX3_readProgram := by decide +kernel
theorem fl_X3_readProgram_19 : Cond.fieldLink RX3 19 (TX3 2).1 (TX3 2).2.1 (TX3 2).2.2.1 ∈ wsX3_readProgram := by decide +kernel
theorem iw_X3_readProgram_X6 : ∀ w ∈ u_ws RX6 TX6 4, w ∈ wsX3_readProgram := by decide +kernel
theorem fl_X3_readProgram_22 : Cond.fieldLink RX3 22 (TX6 0).1 (TX6 0).2.1 (TX6 0).2.2.1 ∈ wsX3_readProgram := by decide +kernel
theorem fl_X3_readProgram_15 : Cond.fieldLink RX3 15 (TX3 1).1 (TX3 1).2.1 (TX3 1).2.2.1 ∈ wsX3_readProgram := by decide +kernel
def rmX3_readProgram : Room := { frames := 85, cells := 0, slots := 0, locals := 2523 }
def X3_readProgram (V0 : St) (V1 : In) (V2 : Pg) : Option (Int × In × Pg) := (X3_readExpression 40 V0 (V1.1, V1.2.1, 0) (0, V2.2.1, V2.2.2.1, V2.2.2.2)).bind (fun w1 => brEQ w1.1 0 (some (0, w1.2.1, w1.2.2)) (brEQ w1.2.1.2.2 w1.2.1.2.1 (some (1, w1.2.1, w1.2.2)) (some (0, w1.2.1, w1.2.2))))
set_option maxHeartbeats 4000000 in
set_option maxRecDepth 100000 in
theorem X3_readProgram_go (K : KE) (l : Launch) (a : Nat → Nat) (b : Nat → Nat) (d : Nat → Nat) (WC : va_W) {p : Program} {e : Env} {s : State} {m : MethodId} {args : Array Value} {below : List Frame} {meth : Method} {c : Code} (X : CX p s m args c K.1 vwCl (kT K) (va_A WC s.heap.size) cX3_readProgram 3 wsX3_readProgram RX3) (hr : meth.sig.returnType = (some .boolean)) (hlk : meth.locks = false) (V0 : St) (V1 : In) (V2 : Pg) (res : Int × In × Pg) (hf : X3_readProgram V0 V1 V2 = some res) : GO p l e rmX3_readProgram s m args below meth c K.1 vwCl (va_A WC s.heap.size) (MQ below (QC K.1 vwCl (some (ii res.1)) WC (c8 K a V0 ++ (c3 K b res.2.1 ++ (c6 K d res.2.2))) s.heap.size) args s 0 0 (va_A WC s.heap.size)) 3 0 0 0 [(0, .ref (b 0)), (1, .ref (a 0)), (2, .ref (d 0))] [] (c8 K a V0 ++ (c3 K b V1 ++ (c6 K d V2))) := by
  rw [X3_readProgram] at hf
  refine g_aload_n X dX3_readProgram_0 0 rfl rfl ?_
  refine g_iconst X dX3_readProgram_1 ?_
  refine g_puti X 23 2 dX3_readProgram_2 rfl rfl iw_X3_readProgram_X3 tyX3_ok nmX3 (by decide) fl_X3_readProgram_19 rfl rfl (Nat.le_of_ble_eq_true rfl) (ws' := c8 K a V0 ++ (c3 K b (V1.1, V1.2.1, 0) ++ (c6 K d V2))) rfl ?_
  refine g_aload_n X dX3_readProgram_5 2 rfl rfl ?_
  refine g_iconst X dX3_readProgram_6 ?_
  refine g_puti X 25 0 dX3_readProgram_7 rfl rfl iw_X3_readProgram_X6 tyX6_ok nmX6 (by decide) fl_X3_readProgram_22 rfl rfl (Nat.le_of_ble_eq_true rfl) (ws' := c8 K a V0 ++ (c3 K b (V1.1, V1.2.1, 0) ++ (c6 K d (0, V2.2.1, V2.2.2.1, V2.2.2.2)))) rfl ?_
  refine g_aload_n X dX3_readProgram_10 0 rfl rfl ?_
  refine g_aload_n X dX3_readProgram_11 1 rfl rfl ?_
  refine g_aload_n X dX3_readProgram_12 2 rfl rfl ?_
  obtain ⟨w1, hc2, hf⟩ := Option.bind_eq_some_iff.mp hf
  refine g_callV X (As := [.ref (a 0), .ref (d 0)]) (st := []) (st1 := [ii w1.1]) (ws' := c8 K a V0 ++ (c3 K b w1.2.1 ++ (c6 K d w1.2.2))) (X3_readExpression_ok K l a b d 40 V0 (V1.1, V1.2.1, 0) (0, V2.2.1, V2.2.2.1, V2.2.2.2) w1 hc2) gX3_readProgram_X3_readExpression rfl 2 (by decide +kernel) ⟨rfl, rfl⟩ ⟨Nat.le_of_ble_eq_true rfl, Nat.le_of_ble_eq_true rfl⟩ ⟨Nat.zero_le _, Nat.zero_le _⟩ 23 rfl rfl rfl rfl (Nat.le_of_ble_eq_true rfl) dX3_readProgram_13 (SG.all rfl) rfl ?_
  refine g_if_eq X hf 34 dX3_readProgram_16 (by decide) (fun hf => ?_) (fun hf => ?_)
  · refine g_iconst X dX3_readProgram_34 ?_
    cases hf
    exact g_zret X (Or.inl rfl) hr hlk dX3_readProgram_35
  · refine g_aload_n X dX3_readProgram_19 0 rfl rfl ?_
    refine g_get X (v := ii w1.2.1.2.2) 23 2 dX3_readProgram_20 rfl rfl iw_X3_readProgram_X3 (by decide) fl_X3_readProgram_19 rfl ?_
    refine g_aload_n X dX3_readProgram_23 0 rfl rfl ?_
    refine g_get X (v := ii w1.2.1.2.1) 23 1 dX3_readProgram_24 rfl rfl iw_X3_readProgram_X3 (by decide) fl_X3_readProgram_15 rfl ?_
    refine g_icmp_ne X hf 34 dX3_readProgram_27 (by decide) (fun hf => ?_) (fun hf => ?_)
    · refine g_iconst X dX3_readProgram_30 ?_
      refine g_goto X 35 dX3_readProgram_31 (by decide) ?_
      cases hf
      exact g_zret X (Or.inr rfl) hr hlk dX3_readProgram_35
    · refine g_iconst X dX3_readProgram_34 ?_
      cases hf
      exact g_zret X (Or.inl rfl) hr hlk dX3_readProgram_35
set_option maxHeartbeats 4000000 in
set_option maxRecDepth 100000 in
theorem X3_readProgram_ok (K : KE) (l : Launch) (a : Nat → Nat) (b : Nat → Nat) (d : Nat → Nat) (V0 : St) (V1 : In) (V2 : Pg) (res : Int × In × Pg) (hf : X3_readProgram V0 V1 V2 = some res) : CT l K.1 vwCl (kT K) yX3_readProgram wsX3_readProgram rmX3_readProgram [.ref (b 0), .ref (a 0), .ref (d 0)] (some (ii res.1)) (c8 K a V0 ++ (c3 K b V1 ++ (c6 K d V2))) (c8 K a V0 ++ (c3 K b res.2.1 ++ (c6 K d res.2.2))) :=
  CT.mk (cc := cX3_readProgram) (maxL := 3) (ret := (some .boolean)) (by decide) rfl (Nat.le_of_ble_eq_true rfl) (fun p e s m below meth c X hr hlk => X3_readProgram_go K l a b d _ X hr hlk V0 V1 V2 res hf)
