theorem wd_X0_init_oi1 : Cond.methodLink RX0 3 Lib.objectInit ∈ wsX0_init := by decide +kernel
theorem wd_X0_init_oi2 : Cond.instanceMethod Lib.objectInit ∈ wsX0_init := by decide +kernel
theorem wd_X0_init_oi3 : Cond.code Lib.objectInit ⟨#[0xb1]⟩ 1 none ∈ wsX0_init := by decide +kernel
theorem wd_X0_init_acint : Cond.arrayClass .int ∈ wsX0_init := by decide +kernel
theorem iw_X0_init_X0 : ∀ w ∈ u_ws RX0 TX0 2, w ∈ wsX0_init := by decide +kernel
theorem fl_X0_init_9 : Cond.fieldLink RX0 9 (TX0 0).1 (TX0 0).2.1 (TX0 0).2.2.1 ∈ wsX0_init := by decide +kernel
theorem fl_X0_init_15 : Cond.fieldLink RX0 15 (TX0 1).1 (TX0 1).2.1 (TX0 1).2.2.1 ∈ wsX0_init := by decide +kernel
def rmX0_init : Room := { frames := 1, cells := 1, slots := 30, locals := 20 }
set_option maxHeartbeats 8000000 in
set_option maxRecDepth 100000 in
theorem X0_init_ok (K : KE) (l : Launch) (h0 : Nat)  : CI l K.1 vwCl (kT K) yX0_init wsX0_init rmX0_init [.ref h0] h0 (.inr (0, [.null, ii 0])) (fun a => c0 K a (zA, 0)) := by
  refine CI.mk (cc := cX0_init) (maxL := 1) (by decide) rfl rfl (Nat.le_of_ble_eq_true rfl) (fun p e s m below meth c X hao hmn hr hlk => ?_)
  have X : CX p s m ([.ref h0] : List Value).toArray c K.1 vwCl (kT K) (va_A [(h0, .inr (0, [.null, ii 0]))] s.heap.size) cX0_init 1 wsX0_init RX0 := X
  refine g_aload_n X dX0_init_0 0 rfl rfl ?_
  refine g_objInit X wd_X0_init_oi1 wd_X0_init_oi2 wd_X0_init_oi3 dX0_init_1 ⟨Nat.le_of_ble_eq_true rfl, Nat.le_of_ble_eq_true rfl⟩ ?_
  refine g_aload_n X dX0_init_4 0 rfl rfl ?_
  refine g_bipush X dX0_init_5 (by decide +kernel) ?_
  refine g_stk (st' := [ii ((30 : Nat) : Int), .ref h0]) rfl ?_
  refine g_newi X (N := 30) rfl (Nat.le_of_ble_eq_true rfl) wd_X0_init_acint ⟨Nat.le_of_ble_eq_true rfl, Nat.le_of_ble_eq_true rfl⟩ dX0_init_7 (fun q1 => ?_)
  refine g_putF X hmn 0 0 dX0_init_9 rfl rfl iw_X0_init_X0 tyX0_ok nmX0 (by decide) fl_X0_init_9 rfl rfl rfl rfl rfl (Nat.le_of_ble_eq_true rfl) (ws' := ([(h0, .inr (0, [.ref q1, ii 0]))] ++ [(q1, .inl (K.2.1, 30, .inl (arI zA)))])) rfl ?_
  refine g_aload_n X dX0_init_12 0 rfl rfl ?_
  refine g_iconst X dX0_init_13 ?_
  refine g_puti X 0 1 dX0_init_14 rfl rfl iw_X0_init_X0 tyX0_ok nmX0 (by decide) fl_X0_init_15 rfl rfl (Nat.le_of_ble_eq_true rfl) (ws' := ([(h0, .inr (0, [.ref q1, ii 0]))] ++ [(q1, .inl (K.2.1, 30, .inl (arI zA)))])) rfl ?_
  exact g_iend X hr hlk (acons h0 (acons q1 (fun _ => 0))) rfl (List.Perm.of_eq rfl) dX0_init_17
theorem wd_X1_init_oi1 : Cond.methodLink RX1 3 Lib.objectInit ∈ wsX1_init := by decide +kernel
theorem wd_X1_init_oi2 : Cond.instanceMethod Lib.objectInit ∈ wsX1_init := by decide +kernel
theorem wd_X1_init_oi3 : Cond.code Lib.objectInit ⟨#[0xb1]⟩ 1 none ∈ wsX1_init := by decide +kernel
theorem wd_X1_init_ml9 : Cond.methodLink RX1 9 Lib.Math.max.name ∈ wsX1_init := by decide +kernel
theorem wd_X1_init_ms9 : Cond.static Lib.Math.max.name ∈ wsX1_init := by decide +kernel
theorem wd_X1_init_mi9 : Cond.initialized "java/lang/Math" ∈ wsX1_init := by decide +kernel
theorem wd_X1_init_mc9 : Cond.code Lib.Math.max.name Lib.Math.max.code 2 (some .int) ∈ wsX1_init := by decide +kernel
theorem iw_X1_init_X1 : ∀ w ∈ u_ws RX1 TX1 4, w ∈ wsX1_init := by decide +kernel
theorem fl_X1_init_15 : Cond.fieldLink RX1 15 (TX1 0).1 (TX1 0).2.1 (TX1 0).2.2.1 ∈ wsX1_init := by decide +kernel
theorem wd_X1_init_acint : Cond.arrayClass .int ∈ wsX1_init := by decide +kernel
theorem fl_X1_init_21 : Cond.fieldLink RX1 21 (TX1 1).1 (TX1 1).2.1 (TX1 1).2.2.1 ∈ wsX1_init := by decide +kernel
theorem fl_X1_init_25 : Cond.fieldLink RX1 25 (TX1 2).1 (TX1 2).2.1 (TX1 2).2.2.1 ∈ wsX1_init := by decide +kernel
theorem fl_X1_init_28 : Cond.fieldLink RX1 28 (TX1 3).1 (TX1 3).2.1 (TX1 3).2.2.1 ∈ wsX1_init := by decide +kernel
def rmX1_init (cn0 : Nat) : Room := { frames := 1, cells := 0 + 1 + 1 + 1, slots := 0 + cn0 + cn0 + 5 * cn0, locals := 40 }
set_option maxHeartbeats 8000000 in
set_option maxRecDepth 100000 in
theorem X1_init_ok (K : KE) (l : Launch) (h0 : Nat) (cn0 : Nat) (hcn0 : cn0 ≤ 1000) (gf : Arr) (hgf : J7_fill_53178 cn0 zA 1 = some gf) : CI l K.1 vwCl (kT K) yX1_init wsX1_init (rmX1_init cn0) [.ref h0, ii (cn0 : Int)] h0 (.inr (1, [ii 0, .null, .null, .null])) (fun a => c1 K cn0 a (gf, zA, zA)) := by
  refine CI.mk (cc := cX1_init) (maxL := 2) (by decide) rfl rfl (Nat.le_of_ble_eq_true rfl) (fun p e s m below meth c X hao hmn hr hlk => ?_)
  have X : CX p s m ([.ref h0, ii (cn0 : Int)] : List Value).toArray c K.1 vwCl (kT K) (va_A [(h0, .inr (1, [ii 0, .null, .null, .null]))] s.heap.size) cX1_init 2 wsX1_init RX1 := X
  refine g_aload_n X dX1_init_0 0 rfl rfl ?_
  refine g_objInit X wd_X1_init_oi1 wd_X1_init_oi2 wd_X1_init_oi3 dX1_init_1 ⟨by simp only [rmX1_init]; omega, by simp only [rmX1_init]; simp⟩ ?_
  refine g_aload_n X dX1_init_4 0 rfl rfl ?_
  refine g_iload_n X dX1_init_5 1 rfl rfl ?_
  refine g_iconst X dX1_init_6 ?_
  refine g_mmax X (K := some) (r := (cn0 : Int)) (by unfold mxK; rw [if_pos ⟨⟨by omega, by omega⟩, by decide⟩, if_neg (by omega)]) wd_X1_init_ml9 wd_X1_init_ms9 wd_X1_init_mi9 wd_X1_init_mc9 ⟨Nat.le_of_ble_eq_true rfl, Nat.le_of_ble_eq_true rfl, by simp only [rmX1_init]; omega, by simp only [rmX1_init]; omega⟩ dX1_init_7 (fun v hv => ?_)
  cases hv
  refine g_putF X hmn 0 0 dX1_init_10 rfl rfl iw_X1_init_X1 tyX1_ok nmX1 (by decide) fl_X1_init_15 rfl rfl rfl rfl rfl (Nat.le_of_ble_eq_true rfl) (ws' := [(h0, .inr (1, [ii (cn0 : Int), .null, .null, .null]))]) rfl ?_
  refine g_aload_n X dX1_init_13 0 rfl rfl ?_
  refine g_aload_n X dX1_init_14 0 rfl rfl ?_
  refine g_get X (v := ii (cn0 : Int)) 0 0 dX1_init_15 rfl rfl iw_X1_init_X1 (by decide) fl_X1_init_15 rfl ?_
  refine g_stk (st' := [ii ((cn0 : Nat) : Int), .ref h0]) rfl ?_
  refine g_newi X (N := cn0) rfl (by omega) wd_X1_init_acint ⟨by simp only [rmX1_init]; omega, by simp only [rmX1_init]; omega⟩ dX1_init_18 (fun q1 => ?_)
  refine g_putF X hmn 0 1 dX1_init_20 rfl rfl iw_X1_init_X1 tyX1_ok nmX1 (by decide) fl_X1_init_21 rfl rfl rfl rfl rfl (Nat.le_of_ble_eq_true rfl) (ws' := ([(h0, .inr (1, [ii (cn0 : Int), .ref q1, .null, .null]))] ++ [(q1, .inl (K.2.1, cn0, .inl (arI zA)))])) rfl ?_
  refine g_aload_n X dX1_init_23 0 rfl rfl ?_
  refine g_aload_n X dX1_init_24 0 rfl rfl ?_
  refine g_get X (v := ii (cn0 : Int)) 0 0 dX1_init_25 rfl rfl iw_X1_init_X1 (by decide) fl_X1_init_15 rfl ?_
  refine g_stk (st' := [ii ((cn0 : Nat) : Int), .ref h0]) rfl ?_
  refine g_newi X (N := cn0) rfl (by omega) wd_X1_init_acint ⟨by simp only [rmX1_init]; omega, by simp only [rmX1_init]; omega⟩ dX1_init_28 (fun q2 => ?_)
  refine g_putF X hmn 0 2 dX1_init_30 rfl rfl iw_X1_init_X1 tyX1_ok nmX1 (by decide) fl_X1_init_25 rfl rfl rfl rfl rfl (Nat.le_of_ble_eq_true rfl) (ws' := (([(h0, .inr (1, [ii (cn0 : Int), .ref q1, .ref q2, .null]))] ++ [(q1, .inl (K.2.1, cn0, .inl (arI zA)))]) ++ [(q2, .inl (K.2.1, cn0, .inl (arI zA)))])) rfl ?_
  refine g_aload_n X dX1_init_33 0 rfl rfl ?_
  refine g_aload_n X dX1_init_34 0 rfl rfl ?_
  refine g_get X (v := ii (cn0 : Int)) 0 0 dX1_init_35 rfl rfl iw_X1_init_X1 (by decide) fl_X1_init_15 rfl ?_
  refine g_iconst X dX1_init_38 ?_
  refine g_imul X dX1_init_39 ?_
  refine g_stk (st' := [ii (((5 * cn0) : Nat) : Int), .ref h0]) (by simp [Int.mul_comm]) ?_
  refine g_newi X (N := (5 * cn0)) rfl (by omega) wd_X1_init_acint ⟨by simp only [rmX1_init]; omega, by simp only [rmX1_init]; omega⟩ dX1_init_40 (fun q3 => ?_)
  refine g_putF X hmn 0 3 dX1_init_42 rfl rfl iw_X1_init_X1 tyX1_ok nmX1 (by decide) fl_X1_init_28 rfl rfl rfl rfl rfl (Nat.le_of_ble_eq_true rfl) (ws' := ((([(h0, .inr (1, [ii (cn0 : Int), .ref q1, .ref q2, .ref q3]))] ++ [(q1, .inl (K.2.1, cn0, .inl (arI zA)))]) ++ [(q2, .inl (K.2.1, cn0, .inl (arI zA)))]) ++ [(q3, .inl (K.2.1, (5 * cn0), .inl (arI zA)))])) rfl ?_
  refine g_aload_n X dX1_init_45 0 rfl rfl ?_
  refine g_get X (v := .ref q1) 0 1 dX1_init_46 rfl rfl iw_X1_init_X1 (by decide) fl_X1_init_21 rfl ?_
  refine g_iconst X dX1_init_49 ?_
  refine g_callS X (As := [.ref q1, ii 1]) (st := []) (st1 := []) (ws' := ((([(h0, .inr (1, [ii (cn0 : Int), .ref q1, .ref q2, .ref q3]))] ++ [(q1, .inl (K.2.1, cn0, .inl (arI gf)))]) ++ [(q2, .inl (K.2.1, cn0, .inl (arI zA)))]) ++ [(q3, .inl (K.2.1, (5 * cn0), .inl (arI zA)))])) (J7_fill_53178_ok K l cn0 hcn0 q1 zA 1 gf hgf) gX1_init_J7_fill_53178 rfl 2 (by decide +kernel) ⟨rfl, rfl⟩ ⟨by simp only [rmX1_init, rmJ7_fill_53178]; omega, by simp only [rmX1_init, rmJ7_fill_53178]; omega⟩ ⟨by simp only [rmX1_init]; omega, by simp only [rmX1_init]; omega⟩ rfl rfl (Nat.le_of_ble_eq_true rfl) dX1_init_50 (SG.one [(h0, .inr (1, [ii (cn0 : Int), .ref q1, .ref q2, .ref q3]))] ([(q2, .inl (K.2.1, cn0, .inl (arI zA)))] ++ ([(q3, .inl (K.2.1, (5 * cn0), .inl (arI zA)))])) (by simp) (by simp) rfl) rfl ?_
  exact g_iend X hr hlk (acons h0 (acons q1 (acons q2 (acons q3 (fun _ => 0))))) rfl (List.Perm.of_eq rfl) dX1_init_53
theorem wd_X3_init_oi1 : Cond.methodLink RX3 3 Lib.objectInit ∈ wsX3_init := by decide +kernel
theorem wd_X3_init_oi2 : Cond.instanceMethod Lib.objectInit ∈ wsX3_init := by decide +kernel
theorem wd_X3_init_oi3 : Cond.code Lib.objectInit ⟨#[0xb1]⟩ 1 none ∈ wsX3_init := by decide +kernel
theorem wd_X3_init_acint : Cond.arrayClass .int ∈ wsX3_init := by decide +kernel
theorem iw_X3_init_X3 : ∀ w ∈ u_ws RX3 TX3 3, w ∈ wsX3_init := by decide +kernel
theorem fl_X3_init_9 : Cond.fieldLink RX3 9 (TX3 0).1 (TX3 0).2.1 (TX3 0).2.2.1 ∈ wsX3_init := by decide +kernel
theorem fl_X3_init_15 : Cond.fieldLink RX3 15 (TX3 1).1 (TX3 1).2.1 (TX3 1).2.2.1 ∈ wsX3_init := by decide +kernel
theorem fl_X3_init_19 : Cond.fieldLink RX3 19 (TX3 2).1 (TX3 2).2.1 (TX3 2).2.2.1 ∈ wsX3_init := by decide +kernel
def rmX3_init : Room := { frames := 1, cells := 1, slots := 120, locals := 20 }
set_option maxHeartbeats 8000000 in
set_option maxRecDepth 100000 in
theorem X3_init_ok (K : KE) (l : Launch) (h0 : Nat)  : CI l K.1 vwCl (kT K) yX3_init wsX3_init rmX3_init [.ref h0] h0 (.inr (3, [.null, ii 0, ii 0])) (fun a => c3 K a (zA, 0, 0)) := by
  refine CI.mk (cc := cX3_init) (maxL := 1) (by decide) rfl rfl (Nat.le_of_ble_eq_true rfl) (fun p e s m below meth c X hao hmn hr hlk => ?_)
  have X : CX p s m ([.ref h0] : List Value).toArray c K.1 vwCl (kT K) (va_A [(h0, .inr (3, [.null, ii 0, ii 0]))] s.heap.size) cX3_init 1 wsX3_init RX3 := X
  refine g_aload_n X dX3_init_0 0 rfl rfl ?_
  refine g_objInit X wd_X3_init_oi1 wd_X3_init_oi2 wd_X3_init_oi3 dX3_init_1 ⟨Nat.le_of_ble_eq_true rfl, Nat.le_of_ble_eq_true rfl⟩ ?_
  refine g_aload_n X dX3_init_4 0 rfl rfl ?_
  refine g_bipush X dX3_init_5 (by decide +kernel) ?_
  refine g_stk (st' := [ii ((120 : Nat) : Int), .ref h0]) rfl ?_
  refine g_newi X (N := 120) rfl (Nat.le_of_ble_eq_true rfl) wd_X3_init_acint ⟨Nat.le_of_ble_eq_true rfl, Nat.le_of_ble_eq_true rfl⟩ dX3_init_7 (fun q1 => ?_)
  refine g_putF X hmn 0 0 dX3_init_9 rfl rfl iw_X3_init_X3 tyX3_ok nmX3 (by decide) fl_X3_init_9 rfl rfl rfl rfl rfl (Nat.le_of_ble_eq_true rfl) (ws' := ([(h0, .inr (3, [.ref q1, ii 0, ii 0]))] ++ [(q1, .inl (K.2.1, 120, .inl (arI zA)))])) rfl ?_
  refine g_aload_n X dX3_init_12 0 rfl rfl ?_
  refine g_iconst X dX3_init_13 ?_
  refine g_puti X 0 1 dX3_init_14 rfl rfl iw_X3_init_X3 tyX3_ok nmX3 (by decide) fl_X3_init_15 rfl rfl (Nat.le_of_ble_eq_true rfl) (ws' := ([(h0, .inr (3, [.ref q1, ii 0, ii 0]))] ++ [(q1, .inl (K.2.1, 120, .inl (arI zA)))])) rfl ?_
  refine g_aload_n X dX3_init_17 0 rfl rfl ?_
  refine g_iconst X dX3_init_18 ?_
  refine g_puti X 0 2 dX3_init_19 rfl rfl iw_X3_init_X3 tyX3_ok nmX3 (by decide) fl_X3_init_19 rfl rfl (Nat.le_of_ble_eq_true rfl) (ws' := ([(h0, .inr (3, [.ref q1, ii 0, ii 0]))] ++ [(q1, .inl (K.2.1, 120, .inl (arI zA)))])) rfl ?_
  exact g_iend X hr hlk (acons h0 (acons q1 (fun _ => 0))) rfl (List.Perm.of_eq rfl) dX3_init_22
theorem wd_X4_init_oi1 : Cond.methodLink RX4 3 Lib.objectInit ∈ wsX4_init := by decide +kernel
theorem wd_X4_init_oi2 : Cond.instanceMethod Lib.objectInit ∈ wsX4_init := by decide +kernel
theorem wd_X4_init_oi3 : Cond.code Lib.objectInit ⟨#[0xb1]⟩ 1 none ∈ wsX4_init := by decide +kernel
theorem wd_X4_init_acint : Cond.arrayClass .int ∈ wsX4_init := by decide +kernel
theorem iw_X4_init_X4 : ∀ w ∈ u_ws RX4 TX4 3, w ∈ wsX4_init := by decide +kernel
theorem fl_X4_init_9 : Cond.fieldLink RX4 9 (TX4 0).1 (TX4 0).2.1 (TX4 0).2.2.1 ∈ wsX4_init := by decide +kernel
theorem fl_X4_init_15 : Cond.fieldLink RX4 15 (TX4 1).1 (TX4 1).2.1 (TX4 1).2.2.1 ∈ wsX4_init := by decide +kernel
theorem fl_X4_init_18 : Cond.fieldLink RX4 18 (TX4 2).1 (TX4 2).2.1 (TX4 2).2.2.1 ∈ wsX4_init := by decide +kernel
def rmX4_init : Room := { frames := 1, cells := 3, slots := 54, locals := 23 }
set_option maxHeartbeats 8000000 in
set_option maxRecDepth 100000 in
theorem X4_init_ok (K : KE) (l : Launch) (h0 : Nat) (gT : Arr) (hgT : J7_fill_53178 6 zA (-1) = some gT) : CI l K.1 vwCl (kT K) yX4_init wsX4_init rmX4_init [.ref h0] h0 (.inr (4, [.null, .null, .null])) (fun a => c4 K a (gT, zA, zA)) := by
  refine CI.mk (cc := cX4_init) (maxL := 1) (by decide) rfl rfl (Nat.le_of_ble_eq_true rfl) (fun p e s m below meth c X hao hmn hr hlk => ?_)
  have X : CX p s m ([.ref h0] : List Value).toArray c K.1 vwCl (kT K) (va_A [(h0, .inr (4, [.null, .null, .null]))] s.heap.size) cX4_init 1 wsX4_init RX4 := X
  refine g_aload_n X dX4_init_0 0 rfl rfl ?_
  refine g_objInit X wd_X4_init_oi1 wd_X4_init_oi2 wd_X4_init_oi3 dX4_init_1 ⟨Nat.le_of_ble_eq_true rfl, Nat.le_of_ble_eq_true rfl⟩ ?_
  refine g_aload_n X dX4_init_4 0 rfl rfl ?_
  refine g_bipush X dX4_init_5 (by decide +kernel) ?_
  refine g_stk (st' := [ii ((6 : Nat) : Int), .ref h0]) rfl ?_
  refine g_newi X (N := 6) rfl (Nat.le_of_ble_eq_true rfl) wd_X4_init_acint ⟨Nat.le_of_ble_eq_true rfl, Nat.le_of_ble_eq_true rfl⟩ dX4_init_7 (fun q1 => ?_)
  refine g_putF X hmn 0 0 dX4_init_9 rfl rfl iw_X4_init_X4 tyX4_ok nmX4 (by decide) fl_X4_init_9 rfl rfl rfl rfl rfl (Nat.le_of_ble_eq_true rfl) (ws' := ([(h0, .inr (4, [.ref q1, .null, .null]))] ++ [(q1, .inl (K.2.1, 6, .inl (arI zA)))])) rfl ?_
  refine g_aload_n X dX4_init_12 0 rfl rfl ?_
  refine g_bipush X dX4_init_13 (by decide +kernel) ?_
  refine g_stk (st' := [ii ((24 : Nat) : Int), .ref h0]) rfl ?_
  refine g_newi X (N := 24) rfl (Nat.le_of_ble_eq_true rfl) wd_X4_init_acint ⟨Nat.le_of_ble_eq_true rfl, Nat.le_of_ble_eq_true rfl⟩ dX4_init_15 (fun q2 => ?_)
  refine g_putF X hmn 0 1 dX4_init_17 rfl rfl iw_X4_init_X4 tyX4_ok nmX4 (by decide) fl_X4_init_15 rfl rfl rfl rfl rfl (Nat.le_of_ble_eq_true rfl) (ws' := (([(h0, .inr (4, [.ref q1, .ref q2, .null]))] ++ [(q1, .inl (K.2.1, 6, .inl (arI zA)))]) ++ [(q2, .inl (K.2.1, 24, .inl (arI zA)))])) rfl ?_
  refine g_aload_n X dX4_init_20 0 rfl rfl ?_
  refine g_bipush X dX4_init_21 (by decide +kernel) ?_
  refine g_stk (st' := [ii ((24 : Nat) : Int), .ref h0]) rfl ?_
  refine g_newi X (N := 24) rfl (Nat.le_of_ble_eq_true rfl) wd_X4_init_acint ⟨Nat.le_of_ble_eq_true rfl, Nat.le_of_ble_eq_true rfl⟩ dX4_init_23 (fun q3 => ?_)
  refine g_putF X hmn 0 2 dX4_init_25 rfl rfl iw_X4_init_X4 tyX4_ok nmX4 (by decide) fl_X4_init_18 rfl rfl rfl rfl rfl (Nat.le_of_ble_eq_true rfl) (ws' := ((([(h0, .inr (4, [.ref q1, .ref q2, .ref q3]))] ++ [(q1, .inl (K.2.1, 6, .inl (arI zA)))]) ++ [(q2, .inl (K.2.1, 24, .inl (arI zA)))]) ++ [(q3, .inl (K.2.1, 24, .inl (arI zA)))])) rfl ?_
  refine g_aload_n X dX4_init_28 0 rfl rfl ?_
  refine g_get X (v := .ref q1) 0 0 dX4_init_29 rfl rfl iw_X4_init_X4 (by decide) fl_X4_init_9 rfl ?_
  refine g_iconst X dX4_init_32 ?_
  refine g_callS X (As := [.ref q1, ii (-1)]) (st := []) (st1 := []) (ws' := ((([(h0, .inr (4, [.ref q1, .ref q2, .ref q3]))] ++ [(q1, .inl (K.2.1, 6, .inl (arI gT)))]) ++ [(q2, .inl (K.2.1, 24, .inl (arI zA)))]) ++ [(q3, .inl (K.2.1, 24, .inl (arI zA)))])) (J7_fill_53178_ok K l 6 (by decide) q1 zA (-1) gT hgT) gX4_init_J7_fill_53178 rfl 2 (by decide +kernel) ⟨rfl, rfl⟩ ⟨Nat.le_of_ble_eq_true rfl, Nat.le_of_ble_eq_true rfl⟩ ⟨Nat.le_of_ble_eq_true rfl, Nat.le_of_ble_eq_true rfl⟩ rfl rfl (Nat.le_of_ble_eq_true rfl) dX4_init_33 (SG.one [(h0, .inr (4, [.ref q1, .ref q2, .ref q3]))] ([(q2, .inl (K.2.1, 24, .inl (arI zA)))] ++ ([(q3, .inl (K.2.1, 24, .inl (arI zA)))])) (by simp) (by simp) rfl) rfl ?_
  exact g_iend X hr hlk (acons h0 (acons q1 (acons q2 (acons q3 (fun _ => 0))))) rfl (List.Perm.of_eq rfl) dX4_init_36
theorem wd_X6_init_oi1 : Cond.methodLink RX6 3 Lib.objectInit ∈ wsX6_init := by decide +kernel
theorem wd_X6_init_oi2 : Cond.instanceMethod Lib.objectInit ∈ wsX6_init := by decide +kernel
theorem wd_X6_init_oi3 : Cond.code Lib.objectInit ⟨#[0xb1]⟩ 1 none ∈ wsX6_init := by decide +kernel
theorem iw_X6_init_X6 : ∀ w ∈ u_ws RX6 TX6 4, w ∈ wsX6_init := by decide +kernel
theorem fl_X6_init_9 : Cond.fieldLink RX6 9 (TX6 0).1 (TX6 0).2.1 (TX6 0).2.2.1 ∈ wsX6_init := by decide +kernel
theorem wd_X6_init_acint : Cond.arrayClass .int ∈ wsX6_init := by decide +kernel
theorem fl_X6_init_15 : Cond.fieldLink RX6 15 (TX6 1).1 (TX6 1).2.1 (TX6 1).2.2.1 ∈ wsX6_init := by decide +kernel
theorem fl_X6_init_19 : Cond.fieldLink RX6 19 (TX6 2).1 (TX6 2).2.1 (TX6 2).2.2.1 ∈ wsX6_init := by decide +kernel
theorem fl_X6_init_22 : Cond.fieldLink RX6 22 (TX6 3).1 (TX6 3).2.1 (TX6 3).2.2.1 ∈ wsX6_init := by decide +kernel
def rmX6_init : Room := { frames := 1, cells := 3, slots := 90, locals := 20 }
set_option maxHeartbeats 8000000 in
set_option maxRecDepth 100000 in
theorem X6_init_ok (K : KE) (l : Launch) (h0 : Nat)  : CI l K.1 vwCl (kT K) yX6_init wsX6_init rmX6_init [.ref h0] h0 (.inr (6, [ii 0, .null, .null, .null])) (fun a => c6 K a (0, zA, zA, zA)) := by
  refine CI.mk (cc := cX6_init) (maxL := 1) (by decide) rfl rfl (Nat.le_of_ble_eq_true rfl) (fun p e s m below meth c X hao hmn hr hlk => ?_)
  have X : CX p s m ([.ref h0] : List Value).toArray c K.1 vwCl (kT K) (va_A [(h0, .inr (6, [ii 0, .null, .null, .null]))] s.heap.size) cX6_init 1 wsX6_init RX6 := X
  refine g_aload_n X dX6_init_0 0 rfl rfl ?_
  refine g_objInit X wd_X6_init_oi1 wd_X6_init_oi2 wd_X6_init_oi3 dX6_init_1 ⟨Nat.le_of_ble_eq_true rfl, Nat.le_of_ble_eq_true rfl⟩ ?_
  refine g_aload_n X dX6_init_4 0 rfl rfl ?_
  refine g_iconst X dX6_init_5 ?_
  refine g_puti X 0 0 dX6_init_6 rfl rfl iw_X6_init_X6 tyX6_ok nmX6 (by decide) fl_X6_init_9 rfl rfl (Nat.le_of_ble_eq_true rfl) (ws' := [(h0, .inr (6, [ii 0, .null, .null, .null]))]) rfl ?_
  refine g_aload_n X dX6_init_9 0 rfl rfl ?_
  refine g_bipush X dX6_init_10 (by decide +kernel) ?_
  refine g_stk (st' := [ii ((30 : Nat) : Int), .ref h0]) rfl ?_
  refine g_newi X (N := 30) rfl (Nat.le_of_ble_eq_true rfl) wd_X6_init_acint ⟨Nat.le_of_ble_eq_true rfl, Nat.le_of_ble_eq_true rfl⟩ dX6_init_12 (fun q1 => ?_)
  refine g_putF X hmn 0 1 dX6_init_14 rfl rfl iw_X6_init_X6 tyX6_ok nmX6 (by decide) fl_X6_init_15 rfl rfl rfl rfl rfl (Nat.le_of_ble_eq_true rfl) (ws' := ([(h0, .inr (6, [ii 0, .ref q1, .null, .null]))] ++ [(q1, .inl (K.2.1, 30, .inl (arI zA)))])) rfl ?_
  refine g_aload_n X dX6_init_17 0 rfl rfl ?_
  refine g_bipush X dX6_init_18 (by decide +kernel) ?_
  refine g_stk (st' := [ii ((30 : Nat) : Int), .ref h0]) rfl ?_
  refine g_newi X (N := 30) rfl (Nat.le_of_ble_eq_true rfl) wd_X6_init_acint ⟨Nat.le_of_ble_eq_true rfl, Nat.le_of_ble_eq_true rfl⟩ dX6_init_20 (fun q2 => ?_)
  refine g_putF X hmn 0 2 dX6_init_22 rfl rfl iw_X6_init_X6 tyX6_ok nmX6 (by decide) fl_X6_init_19 rfl rfl rfl rfl rfl (Nat.le_of_ble_eq_true rfl) (ws' := (([(h0, .inr (6, [ii 0, .ref q1, .ref q2, .null]))] ++ [(q1, .inl (K.2.1, 30, .inl (arI zA)))]) ++ [(q2, .inl (K.2.1, 30, .inl (arI zA)))])) rfl ?_
  refine g_aload_n X dX6_init_25 0 rfl rfl ?_
  refine g_bipush X dX6_init_26 (by decide +kernel) ?_
  refine g_stk (st' := [ii ((30 : Nat) : Int), .ref h0]) rfl ?_
  refine g_newi X (N := 30) rfl (Nat.le_of_ble_eq_true rfl) wd_X6_init_acint ⟨Nat.le_of_ble_eq_true rfl, Nat.le_of_ble_eq_true rfl⟩ dX6_init_28 (fun q3 => ?_)
  refine g_putF X hmn 0 3 dX6_init_30 rfl rfl iw_X6_init_X6 tyX6_ok nmX6 (by decide) fl_X6_init_22 rfl rfl rfl rfl rfl (Nat.le_of_ble_eq_true rfl) (ws' := ((([(h0, .inr (6, [ii 0, .ref q1, .ref q2, .ref q3]))] ++ [(q1, .inl (K.2.1, 30, .inl (arI zA)))]) ++ [(q2, .inl (K.2.1, 30, .inl (arI zA)))]) ++ [(q3, .inl (K.2.1, 30, .inl (arI zA)))])) rfl ?_
  exact g_iend X hr hlk (acons h0 (acons q1 (acons q2 (acons q3 (fun _ => 0))))) rfl (List.Perm.of_eq rfl) dX6_init_33
theorem wd_X7_init_oi1 : Cond.methodLink RX7 3 Lib.objectInit ∈ wsX7_init := by decide +kernel
theorem wd_X7_init_oi2 : Cond.instanceMethod Lib.objectInit ∈ wsX7_init := by decide +kernel
theorem wd_X7_init_oi3 : Cond.code Lib.objectInit ⟨#[0xb1]⟩ 1 none ∈ wsX7_init := by decide +kernel
theorem wd_X7_init_acint : Cond.arrayClass .int ∈ wsX7_init := by decide +kernel
theorem iw_X7_init_X7 : ∀ w ∈ u_ws RX7 TX7 4, w ∈ wsX7_init := by decide +kernel
theorem fl_X7_init_11 : Cond.fieldLink RX7 11 (TX7 0).1 (TX7 0).2.1 (TX7 0).2.2.1 ∈ wsX7_init := by decide +kernel
theorem fl_X7_init_15 : Cond.fieldLink RX7 15 (TX7 1).1 (TX7 1).2.1 (TX7 1).2.2.1 ∈ wsX7_init := by decide +kernel
theorem fl_X7_init_19 : Cond.fieldLink RX7 19 (TX7 2).1 (TX7 2).2.1 (TX7 2).2.2.1 ∈ wsX7_init := by decide +kernel
theorem fl_X7_init_22 : Cond.fieldLink RX7 22 (TX7 3).1 (TX7 3).2.1 (TX7 3).2.2.1 ∈ wsX7_init := by decide +kernel
def rmX7_init : Room := { frames := 1, cells := 2, slots := 150, locals := 20 }
set_option maxHeartbeats 8000000 in
set_option maxRecDepth 100000 in
theorem X7_init_ok (K : KE) (l : Launch) (h0 : Nat)  : CI l K.1 vwCl (kT K) yX7_init wsX7_init rmX7_init [.ref h0] h0 (.inr (7, [.null, ii 0, .null, ii 0])) (fun a => c7 K a (zA, 0, zA, 0)) := by
  refine CI.mk (cc := cX7_init) (maxL := 1) (by decide) rfl rfl (Nat.le_of_ble_eq_true rfl) (fun p e s m below meth c X hao hmn hr hlk => ?_)
  have X : CX p s m ([.ref h0] : List Value).toArray c K.1 vwCl (kT K) (va_A [(h0, .inr (7, [.null, ii 0, .null, ii 0]))] s.heap.size) cX7_init 1 wsX7_init RX7 := X
  refine g_aload_n X dX7_init_0 0 rfl rfl ?_
  refine g_objInit X wd_X7_init_oi1 wd_X7_init_oi2 wd_X7_init_oi3 dX7_init_1 ⟨Nat.le_of_ble_eq_true rfl, Nat.le_of_ble_eq_true rfl⟩ ?_
  refine g_aload_n X dX7_init_4 0 rfl rfl ?_
  refine g_bipush X dX7_init_5 (by decide +kernel) ?_
  refine g_stk (st' := [ii ((120 : Nat) : Int), .ref h0]) rfl ?_
  refine g_newi X (N := 120) rfl (Nat.le_of_ble_eq_true rfl) wd_X7_init_acint ⟨Nat.le_of_ble_eq_true rfl, Nat.le_of_ble_eq_true rfl⟩ dX7_init_7 (fun q1 => ?_)
  refine g_putF X hmn 0 0 dX7_init_9 rfl rfl iw_X7_init_X7 tyX7_ok nmX7 (by decide) fl_X7_init_11 rfl rfl rfl rfl rfl (Nat.le_of_ble_eq_true rfl) (ws' := ([(h0, .inr (7, [.ref q1, ii 0, .null, ii 0]))] ++ [(q1, .inl (K.2.1, 120, .inl (arI zA)))])) rfl ?_
  refine g_aload_n X dX7_init_12 0 rfl rfl ?_
  refine g_iconst X dX7_init_13 ?_
  refine g_puti X 0 1 dX7_init_14 rfl rfl iw_X7_init_X7 tyX7_ok nmX7 (by decide) fl_X7_init_15 rfl rfl (Nat.le_of_ble_eq_true rfl) (ws' := ([(h0, .inr (7, [.ref q1, ii 0, .null, ii 0]))] ++ [(q1, .inl (K.2.1, 120, .inl (arI zA)))])) rfl ?_
  refine g_aload_n X dX7_init_17 0 rfl rfl ?_
  refine g_bipush X dX7_init_18 (by decide +kernel) ?_
  refine g_stk (st' := [ii ((30 : Nat) : Int), .ref h0]) rfl ?_
  refine g_newi X (N := 30) rfl (Nat.le_of_ble_eq_true rfl) wd_X7_init_acint ⟨Nat.le_of_ble_eq_true rfl, Nat.le_of_ble_eq_true rfl⟩ dX7_init_20 (fun q2 => ?_)
  refine g_putF X hmn 0 2 dX7_init_22 rfl rfl iw_X7_init_X7 tyX7_ok nmX7 (by decide) fl_X7_init_19 rfl rfl rfl rfl rfl (Nat.le_of_ble_eq_true rfl) (ws' := (([(h0, .inr (7, [.ref q1, ii 0, .ref q2, ii 0]))] ++ [(q1, .inl (K.2.1, 120, .inl (arI zA)))]) ++ [(q2, .inl (K.2.1, 30, .inl (arI zA)))])) rfl ?_
  refine g_aload_n X dX7_init_25 0 rfl rfl ?_
  refine g_iconst X dX7_init_26 ?_
  refine g_puti X 0 3 dX7_init_27 rfl rfl iw_X7_init_X7 tyX7_ok nmX7 (by decide) fl_X7_init_22 rfl rfl (Nat.le_of_ble_eq_true rfl) (ws' := (([(h0, .inr (7, [.ref q1, ii 0, .ref q2, ii 0]))] ++ [(q1, .inl (K.2.1, 120, .inl (arI zA)))]) ++ [(q2, .inl (K.2.1, 30, .inl (arI zA)))])) rfl ?_
  exact g_iend X hr hlk (acons h0 (acons q1 (acons q2 (fun _ => 0)))) rfl (List.Perm.of_eq rfl) dX7_init_30
theorem wd_X5_init_oi1 : Cond.methodLink RX5 3 Lib.objectInit ∈ wsX5_init := by decide +kernel
theorem wd_X5_init_oi2 : Cond.instanceMethod Lib.objectInit ∈ wsX5_init := by decide +kernel
theorem wd_X5_init_oi3 : Cond.code Lib.objectInit ⟨#[0xb1]⟩ 1 none ∈ wsX5_init := by decide +kernel
theorem wd_X5_init_cl9 : Cond.classLink RX5 9 RX6 ∈ wsX5_init := by decide +kernel
theorem wd_X5_init_inst6 : Cond.instantiable RX6 4 ∈ wsX5_init := by decide +kernel
theorem wd_X5_init_ini6 : Cond.initialized RX6 ∈ wsX5_init := by decide +kernel
theorem iw_X5_init_X6 : ∀ w ∈ u_ws RX6 TX6 4, w ∈ wsX5_init := by decide +kernel
theorem wd_X5_init_im6 : Cond.instanceMethod yX6_init ∈ wsX5_init := by decide +kernel
theorem ne_X5_init_11 : (RX5, 11, yX6_init) ∈ nestL := by decide +kernel
theorem iw_X5_init_X5 : ∀ w ∈ u_ws RX5 TX5 3, w ∈ wsX5_init := by decide +kernel
theorem fl_X5_init_12 : Cond.fieldLink RX5 12 (TX5 0).1 (TX5 0).2.1 (TX5 0).2.2.1 ∈ wsX5_init := by decide +kernel
theorem wd_X5_init_acint : Cond.arrayClass .int ∈ wsX5_init := by decide +kernel
theorem fl_X5_init_18 : Cond.fieldLink RX5 18 (TX5 1).1 (TX5 1).2.1 (TX5 1).2.2.1 ∈ wsX5_init := by decide +kernel
theorem wd_X5_init_acboolean : Cond.arrayClass .boolean ∈ wsX5_init := by decide +kernel
theorem fl_X5_init_22 : Cond.fieldLink RX5 22 (TX5 2).1 (TX5 2).2.1 (TX5 2).2.2.1 ∈ wsX5_init := by decide +kernel
def rmX5_init : Room := { frames := 2, cells := 6, slots := 101, locals := 40 }
set_option maxHeartbeats 8000000 in
set_option maxRecDepth 100000 in
theorem X5_init_ok (K : KE) (l : Launch) (h0 : Nat)  : CI l K.1 vwCl (kT K) yX5_init wsX5_init rmX5_init [.ref h0] h0 (.inr (5, [.null, .null, .null])) (fun a => c5 K a ((0, zA, zA, zA), zA, zA)) := by
  refine CI.mk (cc := cX5_init) (maxL := 1) (by decide) rfl rfl (Nat.le_of_ble_eq_true rfl) (fun p e s m below meth c X hao hmn hr hlk => ?_)
  have X : CX p s m ([.ref h0] : List Value).toArray c K.1 vwCl (kT K) (va_A [(h0, .inr (5, [.null, .null, .null]))] s.heap.size) cX5_init 1 wsX5_init RX5 := X
  refine g_aload_n X dX5_init_0 0 rfl rfl ?_
  refine g_objInit X wd_X5_init_oi1 wd_X5_init_oi2 wd_X5_init_oi3 dX5_init_1 ⟨Nat.le_of_ble_eq_true rfl, Nat.le_of_ble_eq_true rfl⟩ ?_
  refine g_aload_n X dX5_init_4 0 rfl rfl ?_
  refine g_new X (ci := 6) (fs := [ii 0, .null, .null, .null]) (ty := tyX6) iw_X5_init_X6 tyX6_ok wd_X5_init_cl9 wd_X5_init_inst6 wd_X5_init_ini6 rfl (fun j hj => by rcases (show j = 0 ∨ j = 1 ∨ j = 2 ∨ j = 3 by omega) with rfl | rfl | rfl | rfl <;> rfl) ⟨Nat.le_of_ble_eq_true rfl, Nat.le_of_ble_eq_true rfl⟩ dX5_init_5 (fun q1 => ?_)
  refine g_dup X dX5_init_8 rfl ?_
  refine g_callIN X hao (As := []) (st := [.ref q1, .ref h0]) (L := [(h0, .inr (5, [.null, .null, .null]))]) (X6_init_ok K l q1 ) ggX5_init_X6_init wd_X5_init_ini6 ne_X5_init_11 wd_X5_init_im6 rfl rfl 0 (by decide +kernel) ⟨Nat.le_of_ble_eq_true rfl, Nat.le_of_ble_eq_true rfl⟩ ⟨Nat.le_of_ble_eq_true rfl, Nat.le_of_ble_eq_true rfl⟩ rfl rfl (Nat.le_of_ble_eq_true rfl) dX5_init_9 rfl (fun a2 ea2 => ?_)
  refine g_stk (st' := [.ref (a2 0), .ref h0]) (by rw [ea2]) ?_
  refine g_putF X hmn 0 0 dX5_init_12 rfl rfl iw_X5_init_X5 tyX5_ok nmX5 (by decide) fl_X5_init_12 rfl rfl rfl rfl rfl (Nat.le_of_ble_eq_true rfl) (ws' := ([(h0, .inr (5, [.ref (a2 0), .null, .null]))] ++ c6 K a2 (0, zA, zA, zA))) rfl ?_
  refine g_aload_n X dX5_init_15 0 rfl rfl ?_
  refine g_iconst X dX5_init_16 ?_
  refine g_stk (st' := [ii ((4 : Nat) : Int), .ref h0]) rfl ?_
  refine g_newi X (N := 4) rfl (Nat.le_of_ble_eq_true rfl) wd_X5_init_acint ⟨Nat.le_of_ble_eq_true rfl, Nat.le_of_ble_eq_true rfl⟩ dX5_init_17 (fun q3 => ?_)
  refine g_putF X hmn 0 1 dX5_init_19 rfl rfl iw_X5_init_X5 tyX5_ok nmX5 (by decide) fl_X5_init_18 rfl rfl rfl rfl rfl (Nat.le_of_ble_eq_true rfl) (ws' := (([(h0, .inr (5, [.ref (a2 0), .ref q3, .null]))] ++ c6 K a2 (0, zA, zA, zA)) ++ [(q3, .inl (K.2.1, 4, .inl (arI zA)))])) rfl ?_
  refine g_aload_n X dX5_init_22 0 rfl rfl ?_
  refine g_iconst X dX5_init_23 ?_
  refine g_stk (st' := [ii ((3 : Nat) : Int), .ref h0]) rfl ?_
  refine g_newz X (N := 3) rfl (Nat.le_of_ble_eq_true rfl) wd_X5_init_acboolean ⟨Nat.le_of_ble_eq_true rfl, Nat.le_of_ble_eq_true rfl⟩ dX5_init_24 (fun q4 => ?_)
  refine g_putF X hmn 0 2 dX5_init_26 rfl rfl iw_X5_init_X5 tyX5_ok nmX5 (by decide) fl_X5_init_22 rfl rfl rfl rfl rfl (Nat.le_of_ble_eq_true rfl) (ws' := ((([(h0, .inr (5, [.ref (a2 0), .ref q3, .ref q4]))] ++ c6 K a2 (0, zA, zA, zA)) ++ [(q3, .inl (K.2.1, 4, .inl (arI zA)))]) ++ [(q4, .inl (K.2.2.1, 3, .inl (arI zA)))])) rfl ?_
  exact g_iend X hr hlk (acons h0 (acat 4 a2 (acons q3 (acons q4 (fun _ => 0))))) rfl (List.Perm.of_eq rfl) dX5_init_29
theorem wd_X8_init_oi1 : Cond.methodLink RX8 3 Lib.objectInit ∈ wsX8_init := by decide +kernel
theorem wd_X8_init_oi2 : Cond.instanceMethod Lib.objectInit ∈ wsX8_init := by decide +kernel
theorem wd_X8_init_oi3 : Cond.code Lib.objectInit ⟨#[0xb1]⟩ 1 none ∈ wsX8_init := by decide +kernel
theorem wd_X8_init_cl9 : Cond.classLink RX8 9 RX1 ∈ wsX8_init := by decide +kernel
theorem wd_X8_init_inst1 : Cond.instantiable RX1 4 ∈ wsX8_init := by decide +kernel
theorem wd_X8_init_ini1 : Cond.initialized RX1 ∈ wsX8_init := by decide +kernel
theorem iw_X8_init_X1 : ∀ w ∈ u_ws RX1 TX1 4, w ∈ wsX8_init := by decide +kernel
theorem wd_X8_init_im1 : Cond.instanceMethod yX1_init ∈ wsX8_init := by decide +kernel
theorem wd_X8_init_ml11 : Cond.methodLink RX8 11 yX1_init ∈ wsX8_init := by decide +kernel
theorem iw_X8_init_X8 : ∀ w ∈ u_ws RX8 TX8 9, w ∈ wsX8_init := by decide +kernel
theorem fl_X8_init_14 : Cond.fieldLink RX8 14 (TX8 0).1 (TX8 0).2.1 (TX8 0).2.2.1 ∈ wsX8_init := by decide +kernel
theorem fl_X8_init_20 : Cond.fieldLink RX8 20 (TX8 1).1 (TX8 1).2.1 (TX8 1).2.2.1 ∈ wsX8_init := by decide +kernel
theorem fl_X8_init_23 : Cond.fieldLink RX8 23 (TX8 2).1 (TX8 2).2.1 (TX8 2).2.2.1 ∈ wsX8_init := by decide +kernel
theorem fl_X8_init_26 : Cond.fieldLink RX8 26 (TX8 3).1 (TX8 3).2.1 (TX8 3).2.2.1 ∈ wsX8_init := by decide +kernel
theorem wd_X8_init_acint : Cond.arrayClass .int ∈ wsX8_init := by decide +kernel
theorem fl_X8_init_30 : Cond.fieldLink RX8 30 (TX8 4).1 (TX8 4).2.1 (TX8 4).2.2.1 ∈ wsX8_init := by decide +kernel
theorem fl_X8_init_34 : Cond.fieldLink RX8 34 (TX8 5).1 (TX8 5).2.1 (TX8 5).2.2.1 ∈ wsX8_init := by decide +kernel
theorem wd_X8_init_cl37 : Cond.classLink RX8 37 RX4 ∈ wsX8_init := by decide +kernel
theorem wd_X8_init_inst4 : Cond.instantiable RX4 3 ∈ wsX8_init := by decide +kernel
theorem wd_X8_init_ini4 : Cond.initialized RX4 ∈ wsX8_init := by decide +kernel
theorem iw_X8_init_X4 : ∀ w ∈ u_ws RX4 TX4 3, w ∈ wsX8_init := by decide +kernel
theorem wd_X8_init_im4 : Cond.instanceMethod yX4_init ∈ wsX8_init := by decide +kernel
theorem wd_X8_init_ml39 : Cond.methodLink RX8 39 yX4_init ∈ wsX8_init := by decide +kernel
theorem fl_X8_init_40 : Cond.fieldLink RX8 40 (TX8 6).1 (TX8 6).2.1 (TX8 6).2.2.1 ∈ wsX8_init := by decide +kernel
theorem wd_X8_init_cl44 : Cond.classLink RX8 44 RX6 ∈ wsX8_init := by decide +kernel
theorem wd_X8_init_inst6 : Cond.instantiable RX6 4 ∈ wsX8_init := by decide +kernel
theorem wd_X8_init_ini6 : Cond.initialized RX6 ∈ wsX8_init := by decide +kernel
theorem iw_X8_init_X6 : ∀ w ∈ u_ws RX6 TX6 4, w ∈ wsX8_init := by decide +kernel
theorem wd_X8_init_im6 : Cond.instanceMethod yX6_init ∈ wsX8_init := by decide +kernel
theorem ne_X8_init_46 : (RX8, 46, yX6_init) ∈ nestL := by decide +kernel
theorem fl_X8_init_47 : Cond.fieldLink RX8 47 (TX8 7).1 (TX8 7).2.1 (TX8 7).2.2.1 ∈ wsX8_init := by decide +kernel
theorem fl_X8_init_51 : Cond.fieldLink RX8 51 (TX8 8).1 (TX8 8).2.1 (TX8 8).2.2.1 ∈ wsX8_init := by decide +kernel
def rmX8_init : Room := { frames := 2, cells := 22, slots := 289, locals := 61 }
set_option maxHeartbeats 8000000 in
set_option maxRecDepth 100000 in
theorem X8_init_ok (K : KE) (l : Launch) (h0 : Nat) (g6 g4 gT : Arr) (wP : Int × Pg) (hg6 : J7_fill_53178 6 zA 1 = some g6) (hg4 : J7_fill_53178 4 zA 1 = some g4) (hgT : J7_fill_53178 6 zA (-1) = some gT) (hP : X6_add (0, zA, zA, zA) 0 0 0 = some wP) : CI l K.1 vwCl (kT K) yX8_init wsX8_init rmX8_init [.ref h0] h0 (.inr (8, [.null, .null, .null, ii 0, .null, ii 0, .null, .null, .null])) (fun a => c8 K a ((g6, zA, zA), (g6, zA, zA), (g4, zA, zA), 0, gT, 0, (gT, zA, zA), wP.2, zA)) := by
  refine CI.mk (cc := cX8_init) (maxL := 1) (by decide) rfl rfl (Nat.le_of_ble_eq_true rfl) (fun p e s m below meth c X hao hmn hr hlk => ?_)
  have X : CX p s m ([.ref h0] : List Value).toArray c K.1 vwCl (kT K) (va_A [(h0, .inr (8, [.null, .null, .null, ii 0, .null, ii 0, .null, .null, .null]))] s.heap.size) cX8_init 1 wsX8_init RX8 := X
  refine g_aload_n X dX8_init_0 0 rfl rfl ?_
  refine g_objInit X wd_X8_init_oi1 wd_X8_init_oi2 wd_X8_init_oi3 dX8_init_1 ⟨Nat.le_of_ble_eq_true rfl, Nat.le_of_ble_eq_true rfl⟩ ?_
  refine g_aload_n X dX8_init_4 0 rfl rfl ?_
  refine g_new X (ci := 1) (fs := [ii 0, .null, .null, .null]) (ty := tyX1) iw_X8_init_X1 tyX1_ok wd_X8_init_cl9 wd_X8_init_inst1 wd_X8_init_ini1 rfl (fun j hj => by rcases (show j = 0 ∨ j = 1 ∨ j = 2 ∨ j = 3 by omega) with rfl | rfl | rfl | rfl <;> rfl) ⟨Nat.le_of_ble_eq_true rfl, Nat.le_of_ble_eq_true rfl⟩ dX8_init_5 (fun q1 => ?_)
  refine g_dup X dX8_init_8 rfl ?_
  refine g_bipush X dX8_init_9 (by decide +kernel) ?_
  refine g_callI X hao (As := [ii 6]) (st := [.ref q1, .ref h0]) (L := [(h0, .inr (8, [.null, .null, .null, ii 0, .null, ii 0, .null, .null, .null]))]) (X1_init_ok K l q1 6 (by decide) g6 hg6) ggX8_init_X1_init wd_X8_init_ini1 wd_X8_init_ml11 wd_X8_init_im1 rfl rfl 1 (by decide +kernel) ⟨Nat.le_of_ble_eq_true rfl, Nat.le_of_ble_eq_true rfl⟩ ⟨Nat.le_of_ble_eq_true rfl, Nat.le_of_ble_eq_true rfl⟩ rfl rfl (Nat.le_of_ble_eq_true rfl) dX8_init_11 rfl (fun a2 ea2 => ?_)
  refine g_stk (st' := [.ref (a2 0), .ref h0]) (by rw [ea2]) ?_
  refine g_putF X hmn 0 0 dX8_init_14 rfl rfl iw_X8_init_X8 tyX8_ok nmX8 (by decide) fl_X8_init_14 rfl rfl rfl rfl rfl (Nat.le_of_ble_eq_true rfl) (ws' := ([(h0, .inr (8, [.ref (a2 0), .null, .null, ii 0, .null, ii 0, .null, .null, .null]))] ++ c1 K 6 a2 (g6, zA, zA))) rfl ?_
  refine g_aload_n X dX8_init_17 0 rfl rfl ?_
  refine g_new X (ci := 1) (fs := [ii 0, .null, .null, .null]) (ty := tyX1) iw_X8_init_X1 tyX1_ok wd_X8_init_cl9 wd_X8_init_inst1 wd_X8_init_ini1 rfl (fun j hj => by rcases (show j = 0 ∨ j = 1 ∨ j = 2 ∨ j = 3 by omega) with rfl | rfl | rfl | rfl <;> rfl) ⟨Nat.le_of_ble_eq_true rfl, Nat.le_of_ble_eq_true rfl⟩ dX8_init_18 (fun q3 => ?_)
  refine g_dup X dX8_init_21 rfl ?_
  refine g_bipush X dX8_init_22 (by decide +kernel) ?_
  refine g_callI X hao (As := [ii 6]) (st := [.ref q3, .ref h0]) (L := ([(h0, .inr (8, [.ref (a2 0), .null, .null, ii 0, .null, ii 0, .null, .null, .null]))] ++ c1 K 6 a2 (g6, zA, zA))) (X1_init_ok K l q3 6 (by decide) g6 hg6) ggX8_init_X1_init wd_X8_init_ini1 wd_X8_init_ml11 wd_X8_init_im1 rfl rfl 1 (by decide +kernel) ⟨Nat.le_of_ble_eq_true rfl, Nat.le_of_ble_eq_true rfl⟩ ⟨Nat.le_of_ble_eq_true rfl, Nat.le_of_ble_eq_true rfl⟩ rfl rfl (Nat.le_of_ble_eq_true rfl) dX8_init_24 rfl (fun a4 ea4 => ?_)
  refine g_stk (st' := [.ref (a4 0), .ref h0]) (by rw [ea4]) ?_
  refine g_putF X hmn 0 1 dX8_init_27 rfl rfl iw_X8_init_X8 tyX8_ok nmX8 (by decide) fl_X8_init_20 rfl rfl rfl rfl rfl (Nat.le_of_ble_eq_true rfl) (ws' := (([(h0, .inr (8, [.ref (a2 0), .ref (a4 0), .null, ii 0, .null, ii 0, .null, .null, .null]))] ++ c1 K 6 a2 (g6, zA, zA)) ++ c1 K 6 a4 (g6, zA, zA))) rfl ?_
  refine g_aload_n X dX8_init_30 0 rfl rfl ?_
  refine g_new X (ci := 1) (fs := [ii 0, .null, .null, .null]) (ty := tyX1) iw_X8_init_X1 tyX1_ok wd_X8_init_cl9 wd_X8_init_inst1 wd_X8_init_ini1 rfl (fun j hj => by rcases (show j = 0 ∨ j = 1 ∨ j = 2 ∨ j = 3 by omega) with rfl | rfl | rfl | rfl <;> rfl) ⟨Nat.le_of_ble_eq_true rfl, Nat.le_of_ble_eq_true rfl⟩ dX8_init_31 (fun q5 => ?_)
  refine g_dup X dX8_init_34 rfl ?_
  refine g_iconst X dX8_init_35 ?_
  refine g_callI X hao (As := [ii 4]) (st := [.ref q5, .ref h0]) (L := (([(h0, .inr (8, [.ref (a2 0), .ref (a4 0), .null, ii 0, .null, ii 0, .null, .null, .null]))] ++ c1 K 6 a2 (g6, zA, zA)) ++ c1 K 6 a4 (g6, zA, zA))) (X1_init_ok K l q5 4 (by decide) g4 hg4) ggX8_init_X1_init wd_X8_init_ini1 wd_X8_init_ml11 wd_X8_init_im1 rfl rfl 1 (by decide +kernel) ⟨Nat.le_of_ble_eq_true rfl, Nat.le_of_ble_eq_true rfl⟩ ⟨Nat.le_of_ble_eq_true rfl, Nat.le_of_ble_eq_true rfl⟩ rfl rfl (Nat.le_of_ble_eq_true rfl) dX8_init_36 rfl (fun a6 ea6 => ?_)
  refine g_stk (st' := [.ref (a6 0), .ref h0]) (by rw [ea6]) ?_
  refine g_putF X hmn 0 2 dX8_init_39 rfl rfl iw_X8_init_X8 tyX8_ok nmX8 (by decide) fl_X8_init_23 rfl rfl rfl rfl rfl (Nat.le_of_ble_eq_true rfl) (ws' := ((([(h0, .inr (8, [.ref (a2 0), .ref (a4 0), .ref (a6 0), ii 0, .null, ii 0, .null, .null, .null]))] ++ c1 K 6 a2 (g6, zA, zA)) ++ c1 K 6 a4 (g6, zA, zA)) ++ c1 K 4 a6 (g4, zA, zA))) rfl ?_
  refine g_aload_n X dX8_init_42 0 rfl rfl ?_
  refine g_iconst X dX8_init_43 ?_
  refine g_puti X 0 3 dX8_init_44 rfl rfl iw_X8_init_X8 tyX8_ok nmX8 (by decide) fl_X8_init_26 rfl rfl (Nat.le_of_ble_eq_true rfl) (ws' := ((([(h0, .inr (8, [.ref (a2 0), .ref (a4 0), .ref (a6 0), ii 0, .null, ii 0, .null, .null, .null]))] ++ c1 K 6 a2 (g6, zA, zA)) ++ c1 K 6 a4 (g6, zA, zA)) ++ c1 K 4 a6 (g4, zA, zA))) rfl ?_
  refine g_aload_n X dX8_init_47 0 rfl rfl ?_
  refine g_bipush X dX8_init_48 (by decide +kernel) ?_
  refine g_stk (st' := [ii ((6 : Nat) : Int), .ref h0]) rfl ?_
  refine g_newi X (N := 6) rfl (Nat.le_of_ble_eq_true rfl) wd_X8_init_acint ⟨Nat.le_of_ble_eq_true rfl, Nat.le_of_ble_eq_true rfl⟩ dX8_init_50 (fun q7 => ?_)
  refine g_putF X hmn 0 4 dX8_init_52 rfl rfl iw_X8_init_X8 tyX8_ok nmX8 (by decide) fl_X8_init_30 rfl rfl rfl rfl rfl (Nat.le_of_ble_eq_true rfl) (ws' := (((([(h0, .inr (8, [.ref (a2 0), .ref (a4 0), .ref (a6 0), ii 0, .ref q7, ii 0, .null, .null, .null]))] ++ c1 K 6 a2 (g6, zA, zA)) ++ c1 K 6 a4 (g6, zA, zA)) ++ c1 K 4 a6 (g4, zA, zA)) ++ [(q7, .inl (K.2.1, 6, .inl (arI zA)))])) rfl ?_
  refine g_aload_n X dX8_init_55 0 rfl rfl ?_
  refine g_iconst X dX8_init_56 ?_
  refine g_puti X 0 5 dX8_init_57 rfl rfl iw_X8_init_X8 tyX8_ok nmX8 (by decide) fl_X8_init_34 rfl rfl (Nat.le_of_ble_eq_true rfl) (ws' := (((([(h0, .inr (8, [.ref (a2 0), .ref (a4 0), .ref (a6 0), ii 0, .ref q7, ii 0, .null, .null, .null]))] ++ c1 K 6 a2 (g6, zA, zA)) ++ c1 K 6 a4 (g6, zA, zA)) ++ c1 K 4 a6 (g4, zA, zA)) ++ [(q7, .inl (K.2.1, 6, .inl (arI zA)))])) rfl ?_
  refine g_aload_n X dX8_init_60 0 rfl rfl ?_
  refine g_new X (ci := 4) (fs := [.null, .null, .null]) (ty := tyX4) iw_X8_init_X4 tyX4_ok wd_X8_init_cl37 wd_X8_init_inst4 wd_X8_init_ini4 rfl (fun j hj => by rcases (show j = 0 ∨ j = 1 ∨ j = 2 by omega) with rfl | rfl | rfl <;> rfl) ⟨Nat.le_of_ble_eq_true rfl, Nat.le_of_ble_eq_true rfl⟩ dX8_init_61 (fun q8 => ?_)
  refine g_dup X dX8_init_64 rfl ?_
  refine g_callI X hao (As := []) (st := [.ref q8, .ref h0]) (L := (((([(h0, .inr (8, [.ref (a2 0), .ref (a4 0), .ref (a6 0), ii 0, .ref q7, ii 0, .null, .null, .null]))] ++ c1 K 6 a2 (g6, zA, zA)) ++ c1 K 6 a4 (g6, zA, zA)) ++ c1 K 4 a6 (g4, zA, zA)) ++ [(q7, .inl (K.2.1, 6, .inl (arI zA)))])) (X4_init_ok K l q8 gT hgT) ggX8_init_X4_init wd_X8_init_ini4 wd_X8_init_ml39 wd_X8_init_im4 rfl rfl 0 (by decide +kernel) ⟨Nat.le_of_ble_eq_true rfl, Nat.le_of_ble_eq_true rfl⟩ ⟨Nat.le_of_ble_eq_true rfl, Nat.le_of_ble_eq_true rfl⟩ rfl rfl (Nat.le_of_ble_eq_true rfl) dX8_init_65 rfl (fun a9 ea9 => ?_)
  refine g_stk (st' := [.ref (a9 0), .ref h0]) (by rw [ea9]) ?_
  refine g_putF X hmn 0 6 dX8_init_68 rfl rfl iw_X8_init_X8 tyX8_ok nmX8 (by decide) fl_X8_init_40 rfl rfl rfl rfl rfl (Nat.le_of_ble_eq_true rfl) (ws' := ((((([(h0, .inr (8, [.ref (a2 0), .ref (a4 0), .ref (a6 0), ii 0, .ref q7, ii 0, .ref (a9 0), .null, .null]))] ++ c1 K 6 a2 (g6, zA, zA)) ++ c1 K 6 a4 (g6, zA, zA)) ++ c1 K 4 a6 (g4, zA, zA)) ++ [(q7, .inl (K.2.1, 6, .inl (arI zA)))]) ++ c4 K a9 (gT, zA, zA))) rfl ?_
  refine g_aload_n X dX8_init_71 0 rfl rfl ?_
  refine g_new X (ci := 6) (fs := [ii 0, .null, .null, .null]) (ty := tyX6) iw_X8_init_X6 tyX6_ok wd_X8_init_cl44 wd_X8_init_inst6 wd_X8_init_ini6 rfl (fun j hj => by rcases (show j = 0 ∨ j = 1 ∨ j = 2 ∨ j = 3 by omega) with rfl | rfl | rfl | rfl <;> rfl) ⟨Nat.le_of_ble_eq_true rfl, Nat.le_of_ble_eq_true rfl⟩ dX8_init_72 (fun q10 => ?_)
  refine g_dup X dX8_init_75 rfl ?_
  refine g_callIN X hao (As := []) (st := [.ref q10, .ref h0]) (L := ((((([(h0, .inr (8, [.ref (a2 0), .ref (a4 0), .ref (a6 0), ii 0, .ref q7, ii 0, .ref (a9 0), .null, .null]))] ++ c1 K 6 a2 (g6, zA, zA)) ++ c1 K 6 a4 (g6, zA, zA)) ++ c1 K 4 a6 (g4, zA, zA)) ++ [(q7, .inl (K.2.1, 6, .inl (arI zA)))]) ++ c4 K a9 (gT, zA, zA))) (X6_init_ok K l q10 ) ggX8_init_X6_init wd_X8_init_ini6 ne_X8_init_46 wd_X8_init_im6 rfl rfl 0 (by decide +kernel) ⟨Nat.le_of_ble_eq_true rfl, Nat.le_of_ble_eq_true rfl⟩ ⟨Nat.le_of_ble_eq_true rfl, Nat.le_of_ble_eq_true rfl⟩ rfl rfl (Nat.le_of_ble_eq_true rfl) dX8_init_76 rfl (fun a11 ea11 => ?_)
  refine g_stk (st' := [.ref (a11 0), .ref h0]) (by rw [ea11]) ?_
  refine g_putF X hmn 0 7 dX8_init_79 rfl rfl iw_X8_init_X8 tyX8_ok nmX8 (by decide) fl_X8_init_47 rfl rfl rfl rfl rfl (Nat.le_of_ble_eq_true rfl) (ws' := (((((([(h0, .inr (8, [.ref (a2 0), .ref (a4 0), .ref (a6 0), ii 0, .ref q7, ii 0, .ref (a9 0), .ref (a11 0), .null]))] ++ c1 K 6 a2 (g6, zA, zA)) ++ c1 K 6 a4 (g6, zA, zA)) ++ c1 K 4 a6 (g4, zA, zA)) ++ [(q7, .inl (K.2.1, 6, .inl (arI zA)))]) ++ c4 K a9 (gT, zA, zA)) ++ c6 K a11 (0, zA, zA, zA))) rfl ?_
  refine g_aload_n X dX8_init_82 0 rfl rfl ?_
  refine g_bipush X dX8_init_83 (by decide +kernel) ?_
  refine g_stk (st' := [ii ((8 : Nat) : Int), .ref h0]) rfl ?_
  refine g_newi X (N := 8) rfl (Nat.le_of_ble_eq_true rfl) wd_X8_init_acint ⟨Nat.le_of_ble_eq_true rfl, Nat.le_of_ble_eq_true rfl⟩ dX8_init_85 (fun q12 => ?_)
  refine g_putF X hmn 0 8 dX8_init_87 rfl rfl iw_X8_init_X8 tyX8_ok nmX8 (by decide) fl_X8_init_51 rfl rfl rfl rfl rfl (Nat.le_of_ble_eq_true rfl) (ws' := ((((((([(h0, .inr (8, [.ref (a2 0), .ref (a4 0), .ref (a6 0), ii 0, .ref q7, ii 0, .ref (a9 0), .ref (a11 0), .ref q12]))] ++ c1 K 6 a2 (g6, zA, zA)) ++ c1 K 6 a4 (g6, zA, zA)) ++ c1 K 4 a6 (g4, zA, zA)) ++ [(q7, .inl (K.2.1, 6, .inl (arI zA)))]) ++ c4 K a9 (gT, zA, zA)) ++ c6 K a11 (0, zA, zA, zA)) ++ [(q12, .inl (K.2.1, 8, .inl (arI zA)))])) rfl ?_
  refine g_aload_n X dX8_init_90 0 rfl rfl ?_
  refine g_get X (v := .ref q7) 0 4 dX8_init_91 rfl rfl iw_X8_init_X8 (by decide) fl_X8_init_30 rfl ?_
  refine g_iconst X dX8_init_94 ?_
  refine g_callS X (As := [.ref q7, ii (-1)]) (st := []) (st1 := []) (ws' := ((((((([(h0, .inr (8, [.ref (a2 0), .ref (a4 0), .ref (a6 0), ii 0, .ref q7, ii 0, .ref (a9 0), .ref (a11 0), .ref q12]))] ++ c1 K 6 a2 (g6, zA, zA)) ++ c1 K 6 a4 (g6, zA, zA)) ++ c1 K 4 a6 (g4, zA, zA)) ++ [(q7, .inl (K.2.1, 6, .inl (arI gT)))]) ++ c4 K a9 (gT, zA, zA)) ++ c6 K a11 (0, zA, zA, zA)) ++ [(q12, .inl (K.2.1, 8, .inl (arI zA)))])) (J7_fill_53178_ok K l 6 (by decide) q7 zA (-1) gT hgT) gX8_init_J7_fill_53178 rfl 2 (by decide +kernel) ⟨rfl, rfl⟩ ⟨Nat.le_of_ble_eq_true rfl, Nat.le_of_ble_eq_true rfl⟩ ⟨Nat.le_of_ble_eq_true rfl, Nat.le_of_ble_eq_true rfl⟩ rfl rfl (Nat.le_of_ble_eq_true rfl) dX8_init_95 (SG.one ((([(h0, .inr (8, [.ref (a2 0), .ref (a4 0), .ref (a6 0), ii 0, .ref q7, ii 0, .ref (a9 0), .ref (a11 0), .ref q12]))] ++ c1 K 6 a2 (g6, zA, zA)) ++ c1 K 6 a4 (g6, zA, zA)) ++ c1 K 4 a6 (g4, zA, zA)) (c4 K a9 (gT, zA, zA) ++ (c6 K a11 (0, zA, zA, zA) ++ ([(q12, .inl (K.2.1, 8, .inl (arI zA)))]))) (by simp) (by simp) rfl) rfl ?_
  refine g_aload_n X dX8_init_98 0 rfl rfl ?_
  refine g_get X (v := .ref (a11 0)) 0 7 dX8_init_99 rfl rfl iw_X8_init_X8 (by decide) fl_X8_init_47 rfl ?_
  refine g_iconst X dX8_init_102 ?_
  refine g_iconst X dX8_init_103 ?_
  refine g_iconst X dX8_init_104 ?_
  refine g_callV X (As := [ii 0, ii 0, ii 0]) (st := []) (st1 := [ii wP.1]) (ws' := ((((((([(h0, .inr (8, [.ref (a2 0), .ref (a4 0), .ref (a6 0), ii 0, .ref q7, ii 0, .ref (a9 0), .ref (a11 0), .ref q12]))] ++ c1 K 6 a2 (g6, zA, zA)) ++ c1 K 6 a4 (g6, zA, zA)) ++ c1 K 4 a6 (g4, zA, zA)) ++ [(q7, .inl (K.2.1, 6, .inl (arI gT)))]) ++ c4 K a9 (gT, zA, zA)) ++ c6 K a11 wP.2) ++ [(q12, .inl (K.2.1, 8, .inl (arI zA)))])) (X6_add_ok K l a11 (0, zA, zA, zA) 0 0 0 wP hP) gX8_init_X6_add rfl 3 (by decide +kernel) ⟨rfl, rfl⟩ ⟨Nat.le_of_ble_eq_true rfl, Nat.le_of_ble_eq_true rfl⟩ ⟨Nat.le_of_ble_eq_true rfl, Nat.le_of_ble_eq_true rfl⟩ 18 rfl rfl rfl rfl (Nat.le_of_ble_eq_true rfl) dX8_init_105 (SG.one ((((([(h0, .inr (8, [.ref (a2 0), .ref (a4 0), .ref (a6 0), ii 0, .ref q7, ii 0, .ref (a9 0), .ref (a11 0), .ref q12]))] ++ c1 K 6 a2 (g6, zA, zA)) ++ c1 K 6 a4 (g6, zA, zA)) ++ c1 K 4 a6 (g4, zA, zA)) ++ [(q7, .inl (K.2.1, 6, .inl (arI gT)))]) ++ c4 K a9 (gT, zA, zA)) ([(q12, .inl (K.2.1, 8, .inl (arI zA)))]) rfl rfl rfl) rfl ?_
  refine g_pop X dX8_init_108 rfl ?_
  exact g_iend X hr hlk (acons h0 (acat 4 a2 (acat 4 a4 (acat 4 a6 (acons q7 (acat 4 a9 (acat 4 a11 (acons q12 (fun _ => 0))))))))) rfl (List.Perm.of_eq rfl) dX8_init_109
