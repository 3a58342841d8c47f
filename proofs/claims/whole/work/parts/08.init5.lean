def allI : Arr := upI (upI (upI (upI (upI (upI (upI (upI (upI (upI (upI (upI (upI (upI (upI (upI (upI (upI (upI (upI (zA) 0 1) 7 1) 14 1) 21 1) 28 1) 35 1) 42 1) 49 1) 56 1) 63 1) 70 1) 77 1) 117 (-1)) 122 (-1)) 127 (-1)) 132 (-1)) 137 (-1)) 142 (-1)) 148 1) 149 0
theorem wd_X10_init_oi1 : Cond.methodLink RX10 1 Lib.objectInit ∈ wsX10_init := by decide +kernel
theorem wd_X10_init_oi2 : Cond.instanceMethod Lib.objectInit ∈ wsX10_init := by decide +kernel
theorem wd_X10_init_oi3 : Cond.code Lib.objectInit ⟨#[0xb1]⟩ 1 none ∈ wsX10_init := by decide +kernel
theorem wd_X10_init_acint : Cond.arrayClass .int ∈ wsX10_init := by decide +kernel
theorem iw_X10_init_X10 : ∀ w ∈ u_ws RX10 TX10 23, w ∈ wsX10_init := by decide +kernel
theorem fl_X10_init_7 : Cond.fieldLink RX10 7 (TX10 0).1 (TX10 0).2.1 (TX10 0).2.2.1 ∈ wsX10_init := by decide +kernel
theorem fl_X10_init_13 : Cond.fieldLink RX10 13 (TX10 1).1 (TX10 1).2.1 (TX10 1).2.2.1 ∈ wsX10_init := by decide +kernel
theorem fl_X10_init_16 : Cond.fieldLink RX10 16 (TX10 3).1 (TX10 3).2.1 (TX10 3).2.2.1 ∈ wsX10_init := by decide +kernel
theorem fl_X10_init_19 : Cond.fieldLink RX10 19 (TX10 4).1 (TX10 4).2.1 (TX10 4).2.2.1 ∈ wsX10_init := by decide +kernel
theorem fl_X10_init_22 : Cond.fieldLink RX10 22 (TX10 6).1 (TX10 6).2.1 (TX10 6).2.2.1 ∈ wsX10_init := by decide +kernel
theorem fl_X10_init_25 : Cond.fieldLink RX10 25 (TX10 8).1 (TX10 8).2.1 (TX10 8).2.2.1 ∈ wsX10_init := by decide +kernel
theorem fl_X10_init_28 : Cond.fieldLink RX10 28 (TX10 11).1 (TX10 11).2.1 (TX10 11).2.2.1 ∈ wsX10_init := by decide +kernel
theorem fl_X10_init_31 : Cond.fieldLink RX10 31 (TX10 13).1 (TX10 13).2.1 (TX10 13).2.2.1 ∈ wsX10_init := by decide +kernel
theorem fl_X10_init_34 : Cond.fieldLink RX10 34 (TX10 15).1 (TX10 15).2.1 (TX10 15).2.2.1 ∈ wsX10_init := by decide +kernel
theorem fl_X10_init_37 : Cond.fieldLink RX10 37 (TX10 16).1 (TX10 16).2.1 (TX10 16).2.2.1 ∈ wsX10_init := by decide +kernel
theorem fl_X10_init_40 : Cond.fieldLink RX10 40 (TX10 17).1 (TX10 17).2.1 (TX10 17).2.2.1 ∈ wsX10_init := by decide +kernel
theorem fl_X10_init_43 : Cond.fieldLink RX10 43 (TX10 20).1 (TX10 20).2.1 (TX10 20).2.2.1 ∈ wsX10_init := by decide +kernel
theorem fl_X10_init_46 : Cond.fieldLink RX10 46 (TX10 21).1 (TX10 21).2.1 (TX10 21).2.2.1 ∈ wsX10_init := by decide +kernel
def rmX10_init : Room := { frames := 1, cells := 13, slots := 1495, locals := 20 }
set_option maxHeartbeats 8000000 in
set_option maxRecDepth 100000 in
theorem X10_init_ok (K : KE) (l : Launch) (h0 : Nat)  : CI l K.1 vwCl (kT K) yX10_init wsX10_init rmX10_init [.ref h0] h0 (.inr (10, [.null, .null, ii 0, .null, .null, ii 0, .null, ii 0, .null, ii 0, ii 0, .null, ii 0, .null, ii 0, .null, .null, .null, ii 0, ii 0, .null, .null, ii 0])) (fun a => c10 K a allI zA 0 zA zA 0 zA 0 zA 0 0 zA 0 zA 0 zA zA zA 0 0 zA zA 0) := by
  refine CI.mk (cc := cX10_init) (maxL := 2) (by decide) rfl rfl (Nat.le_of_ble_eq_true rfl) (fun p e s m below meth c X hao hmn hr hlk => ?_)
  have X : CX p s m ([.ref h0] : List Value).toArray c K.1 vwCl (kT K) (va_A [(h0, .inr (10, [.null, .null, ii 0, .null, .null, ii 0, .null, ii 0, .null, ii 0, ii 0, .null, ii 0, .null, ii 0, .null, .null, .null, ii 0, ii 0, .null, .null, ii 0]))] s.heap.size) cX10_init 2 wsX10_init RX10 := X
  refine g_aload_n X dX10_init_0 0 rfl rfl ?_
  refine g_objInit X wd_X10_init_oi1 wd_X10_init_oi2 wd_X10_init_oi3 dX10_init_1 ⟨Nat.le_of_ble_eq_true rfl, Nat.le_of_ble_eq_true rfl⟩ ?_
  refine g_aload_n X dX10_init_4 0 rfl rfl ?_
  refine g_sipush X dX10_init_5 (by decide +kernel) ?_
  refine g_stk (st' := [ii ((186 : Nat) : Int), .ref h0]) rfl ?_
  refine g_newi X (N := 186) rfl (Nat.le_of_ble_eq_true rfl) wd_X10_init_acint ⟨Nat.le_of_ble_eq_true rfl, Nat.le_of_ble_eq_true rfl⟩ dX10_init_8 (fun q1 => ?_)
  refine g_world (ws' := [(h0, .inr (10, [.null, .null, ii 0, .null, .null, ii 0, .null, ii 0, .null, ii 0, ii 0, .null, ii 0, .null, ii 0, .null, .null, .null, ii 0, ii 0, .null, .null, ii 0])), (q1, .inl (K.2.1, 186, .inl (arI zA)))]) rfl ?_
  refine g_putF X hmn 0 0 dX10_init_10 rfl rfl iw_X10_init_X10 tyX10_ok nmX10 (by decide) fl_X10_init_7 rfl rfl rfl rfl rfl (Nat.le_of_ble_eq_true rfl) (ws' := [(h0, .inr (10, [.ref q1, .null, ii 0, .null, .null, ii 0, .null, ii 0, .null, ii 0, ii 0, .null, ii 0, .null, ii 0, .null, .null, .null, ii 0, ii 0, .null, .null, ii 0])), (q1, .inl (K.2.1, 186, .inl (arI zA)))]) rfl ?_
  refine g_aload_n X dX10_init_13 0 rfl rfl ?_
  refine g_sipush X dX10_init_14 (by decide +kernel) ?_
  refine g_stk (st' := [ii ((744 : Nat) : Int), .ref h0]) rfl ?_
  refine g_newi X (N := 744) rfl (Nat.le_of_ble_eq_true rfl) wd_X10_init_acint ⟨Nat.le_of_ble_eq_true rfl, Nat.le_of_ble_eq_true rfl⟩ dX10_init_17 (fun q2 => ?_)
  refine g_world (ws' := [(h0, .inr (10, [.ref q1, .null, ii 0, .null, .null, ii 0, .null, ii 0, .null, ii 0, ii 0, .null, ii 0, .null, ii 0, .null, .null, .null, ii 0, ii 0, .null, .null, ii 0])), (q1, .inl (K.2.1, 186, .inl (arI zA))), (q2, .inl (K.2.1, 744, .inl (arI zA)))]) rfl ?_
  refine g_putF X hmn 0 1 dX10_init_19 rfl rfl iw_X10_init_X10 tyX10_ok nmX10 (by decide) fl_X10_init_13 rfl rfl rfl rfl rfl (Nat.le_of_ble_eq_true rfl) (ws' := [(h0, .inr (10, [.ref q1, .ref q2, ii 0, .null, .null, ii 0, .null, ii 0, .null, ii 0, ii 0, .null, ii 0, .null, ii 0, .null, .null, .null, ii 0, ii 0, .null, .null, ii 0])), (q1, .inl (K.2.1, 186, .inl (arI zA))), (q2, .inl (K.2.1, 744, .inl (arI zA)))]) rfl ?_
  refine g_aload_n X dX10_init_22 0 rfl rfl ?_
  refine g_iconst X dX10_init_23 ?_
  refine g_stk (st' := [ii ((4 : Nat) : Int), .ref h0]) rfl ?_
  refine g_newi X (N := 4) rfl (Nat.le_of_ble_eq_true rfl) wd_X10_init_acint ⟨Nat.le_of_ble_eq_true rfl, Nat.le_of_ble_eq_true rfl⟩ dX10_init_24 (fun q3 => ?_)
  refine g_world (ws' := [(h0, .inr (10, [.ref q1, .ref q2, ii 0, .null, .null, ii 0, .null, ii 0, .null, ii 0, ii 0, .null, ii 0, .null, ii 0, .null, .null, .null, ii 0, ii 0, .null, .null, ii 0])), (q1, .inl (K.2.1, 186, .inl (arI zA))), (q2, .inl (K.2.1, 744, .inl (arI zA))), (q3, .inl (K.2.1, 4, .inl (arI zA)))]) rfl ?_
  refine g_putF X hmn 0 3 dX10_init_26 rfl rfl iw_X10_init_X10 tyX10_ok nmX10 (by decide) fl_X10_init_16 rfl rfl rfl rfl rfl (Nat.le_of_ble_eq_true rfl) (ws' := [(h0, .inr (10, [.ref q1, .ref q2, ii 0, .ref q3, .null, ii 0, .null, ii 0, .null, ii 0, ii 0, .null, ii 0, .null, ii 0, .null, .null, .null, ii 0, ii 0, .null, .null, ii 0])), (q1, .inl (K.2.1, 186, .inl (arI zA))), (q2, .inl (K.2.1, 744, .inl (arI zA))), (q3, .inl (K.2.1, 4, .inl (arI zA)))]) rfl ?_
  refine g_aload_n X dX10_init_29 0 rfl rfl ?_
  refine g_bipush X dX10_init_30 (by decide +kernel) ?_
  refine g_stk (st' := [ii ((120 : Nat) : Int), .ref h0]) rfl ?_
  refine g_newi X (N := 120) rfl (Nat.le_of_ble_eq_true rfl) wd_X10_init_acint ⟨Nat.le_of_ble_eq_true rfl, Nat.le_of_ble_eq_true rfl⟩ dX10_init_32 (fun q4 => ?_)
  refine g_world (ws' := [(h0, .inr (10, [.ref q1, .ref q2, ii 0, .ref q3, .null, ii 0, .null, ii 0, .null, ii 0, ii 0, .null, ii 0, .null, ii 0, .null, .null, .null, ii 0, ii 0, .null, .null, ii 0])), (q1, .inl (K.2.1, 186, .inl (arI zA))), (q2, .inl (K.2.1, 744, .inl (arI zA))), (q3, .inl (K.2.1, 4, .inl (arI zA))), (q4, .inl (K.2.1, 120, .inl (arI zA)))]) rfl ?_
  refine g_putF X hmn 0 4 dX10_init_34 rfl rfl iw_X10_init_X10 tyX10_ok nmX10 (by decide) fl_X10_init_19 rfl rfl rfl rfl rfl (Nat.le_of_ble_eq_true rfl) (ws' := [(h0, .inr (10, [.ref q1, .ref q2, ii 0, .ref q3, .ref q4, ii 0, .null, ii 0, .null, ii 0, ii 0, .null, ii 0, .null, ii 0, .null, .null, .null, ii 0, ii 0, .null, .null, ii 0])), (q1, .inl (K.2.1, 186, .inl (arI zA))), (q2, .inl (K.2.1, 744, .inl (arI zA))), (q3, .inl (K.2.1, 4, .inl (arI zA))), (q4, .inl (K.2.1, 120, .inl (arI zA)))]) rfl ?_
  refine g_aload_n X dX10_init_37 0 rfl rfl ?_
  refine g_bipush X dX10_init_38 (by decide +kernel) ?_
  refine g_stk (st' := [ii ((30 : Nat) : Int), .ref h0]) rfl ?_
  refine g_newi X (N := 30) rfl (Nat.le_of_ble_eq_true rfl) wd_X10_init_acint ⟨Nat.le_of_ble_eq_true rfl, Nat.le_of_ble_eq_true rfl⟩ dX10_init_40 (fun q5 => ?_)
  refine g_world (ws' := [(h0, .inr (10, [.ref q1, .ref q2, ii 0, .ref q3, .ref q4, ii 0, .null, ii 0, .null, ii 0, ii 0, .null, ii 0, .null, ii 0, .null, .null, .null, ii 0, ii 0, .null, .null, ii 0])), (q1, .inl (K.2.1, 186, .inl (arI zA))), (q2, .inl (K.2.1, 744, .inl (arI zA))), (q3, .inl (K.2.1, 4, .inl (arI zA))), (q4, .inl (K.2.1, 120, .inl (arI zA))), (q5, .inl (K.2.1, 30, .inl (arI zA)))]) rfl ?_
  refine g_putF X hmn 0 6 dX10_init_42 rfl rfl iw_X10_init_X10 tyX10_ok nmX10 (by decide) fl_X10_init_22 rfl rfl rfl rfl rfl (Nat.le_of_ble_eq_true rfl) (ws' := [(h0, .inr (10, [.ref q1, .ref q2, ii 0, .ref q3, .ref q4, ii 0, .ref q5, ii 0, .null, ii 0, ii 0, .null, ii 0, .null, ii 0, .null, .null, .null, ii 0, ii 0, .null, .null, ii 0])), (q1, .inl (K.2.1, 186, .inl (arI zA))), (q2, .inl (K.2.1, 744, .inl (arI zA))), (q3, .inl (K.2.1, 4, .inl (arI zA))), (q4, .inl (K.2.1, 120, .inl (arI zA))), (q5, .inl (K.2.1, 30, .inl (arI zA)))]) rfl ?_
  refine g_aload_n X dX10_init_45 0 rfl rfl ?_
  refine g_bipush X dX10_init_46 (by decide +kernel) ?_
  refine g_stk (st' := [ii ((30 : Nat) : Int), .ref h0]) rfl ?_
  refine g_newi X (N := 30) rfl (Nat.le_of_ble_eq_true rfl) wd_X10_init_acint ⟨Nat.le_of_ble_eq_true rfl, Nat.le_of_ble_eq_true rfl⟩ dX10_init_48 (fun q6 => ?_)
  refine g_world (ws' := [(h0, .inr (10, [.ref q1, .ref q2, ii 0, .ref q3, .ref q4, ii 0, .ref q5, ii 0, .null, ii 0, ii 0, .null, ii 0, .null, ii 0, .null, .null, .null, ii 0, ii 0, .null, .null, ii 0])), (q1, .inl (K.2.1, 186, .inl (arI zA))), (q2, .inl (K.2.1, 744, .inl (arI zA))), (q3, .inl (K.2.1, 4, .inl (arI zA))), (q4, .inl (K.2.1, 120, .inl (arI zA))), (q5, .inl (K.2.1, 30, .inl (arI zA))), (q6, .inl (K.2.1, 30, .inl (arI zA)))]) rfl ?_
  refine g_putF X hmn 0 8 dX10_init_50 rfl rfl iw_X10_init_X10 tyX10_ok nmX10 (by decide) fl_X10_init_25 rfl rfl rfl rfl rfl (Nat.le_of_ble_eq_true rfl) (ws' := [(h0, .inr (10, [.ref q1, .ref q2, ii 0, .ref q3, .ref q4, ii 0, .ref q5, ii 0, .ref q6, ii 0, ii 0, .null, ii 0, .null, ii 0, .null, .null, .null, ii 0, ii 0, .null, .null, ii 0])), (q1, .inl (K.2.1, 186, .inl (arI zA))), (q2, .inl (K.2.1, 744, .inl (arI zA))), (q3, .inl (K.2.1, 4, .inl (arI zA))), (q4, .inl (K.2.1, 120, .inl (arI zA))), (q5, .inl (K.2.1, 30, .inl (arI zA))), (q6, .inl (K.2.1, 30, .inl (arI zA)))]) rfl ?_
  refine g_aload_n X dX10_init_53 0 rfl rfl ?_
  refine g_bipush X dX10_init_54 (by decide +kernel) ?_
  refine g_stk (st' := [ii ((30 : Nat) : Int), .ref h0]) rfl ?_
  refine g_newi X (N := 30) rfl (Nat.le_of_ble_eq_true rfl) wd_X10_init_acint ⟨Nat.le_of_ble_eq_true rfl, Nat.le_of_ble_eq_true rfl⟩ dX10_init_56 (fun q7 => ?_)
  refine g_world (ws' := [(h0, .inr (10, [.ref q1, .ref q2, ii 0, .ref q3, .ref q4, ii 0, .ref q5, ii 0, .ref q6, ii 0, ii 0, .null, ii 0, .null, ii 0, .null, .null, .null, ii 0, ii 0, .null, .null, ii 0])), (q1, .inl (K.2.1, 186, .inl (arI zA))), (q2, .inl (K.2.1, 744, .inl (arI zA))), (q3, .inl (K.2.1, 4, .inl (arI zA))), (q4, .inl (K.2.1, 120, .inl (arI zA))), (q5, .inl (K.2.1, 30, .inl (arI zA))), (q6, .inl (K.2.1, 30, .inl (arI zA))), (q7, .inl (K.2.1, 30, .inl (arI zA)))]) rfl ?_
  refine g_putF X hmn 0 11 dX10_init_58 rfl rfl iw_X10_init_X10 tyX10_ok nmX10 (by decide) fl_X10_init_28 rfl rfl rfl rfl rfl (Nat.le_of_ble_eq_true rfl) (ws' := [(h0, .inr (10, [.ref q1, .ref q2, ii 0, .ref q3, .ref q4, ii 0, .ref q5, ii 0, .ref q6, ii 0, ii 0, .ref q7, ii 0, .null, ii 0, .null, .null, .null, ii 0, ii 0, .null, .null, ii 0])), (q1, .inl (K.2.1, 186, .inl (arI zA))), (q2, .inl (K.2.1, 744, .inl (arI zA))), (q3, .inl (K.2.1, 4, .inl (arI zA))), (q4, .inl (K.2.1, 120, .inl (arI zA))), (q5, .inl (K.2.1, 30, .inl (arI zA))), (q6, .inl (K.2.1, 30, .inl (arI zA))), (q7, .inl (K.2.1, 30, .inl (arI zA)))]) rfl ?_
  refine g_aload_n X dX10_init_61 0 rfl rfl ?_
  refine g_bipush X dX10_init_62 (by decide +kernel) ?_
  refine g_stk (st' := [ii ((31 : Nat) : Int), .ref h0]) rfl ?_
  refine g_newi X (N := 31) rfl (Nat.le_of_ble_eq_true rfl) wd_X10_init_acint ⟨Nat.le_of_ble_eq_true rfl, Nat.le_of_ble_eq_true rfl⟩ dX10_init_64 (fun q8 => ?_)
  refine g_world (ws' := [(h0, .inr (10, [.ref q1, .ref q2, ii 0, .ref q3, .ref q4, ii 0, .ref q5, ii 0, .ref q6, ii 0, ii 0, .ref q7, ii 0, .null, ii 0, .null, .null, .null, ii 0, ii 0, .null, .null, ii 0])), (q1, .inl (K.2.1, 186, .inl (arI zA))), (q2, .inl (K.2.1, 744, .inl (arI zA))), (q3, .inl (K.2.1, 4, .inl (arI zA))), (q4, .inl (K.2.1, 120, .inl (arI zA))), (q5, .inl (K.2.1, 30, .inl (arI zA))), (q6, .inl (K.2.1, 30, .inl (arI zA))), (q7, .inl (K.2.1, 30, .inl (arI zA))), (q8, .inl (K.2.1, 31, .inl (arI zA)))]) rfl ?_
  refine g_putF X hmn 0 13 dX10_init_66 rfl rfl iw_X10_init_X10 tyX10_ok nmX10 (by decide) fl_X10_init_31 rfl rfl rfl rfl rfl (Nat.le_of_ble_eq_true rfl) (ws' := [(h0, .inr (10, [.ref q1, .ref q2, ii 0, .ref q3, .ref q4, ii 0, .ref q5, ii 0, .ref q6, ii 0, ii 0, .ref q7, ii 0, .ref q8, ii 0, .null, .null, .null, ii 0, ii 0, .null, .null, ii 0])), (q1, .inl (K.2.1, 186, .inl (arI zA))), (q2, .inl (K.2.1, 744, .inl (arI zA))), (q3, .inl (K.2.1, 4, .inl (arI zA))), (q4, .inl (K.2.1, 120, .inl (arI zA))), (q5, .inl (K.2.1, 30, .inl (arI zA))), (q6, .inl (K.2.1, 30, .inl (arI zA))), (q7, .inl (K.2.1, 30, .inl (arI zA))), (q8, .inl (K.2.1, 31, .inl (arI zA)))]) rfl ?_
  refine g_aload_n X dX10_init_69 0 rfl rfl ?_
  refine g_bipush X dX10_init_70 (by decide +kernel) ?_
  refine g_stk (st' := [ii ((30 : Nat) : Int), .ref h0]) rfl ?_
  refine g_newi X (N := 30) rfl (Nat.le_of_ble_eq_true rfl) wd_X10_init_acint ⟨Nat.le_of_ble_eq_true rfl, Nat.le_of_ble_eq_true rfl⟩ dX10_init_72 (fun q9 => ?_)
  refine g_world (ws' := [(h0, .inr (10, [.ref q1, .ref q2, ii 0, .ref q3, .ref q4, ii 0, .ref q5, ii 0, .ref q6, ii 0, ii 0, .ref q7, ii 0, .ref q8, ii 0, .null, .null, .null, ii 0, ii 0, .null, .null, ii 0])), (q1, .inl (K.2.1, 186, .inl (arI zA))), (q2, .inl (K.2.1, 744, .inl (arI zA))), (q3, .inl (K.2.1, 4, .inl (arI zA))), (q4, .inl (K.2.1, 120, .inl (arI zA))), (q5, .inl (K.2.1, 30, .inl (arI zA))), (q6, .inl (K.2.1, 30, .inl (arI zA))), (q7, .inl (K.2.1, 30, .inl (arI zA))), (q8, .inl (K.2.1, 31, .inl (arI zA))), (q9, .inl (K.2.1, 30, .inl (arI zA)))]) rfl ?_
  refine g_putF X hmn 0 15 dX10_init_74 rfl rfl iw_X10_init_X10 tyX10_ok nmX10 (by decide) fl_X10_init_34 rfl rfl rfl rfl rfl (Nat.le_of_ble_eq_true rfl) (ws' := [(h0, .inr (10, [.ref q1, .ref q2, ii 0, .ref q3, .ref q4, ii 0, .ref q5, ii 0, .ref q6, ii 0, ii 0, .ref q7, ii 0, .ref q8, ii 0, .ref q9, .null, .null, ii 0, ii 0, .null, .null, ii 0])), (q1, .inl (K.2.1, 186, .inl (arI zA))), (q2, .inl (K.2.1, 744, .inl (arI zA))), (q3, .inl (K.2.1, 4, .inl (arI zA))), (q4, .inl (K.2.1, 120, .inl (arI zA))), (q5, .inl (K.2.1, 30, .inl (arI zA))), (q6, .inl (K.2.1, 30, .inl (arI zA))), (q7, .inl (K.2.1, 30, .inl (arI zA))), (q8, .inl (K.2.1, 31, .inl (arI zA))), (q9, .inl (K.2.1, 30, .inl (arI zA)))]) rfl ?_
  refine g_aload_n X dX10_init_77 0 rfl rfl ?_
  refine g_bipush X dX10_init_78 (by decide +kernel) ?_
  refine g_stk (st' := [ii ((30 : Nat) : Int), .ref h0]) rfl ?_
  refine g_newi X (N := 30) rfl (Nat.le_of_ble_eq_true rfl) wd_X10_init_acint ⟨Nat.le_of_ble_eq_true rfl, Nat.le_of_ble_eq_true rfl⟩ dX10_init_80 (fun q10 => ?_)
  refine g_world (ws' := [(h0, .inr (10, [.ref q1, .ref q2, ii 0, .ref q3, .ref q4, ii 0, .ref q5, ii 0, .ref q6, ii 0, ii 0, .ref q7, ii 0, .ref q8, ii 0, .ref q9, .null, .null, ii 0, ii 0, .null, .null, ii 0])), (q1, .inl (K.2.1, 186, .inl (arI zA))), (q2, .inl (K.2.1, 744, .inl (arI zA))), (q3, .inl (K.2.1, 4, .inl (arI zA))), (q4, .inl (K.2.1, 120, .inl (arI zA))), (q5, .inl (K.2.1, 30, .inl (arI zA))), (q6, .inl (K.2.1, 30, .inl (arI zA))), (q7, .inl (K.2.1, 30, .inl (arI zA))), (q8, .inl (K.2.1, 31, .inl (arI zA))), (q9, .inl (K.2.1, 30, .inl (arI zA))), (q10, .inl (K.2.1, 30, .inl (arI zA)))]) rfl ?_
  refine g_putF X hmn 0 16 dX10_init_82 rfl rfl iw_X10_init_X10 tyX10_ok nmX10 (by decide) fl_X10_init_37 rfl rfl rfl rfl rfl (Nat.le_of_ble_eq_true rfl) (ws' := [(h0, .inr (10, [.ref q1, .ref q2, ii 0, .ref q3, .ref q4, ii 0, .ref q5, ii 0, .ref q6, ii 0, ii 0, .ref q7, ii 0, .ref q8, ii 0, .ref q9, .ref q10, .null, ii 0, ii 0, .null, .null, ii 0])), (q1, .inl (K.2.1, 186, .inl (arI zA))), (q2, .inl (K.2.1, 744, .inl (arI zA))), (q3, .inl (K.2.1, 4, .inl (arI zA))), (q4, .inl (K.2.1, 120, .inl (arI zA))), (q5, .inl (K.2.1, 30, .inl (arI zA))), (q6, .inl (K.2.1, 30, .inl (arI zA))), (q7, .inl (K.2.1, 30, .inl (arI zA))), (q8, .inl (K.2.1, 31, .inl (arI zA))), (q9, .inl (K.2.1, 30, .inl (arI zA))), (q10, .inl (K.2.1, 30, .inl (arI zA)))]) rfl ?_
  refine g_aload_n X dX10_init_85 0 rfl rfl ?_
  refine g_bipush X dX10_init_86 (by decide +kernel) ?_
  refine g_stk (st' := [ii ((30 : Nat) : Int), .ref h0]) rfl ?_
  refine g_newi X (N := 30) rfl (Nat.le_of_ble_eq_true rfl) wd_X10_init_acint ⟨Nat.le_of_ble_eq_true rfl, Nat.le_of_ble_eq_true rfl⟩ dX10_init_88 (fun q11 => ?_)
  refine g_world (ws' := [(h0, .inr (10, [.ref q1, .ref q2, ii 0, .ref q3, .ref q4, ii 0, .ref q5, ii 0, .ref q6, ii 0, ii 0, .ref q7, ii 0, .ref q8, ii 0, .ref q9, .ref q10, .null, ii 0, ii 0, .null, .null, ii 0])), (q1, .inl (K.2.1, 186, .inl (arI zA))), (q2, .inl (K.2.1, 744, .inl (arI zA))), (q3, .inl (K.2.1, 4, .inl (arI zA))), (q4, .inl (K.2.1, 120, .inl (arI zA))), (q5, .inl (K.2.1, 30, .inl (arI zA))), (q6, .inl (K.2.1, 30, .inl (arI zA))), (q7, .inl (K.2.1, 30, .inl (arI zA))), (q8, .inl (K.2.1, 31, .inl (arI zA))), (q9, .inl (K.2.1, 30, .inl (arI zA))), (q10, .inl (K.2.1, 30, .inl (arI zA))), (q11, .inl (K.2.1, 30, .inl (arI zA)))]) rfl ?_
  refine g_putF X hmn 0 17 dX10_init_90 rfl rfl iw_X10_init_X10 tyX10_ok nmX10 (by decide) fl_X10_init_40 rfl rfl rfl rfl rfl (Nat.le_of_ble_eq_true rfl) (ws' := [(h0, .inr (10, [.ref q1, .ref q2, ii 0, .ref q3, .ref q4, ii 0, .ref q5, ii 0, .ref q6, ii 0, ii 0, .ref q7, ii 0, .ref q8, ii 0, .ref q9, .ref q10, .ref q11, ii 0, ii 0, .null, .null, ii 0])), (q1, .inl (K.2.1, 186, .inl (arI zA))), (q2, .inl (K.2.1, 744, .inl (arI zA))), (q3, .inl (K.2.1, 4, .inl (arI zA))), (q4, .inl (K.2.1, 120, .inl (arI zA))), (q5, .inl (K.2.1, 30, .inl (arI zA))), (q6, .inl (K.2.1, 30, .inl (arI zA))), (q7, .inl (K.2.1, 30, .inl (arI zA))), (q8, .inl (K.2.1, 31, .inl (arI zA))), (q9, .inl (K.2.1, 30, .inl (arI zA))), (q10, .inl (K.2.1, 30, .inl (arI zA))), (q11, .inl (K.2.1, 30, .inl (arI zA)))]) rfl ?_
  refine g_aload_n X dX10_init_93 0 rfl rfl ?_
  refine g_bipush X dX10_init_94 (by decide +kernel) ?_
  refine g_stk (st' := [ii ((30 : Nat) : Int), .ref h0]) rfl ?_
  refine g_newi X (N := 30) rfl (Nat.le_of_ble_eq_true rfl) wd_X10_init_acint ⟨Nat.le_of_ble_eq_true rfl, Nat.le_of_ble_eq_true rfl⟩ dX10_init_96 (fun q12 => ?_)
  refine g_world (ws' := [(h0, .inr (10, [.ref q1, .ref q2, ii 0, .ref q3, .ref q4, ii 0, .ref q5, ii 0, .ref q6, ii 0, ii 0, .ref q7, ii 0, .ref q8, ii 0, .ref q9, .ref q10, .ref q11, ii 0, ii 0, .null, .null, ii 0])), (q1, .inl (K.2.1, 186, .inl (arI zA))), (q2, .inl (K.2.1, 744, .inl (arI zA))), (q3, .inl (K.2.1, 4, .inl (arI zA))), (q4, .inl (K.2.1, 120, .inl (arI zA))), (q5, .inl (K.2.1, 30, .inl (arI zA))), (q6, .inl (K.2.1, 30, .inl (arI zA))), (q7, .inl (K.2.1, 30, .inl (arI zA))), (q8, .inl (K.2.1, 31, .inl (arI zA))), (q9, .inl (K.2.1, 30, .inl (arI zA))), (q10, .inl (K.2.1, 30, .inl (arI zA))), (q11, .inl (K.2.1, 30, .inl (arI zA))), (q12, .inl (K.2.1, 30, .inl (arI zA)))]) rfl ?_
  refine g_putF X hmn 0 20 dX10_init_98 rfl rfl iw_X10_init_X10 tyX10_ok nmX10 (by decide) fl_X10_init_43 rfl rfl rfl rfl rfl (Nat.le_of_ble_eq_true rfl) (ws' := [(h0, .inr (10, [.ref q1, .ref q2, ii 0, .ref q3, .ref q4, ii 0, .ref q5, ii 0, .ref q6, ii 0, ii 0, .ref q7, ii 0, .ref q8, ii 0, .ref q9, .ref q10, .ref q11, ii 0, ii 0, .ref q12, .null, ii 0])), (q1, .inl (K.2.1, 186, .inl (arI zA))), (q2, .inl (K.2.1, 744, .inl (arI zA))), (q3, .inl (K.2.1, 4, .inl (arI zA))), (q4, .inl (K.2.1, 120, .inl (arI zA))), (q5, .inl (K.2.1, 30, .inl (arI zA))), (q6, .inl (K.2.1, 30, .inl (arI zA))), (q7, .inl (K.2.1, 30, .inl (arI zA))), (q8, .inl (K.2.1, 31, .inl (arI zA))), (q9, .inl (K.2.1, 30, .inl (arI zA))), (q10, .inl (K.2.1, 30, .inl (arI zA))), (q11, .inl (K.2.1, 30, .inl (arI zA))), (q12, .inl (K.2.1, 30, .inl (arI zA)))]) rfl ?_
  refine g_aload_n X dX10_init_101 0 rfl rfl ?_
  refine g_sipush X dX10_init_102 (by decide +kernel) ?_
  refine g_stk (st' := [ii ((200 : Nat) : Int), .ref h0]) rfl ?_
  refine g_newi X (N := 200) rfl (Nat.le_of_ble_eq_true rfl) wd_X10_init_acint ⟨Nat.le_of_ble_eq_true rfl, Nat.le_of_ble_eq_true rfl⟩ dX10_init_105 (fun q13 => ?_)
  refine g_world (ws' := [(h0, .inr (10, [.ref q1, .ref q2, ii 0, .ref q3, .ref q4, ii 0, .ref q5, ii 0, .ref q6, ii 0, ii 0, .ref q7, ii 0, .ref q8, ii 0, .ref q9, .ref q10, .ref q11, ii 0, ii 0, .ref q12, .null, ii 0])), (q1, .inl (K.2.1, 186, .inl (arI zA))), (q2, .inl (K.2.1, 744, .inl (arI zA))), (q3, .inl (K.2.1, 4, .inl (arI zA))), (q4, .inl (K.2.1, 120, .inl (arI zA))), (q5, .inl (K.2.1, 30, .inl (arI zA))), (q6, .inl (K.2.1, 30, .inl (arI zA))), (q7, .inl (K.2.1, 30, .inl (arI zA))), (q8, .inl (K.2.1, 31, .inl (arI zA))), (q9, .inl (K.2.1, 30, .inl (arI zA))), (q10, .inl (K.2.1, 30, .inl (arI zA))), (q11, .inl (K.2.1, 30, .inl (arI zA))), (q12, .inl (K.2.1, 30, .inl (arI zA))), (q13, .inl (K.2.1, 200, .inl (arI zA)))]) rfl ?_
  refine g_putF X hmn 0 21 dX10_init_107 rfl rfl iw_X10_init_X10 tyX10_ok nmX10 (by decide) fl_X10_init_46 rfl rfl rfl rfl rfl (Nat.le_of_ble_eq_true rfl) (ws' := [(h0, .inr (10, [.ref q1, .ref q2, ii 0, .ref q3, .ref q4, ii 0, .ref q5, ii 0, .ref q6, ii 0, ii 0, .ref q7, ii 0, .ref q8, ii 0, .ref q9, .ref q10, .ref q11, ii 0, ii 0, .ref q12, .ref q13, ii 0])), (q1, .inl (K.2.1, 186, .inl (arI zA))), (q2, .inl (K.2.1, 744, .inl (arI zA))), (q3, .inl (K.2.1, 4, .inl (arI zA))), (q4, .inl (K.2.1, 120, .inl (arI zA))), (q5, .inl (K.2.1, 30, .inl (arI zA))), (q6, .inl (K.2.1, 30, .inl (arI zA))), (q7, .inl (K.2.1, 30, .inl (arI zA))), (q8, .inl (K.2.1, 31, .inl (arI zA))), (q9, .inl (K.2.1, 30, .inl (arI zA))), (q10, .inl (K.2.1, 30, .inl (arI zA))), (q11, .inl (K.2.1, 30, .inl (arI zA))), (q12, .inl (K.2.1, 30, .inl (arI zA))), (q13, .inl (K.2.1, 200, .inl (arI zA)))]) rfl ?_
  refine g_iconst X dX10_init_110 ?_
  refine g_istore_n X (lv' := [(1, ii 0), (0, .ref h0)]) dX10_init_111 rfl (by decide) rfl ?_
  refine g_iload_n X dX10_init_112 0 rfl rfl ?_
  refine g_bipush X dX10_init_113 (by decide +kernel) ?_
  refine g_icmp_ge X (show brLT 0 12 (some ()) none = some () by decide) 134 dX10_init_115 (by decide) (fun _ => ?_) (fun h => nomatch h)
  refine g_aload_n X dX10_init_118 1 rfl rfl ?_
  refine g_get X (v := .ref q1) 0 0 dX10_init_119 rfl rfl iw_X10_init_X10 (by decide) fl_X10_init_7 rfl ?_
  refine g_bipush X dX10_init_122 (by decide +kernel) ?_
  refine g_iload_n X dX10_init_124 0 rfl rfl ?_
  refine g_imul X dX10_init_125 ?_
  refine g_iconst X dX10_init_126 ?_
  refine g_iast X (n := 186) (F := some) (r := upI zA 0 1) (by unfold wrK; rw [if_pos (by decide)]; rfl) (by decide) 1 0 dX10_init_127 rfl rfl (fun f' => [(h0, .inr (10, [.ref q1, .ref q2, ii 0, .ref q3, .ref q4, ii 0, .ref q5, ii 0, .ref q6, ii 0, ii 0, .ref q7, ii 0, .ref q8, ii 0, .ref q9, .ref q10, .ref q11, ii 0, ii 0, .ref q12, .ref q13, ii 0])), (q1, .inl (K.2.1, 186, .inl (arI f'))), (q2, .inl (K.2.1, 744, .inl (arI zA))), (q3, .inl (K.2.1, 4, .inl (arI zA))), (q4, .inl (K.2.1, 120, .inl (arI zA))), (q5, .inl (K.2.1, 30, .inl (arI zA))), (q6, .inl (K.2.1, 30, .inl (arI zA))), (q7, .inl (K.2.1, 30, .inl (arI zA))), (q8, .inl (K.2.1, 31, .inl (arI zA))), (q9, .inl (K.2.1, 30, .inl (arI zA))), (q10, .inl (K.2.1, 30, .inl (arI zA))), (q11, .inl (K.2.1, 30, .inl (arI zA))), (q12, .inl (K.2.1, 30, .inl (arI zA))), (q13, .inl (K.2.1, 200, .inl (arI zA)))]) (fun _ => rfl) (fun f14 hf14 => ?_)
  refine g_iinc X (lv' := [(1, ii (0 + 1)), (0, .ref h0)]) dX10_init_128 0 rfl (by decide) rfl ?_
  refine g_goto X 112 dX10_init_131 (by decide) ?_
  refine g_iload_n X dX10_init_112 0 rfl rfl ?_
  refine g_bipush X dX10_init_113 (by decide +kernel) ?_
  refine g_icmp_ge X (show brLT (0 + 1) 12 (some ()) none = some () by decide) 134 dX10_init_115 (by decide) (fun _ => ?_) (fun h => nomatch h)
  refine g_aload_n X dX10_init_118 1 rfl rfl ?_
  refine g_get X (v := .ref q1) 0 0 dX10_init_119 rfl rfl iw_X10_init_X10 (by decide) fl_X10_init_7 rfl ?_
  refine g_bipush X dX10_init_122 (by decide +kernel) ?_
  refine g_iload_n X dX10_init_124 0 rfl rfl ?_
  refine g_imul X dX10_init_125 ?_
  refine g_iconst X dX10_init_126 ?_
  refine g_iast X (n := 186) (F := some) (r := upI f14 7 1) (by unfold wrK; rw [if_pos (by decide)]; rfl) (by decide) 1 0 dX10_init_127 rfl rfl (fun f' => [(h0, .inr (10, [.ref q1, .ref q2, ii 0, .ref q3, .ref q4, ii 0, .ref q5, ii 0, .ref q6, ii 0, ii 0, .ref q7, ii 0, .ref q8, ii 0, .ref q9, .ref q10, .ref q11, ii 0, ii 0, .ref q12, .ref q13, ii 0])), (q1, .inl (K.2.1, 186, .inl (arI f'))), (q2, .inl (K.2.1, 744, .inl (arI zA))), (q3, .inl (K.2.1, 4, .inl (arI zA))), (q4, .inl (K.2.1, 120, .inl (arI zA))), (q5, .inl (K.2.1, 30, .inl (arI zA))), (q6, .inl (K.2.1, 30, .inl (arI zA))), (q7, .inl (K.2.1, 30, .inl (arI zA))), (q8, .inl (K.2.1, 31, .inl (arI zA))), (q9, .inl (K.2.1, 30, .inl (arI zA))), (q10, .inl (K.2.1, 30, .inl (arI zA))), (q11, .inl (K.2.1, 30, .inl (arI zA))), (q12, .inl (K.2.1, 30, .inl (arI zA))), (q13, .inl (K.2.1, 200, .inl (arI zA)))]) (fun _ => rfl) (fun f15 hf15 => ?_)
  refine g_iinc X (lv' := [(1, ii ((0 + 1) + 1)), (0, .ref h0)]) dX10_init_128 0 rfl (by decide) rfl ?_
  refine g_goto X 112 dX10_init_131 (by decide) ?_
  refine g_iload_n X dX10_init_112 0 rfl rfl ?_
  refine g_bipush X dX10_init_113 (by decide +kernel) ?_
  refine g_icmp_ge X (show brLT ((0 + 1) + 1) 12 (some ()) none = some () by decide) 134 dX10_init_115 (by decide) (fun _ => ?_) (fun h => nomatch h)
  refine g_aload_n X dX10_init_118 1 rfl rfl ?_
  refine g_get X (v := .ref q1) 0 0 dX10_init_119 rfl rfl iw_X10_init_X10 (by decide) fl_X10_init_7 rfl ?_
  refine g_bipush X dX10_init_122 (by decide +kernel) ?_
  refine g_iload_n X dX10_init_124 0 rfl rfl ?_
  refine g_imul X dX10_init_125 ?_
  refine g_iconst X dX10_init_126 ?_
  refine g_iast X (n := 186) (F := some) (r := upI f15 14 1) (by unfold wrK; rw [if_pos (by decide)]; rfl) (by decide) 1 0 dX10_init_127 rfl rfl (fun f' => [(h0, .inr (10, [.ref q1, .ref q2, ii 0, .ref q3, .ref q4, ii 0, .ref q5, ii 0, .ref q6, ii 0, ii 0, .ref q7, ii 0, .ref q8, ii 0, .ref q9, .ref q10, .ref q11, ii 0, ii 0, .ref q12, .ref q13, ii 0])), (q1, .inl (K.2.1, 186, .inl (arI f'))), (q2, .inl (K.2.1, 744, .inl (arI zA))), (q3, .inl (K.2.1, 4, .inl (arI zA))), (q4, .inl (K.2.1, 120, .inl (arI zA))), (q5, .inl (K.2.1, 30, .inl (arI zA))), (q6, .inl (K.2.1, 30, .inl (arI zA))), (q7, .inl (K.2.1, 30, .inl (arI zA))), (q8, .inl (K.2.1, 31, .inl (arI zA))), (q9, .inl (K.2.1, 30, .inl (arI zA))), (q10, .inl (K.2.1, 30, .inl (arI zA))), (q11, .inl (K.2.1, 30, .inl (arI zA))), (q12, .inl (K.2.1, 30, .inl (arI zA))), (q13, .inl (K.2.1, 200, .inl (arI zA)))]) (fun _ => rfl) (fun f16 hf16 => ?_)
  refine g_iinc X (lv' := [(1, ii (((0 + 1) + 1) + 1)), (0, .ref h0)]) dX10_init_128 0 rfl (by decide) rfl ?_
  refine g_goto X 112 dX10_init_131 (by decide) ?_
  refine g_iload_n X dX10_init_112 0 rfl rfl ?_
  refine g_bipush X dX10_init_113 (by decide +kernel) ?_
  refine g_icmp_ge X (show brLT (((0 + 1) + 1) + 1) 12 (some ()) none = some () by decide) 134 dX10_init_115 (by decide) (fun _ => ?_) (fun h => nomatch h)
  refine g_aload_n X dX10_init_118 1 rfl rfl ?_
  refine g_get X (v := .ref q1) 0 0 dX10_init_119 rfl rfl iw_X10_init_X10 (by decide) fl_X10_init_7 rfl ?_
  refine g_bipush X dX10_init_122 (by decide +kernel) ?_
  refine g_iload_n X dX10_init_124 0 rfl rfl ?_
  refine g_imul X dX10_init_125 ?_
  refine g_iconst X dX10_init_126 ?_
  refine g_iast X (n := 186) (F := some) (r := upI f16 21 1) (by unfold wrK; rw [if_pos (by decide)]; rfl) (by decide) 1 0 dX10_init_127 rfl rfl (fun f' => [(h0, .inr (10, [.ref q1, .ref q2, ii 0, .ref q3, .ref q4, ii 0, .ref q5, ii 0, .ref q6, ii 0, ii 0, .ref q7, ii 0, .ref q8, ii 0, .ref q9, .ref q10, .ref q11, ii 0, ii 0, .ref q12, .ref q13, ii 0])), (q1, .inl (K.2.1, 186, .inl (arI f'))), (q2, .inl (K.2.1, 744, .inl (arI zA))), (q3, .inl (K.2.1, 4, .inl (arI zA))), (q4, .inl (K.2.1, 120, .inl (arI zA))), (q5, .inl (K.2.1, 30, .inl (arI zA))), (q6, .inl (K.2.1, 30, .inl (arI zA))), (q7, .inl (K.2.1, 30, .inl (arI zA))), (q8, .inl (K.2.1, 31, .inl (arI zA))), (q9, .inl (K.2.1, 30, .inl (arI zA))), (q10, .inl (K.2.1, 30, .inl (arI zA))), (q11, .inl (K.2.1, 30, .inl (arI zA))), (q12, .inl (K.2.1, 30, .inl (arI zA))), (q13, .inl (K.2.1, 200, .inl (arI zA)))]) (fun _ => rfl) (fun f17 hf17 => ?_)
  refine g_iinc X (lv' := [(1, ii ((((0 + 1) + 1) + 1) + 1)), (0, .ref h0)]) dX10_init_128 0 rfl (by decide) rfl ?_
  refine g_goto X 112 dX10_init_131 (by decide) ?_
  refine g_iload_n X dX10_init_112 0 rfl rfl ?_
  refine g_bipush X dX10_init_113 (by decide +kernel) ?_
  refine g_icmp_ge X (show brLT ((((0 + 1) + 1) + 1) + 1) 12 (some ()) none = some () by decide) 134 dX10_init_115 (by decide) (fun _ => ?_) (fun h => nomatch h)
  refine g_aload_n X dX10_init_118 1 rfl rfl ?_
  refine g_get X (v := .ref q1) 0 0 dX10_init_119 rfl rfl iw_X10_init_X10 (by decide) fl_X10_init_7 rfl ?_
  refine g_bipush X dX10_init_122 (by decide +kernel) ?_
  refine g_iload_n X dX10_init_124 0 rfl rfl ?_
  refine g_imul X dX10_init_125 ?_
  refine g_iconst X dX10_init_126 ?_
  refine g_iast X (n := 186) (F := some) (r := upI f17 28 1) (by unfold wrK; rw [if_pos (by decide)]; rfl) (by decide) 1 0 dX10_init_127 rfl rfl (fun f' => [(h0, .inr (10, [.ref q1, .ref q2, ii 0, .ref q3, .ref q4, ii 0, .ref q5, ii 0, .ref q6, ii 0, ii 0, .ref q7, ii 0, .ref q8, ii 0, .ref q9, .ref q10, .ref q11, ii 0, ii 0, .ref q12, .ref q13, ii 0])), (q1, .inl (K.2.1, 186, .inl (arI f'))), (q2, .inl (K.2.1, 744, .inl (arI zA))), (q3, .inl (K.2.1, 4, .inl (arI zA))), (q4, .inl (K.2.1, 120, .inl (arI zA))), (q5, .inl (K.2.1, 30, .inl (arI zA))), (q6, .inl (K.2.1, 30, .inl (arI zA))), (q7, .inl (K.2.1, 30, .inl (arI zA))), (q8, .inl (K.2.1, 31, .inl (arI zA))), (q9, .inl (K.2.1, 30, .inl (arI zA))), (q10, .inl (K.2.1, 30, .inl (arI zA))), (q11, .inl (K.2.1, 30, .inl (arI zA))), (q12, .inl (K.2.1, 30, .inl (arI zA))), (q13, .inl (K.2.1, 200, .inl (arI zA)))]) (fun _ => rfl) (fun f18 hf18 => ?_)
  refine g_iinc X (lv' := [(1, ii (((((0 + 1) + 1) + 1) + 1) + 1)), (0, .ref h0)]) dX10_init_128 0 rfl (by decide) rfl ?_
  refine g_goto X 112 dX10_init_131 (by decide) ?_
  refine g_iload_n X dX10_init_112 0 rfl rfl ?_
  refine g_bipush X dX10_init_113 (by decide +kernel) ?_
  refine g_icmp_ge X (show brLT (((((0 + 1) + 1) + 1) + 1) + 1) 12 (some ()) none = some () by decide) 134 dX10_init_115 (by decide) (fun _ => ?_) (fun h => nomatch h)
  refine g_aload_n X dX10_init_118 1 rfl rfl ?_
  refine g_get X (v := .ref q1) 0 0 dX10_init_119 rfl rfl iw_X10_init_X10 (by decide) fl_X10_init_7 rfl ?_
  refine g_bipush X dX10_init_122 (by decide +kernel) ?_
  refine g_iload_n X dX10_init_124 0 rfl rfl ?_
  refine g_imul X dX10_init_125 ?_
  refine g_iconst X dX10_init_126 ?_
  refine g_iast X (n := 186) (F := some) (r := upI f18 35 1) (by unfold wrK; rw [if_pos (by decide)]; rfl) (by decide) 1 0 dX10_init_127 rfl rfl (fun f' => [(h0, .inr (10, [.ref q1, .ref q2, ii 0, .ref q3, .ref q4, ii 0, .ref q5, ii 0, .ref q6, ii 0, ii 0, .ref q7, ii 0, .ref q8, ii 0, .ref q9, .ref q10, .ref q11, ii 0, ii 0, .ref q12, .ref q13, ii 0])), (q1, .inl (K.2.1, 186, .inl (arI f'))), (q2, .inl (K.2.1, 744, .inl (arI zA))), (q3, .inl (K.2.1, 4, .inl (arI zA))), (q4, .inl (K.2.1, 120, .inl (arI zA))), (q5, .inl (K.2.1, 30, .inl (arI zA))), (q6, .inl (K.2.1, 30, .inl (arI zA))), (q7, .inl (K.2.1, 30, .inl (arI zA))), (q8, .inl (K.2.1, 31, .inl (arI zA))), (q9, .inl (K.2.1, 30, .inl (arI zA))), (q10, .inl (K.2.1, 30, .inl (arI zA))), (q11, .inl (K.2.1, 30, .inl (arI zA))), (q12, .inl (K.2.1, 30, .inl (arI zA))), (q13, .inl (K.2.1, 200, .inl (arI zA)))]) (fun _ => rfl) (fun f19 hf19 => ?_)
  refine g_iinc X (lv' := [(1, ii ((((((0 + 1) + 1) + 1) + 1) + 1) + 1)), (0, .ref h0)]) dX10_init_128 0 rfl (by decide) rfl ?_
  refine g_goto X 112 dX10_init_131 (by decide) ?_
  refine g_iload_n X dX10_init_112 0 rfl rfl ?_
  refine g_bipush X dX10_init_113 (by decide +kernel) ?_
  refine g_icmp_ge X (show brLT ((((((0 + 1) + 1) + 1) + 1) + 1) + 1) 12 (some ()) none = some () by decide) 134 dX10_init_115 (by decide) (fun _ => ?_) (fun h => nomatch h)
  refine g_aload_n X dX10_init_118 1 rfl rfl ?_
  refine g_get X (v := .ref q1) 0 0 dX10_init_119 rfl rfl iw_X10_init_X10 (by decide) fl_X10_init_7 rfl ?_
  refine g_bipush X dX10_init_122 (by decide +kernel) ?_
  refine g_iload_n X dX10_init_124 0 rfl rfl ?_
  refine g_imul X dX10_init_125 ?_
  refine g_iconst X dX10_init_126 ?_
  refine g_iast X (n := 186) (F := some) (r := upI f19 42 1) (by unfold wrK; rw [if_pos (by decide)]; rfl) (by decide) 1 0 dX10_init_127 rfl rfl (fun f' => [(h0, .inr (10, [.ref q1, .ref q2, ii 0, .ref q3, .ref q4, ii 0, .ref q5, ii 0, .ref q6, ii 0, ii 0, .ref q7, ii 0, .ref q8, ii 0, .ref q9, .ref q10, .ref q11, ii 0, ii 0, .ref q12, .ref q13, ii 0])), (q1, .inl (K.2.1, 186, .inl (arI f'))), (q2, .inl (K.2.1, 744, .inl (arI zA))), (q3, .inl (K.2.1, 4, .inl (arI zA))), (q4, .inl (K.2.1, 120, .inl (arI zA))), (q5, .inl (K.2.1, 30, .inl (arI zA))), (q6, .inl (K.2.1, 30, .inl (arI zA))), (q7, .inl (K.2.1, 30, .inl (arI zA))), (q8, .inl (K.2.1, 31, .inl (arI zA))), (q9, .inl (K.2.1, 30, .inl (arI zA))), (q10, .inl (K.2.1, 30, .inl (arI zA))), (q11, .inl (K.2.1, 30, .inl (arI zA))), (q12, .inl (K.2.1, 30, .inl (arI zA))), (q13, .inl (K.2.1, 200, .inl (arI zA)))]) (fun _ => rfl) (fun f20 hf20 => ?_)
  refine g_iinc X (lv' := [(1, ii (((((((0 + 1) + 1) + 1) + 1) + 1) + 1) + 1)), (0, .ref h0)]) dX10_init_128 0 rfl (by decide) rfl ?_
  refine g_goto X 112 dX10_init_131 (by decide) ?_
  refine g_iload_n X dX10_init_112 0 rfl rfl ?_
  refine g_bipush X dX10_init_113 (by decide +kernel) ?_
  refine g_icmp_ge X (show brLT (((((((0 + 1) + 1) + 1) + 1) + 1) + 1) + 1) 12 (some ()) none = some () by decide) 134 dX10_init_115 (by decide) (fun _ => ?_) (fun h => nomatch h)
  refine g_aload_n X dX10_init_118 1 rfl rfl ?_
  refine g_get X (v := .ref q1) 0 0 dX10_init_119 rfl rfl iw_X10_init_X10 (by decide) fl_X10_init_7 rfl ?_
  refine g_bipush X dX10_init_122 (by decide +kernel) ?_
  refine g_iload_n X dX10_init_124 0 rfl rfl ?_
  refine g_imul X dX10_init_125 ?_
  refine g_iconst X dX10_init_126 ?_
  refine g_iast X (n := 186) (F := some) (r := upI f20 49 1) (by unfold wrK; rw [if_pos (by decide)]; rfl) (by decide) 1 0 dX10_init_127 rfl rfl (fun f' => [(h0, .inr (10, [.ref q1, .ref q2, ii 0, .ref q3, .ref q4, ii 0, .ref q5, ii 0, .ref q6, ii 0, ii 0, .ref q7, ii 0, .ref q8, ii 0, .ref q9, .ref q10, .ref q11, ii 0, ii 0, .ref q12, .ref q13, ii 0])), (q1, .inl (K.2.1, 186, .inl (arI f'))), (q2, .inl (K.2.1, 744, .inl (arI zA))), (q3, .inl (K.2.1, 4, .inl (arI zA))), (q4, .inl (K.2.1, 120, .inl (arI zA))), (q5, .inl (K.2.1, 30, .inl (arI zA))), (q6, .inl (K.2.1, 30, .inl (arI zA))), (q7, .inl (K.2.1, 30, .inl (arI zA))), (q8, .inl (K.2.1, 31, .inl (arI zA))), (q9, .inl (K.2.1, 30, .inl (arI zA))), (q10, .inl (K.2.1, 30, .inl (arI zA))), (q11, .inl (K.2.1, 30, .inl (arI zA))), (q12, .inl (K.2.1, 30, .inl (arI zA))), (q13, .inl (K.2.1, 200, .inl (arI zA)))]) (fun _ => rfl) (fun f21 hf21 => ?_)
  refine g_iinc X (lv' := [(1, ii ((((((((0 + 1) + 1) + 1) + 1) + 1) + 1) + 1) + 1)), (0, .ref h0)]) dX10_init_128 0 rfl (by decide) rfl ?_
  refine g_goto X 112 dX10_init_131 (by decide) ?_
  refine g_iload_n X dX10_init_112 0 rfl rfl ?_
  refine g_bipush X dX10_init_113 (by decide +kernel) ?_
  refine g_icmp_ge X (show brLT ((((((((0 + 1) + 1) + 1) + 1) + 1) + 1) + 1) + 1) 12 (some ()) none = some () by decide) 134 dX10_init_115 (by decide) (fun _ => ?_) (fun h => nomatch h)
  refine g_aload_n X dX10_init_118 1 rfl rfl ?_
  refine g_get X (v := .ref q1) 0 0 dX10_init_119 rfl rfl iw_X10_init_X10 (by decide) fl_X10_init_7 rfl ?_
  refine g_bipush X dX10_init_122 (by decide +kernel) ?_
  refine g_iload_n X dX10_init_124 0 rfl rfl ?_
  refine g_imul X dX10_init_125 ?_
  refine g_iconst X dX10_init_126 ?_
  refine g_iast X (n := 186) (F := some) (r := upI f21 56 1) (by unfold wrK; rw [if_pos (by decide)]; rfl) (by decide) 1 0 dX10_init_127 rfl rfl (fun f' => [(h0, .inr (10, [.ref q1, .ref q2, ii 0, .ref q3, .ref q4, ii 0, .ref q5, ii 0, .ref q6, ii 0, ii 0, .ref q7, ii 0, .ref q8, ii 0, .ref q9, .ref q10, .ref q11, ii 0, ii 0, .ref q12, .ref q13, ii 0])), (q1, .inl (K.2.1, 186, .inl (arI f'))), (q2, .inl (K.2.1, 744, .inl (arI zA))), (q3, .inl (K.2.1, 4, .inl (arI zA))), (q4, .inl (K.2.1, 120, .inl (arI zA))), (q5, .inl (K.2.1, 30, .inl (arI zA))), (q6, .inl (K.2.1, 30, .inl (arI zA))), (q7, .inl (K.2.1, 30, .inl (arI zA))), (q8, .inl (K.2.1, 31, .inl (arI zA))), (q9, .inl (K.2.1, 30, .inl (arI zA))), (q10, .inl (K.2.1, 30, .inl (arI zA))), (q11, .inl (K.2.1, 30, .inl (arI zA))), (q12, .inl (K.2.1, 30, .inl (arI zA))), (q13, .inl (K.2.1, 200, .inl (arI zA)))]) (fun _ => rfl) (fun f22 hf22 => ?_)
  refine g_iinc X (lv' := [(1, ii (((((((((0 + 1) + 1) + 1) + 1) + 1) + 1) + 1) + 1) + 1)), (0, .ref h0)]) dX10_init_128 0 rfl (by decide) rfl ?_
  refine g_goto X 112 dX10_init_131 (by decide) ?_
  refine g_iload_n X dX10_init_112 0 rfl rfl ?_
  refine g_bipush X dX10_init_113 (by decide +kernel) ?_
  refine g_icmp_ge X (show brLT (((((((((0 + 1) + 1) + 1) + 1) + 1) + 1) + 1) + 1) + 1) 12 (some ()) none = some () by decide) 134 dX10_init_115 (by decide) (fun _ => ?_) (fun h => nomatch h)
  refine g_aload_n X dX10_init_118 1 rfl rfl ?_
  refine g_get X (v := .ref q1) 0 0 dX10_init_119 rfl rfl iw_X10_init_X10 (by decide) fl_X10_init_7 rfl ?_
  refine g_bipush X dX10_init_122 (by decide +kernel) ?_
  refine g_iload_n X dX10_init_124 0 rfl rfl ?_
  refine g_imul X dX10_init_125 ?_
  refine g_iconst X dX10_init_126 ?_
  refine g_iast X (n := 186) (F := some) (r := upI f22 63 1) (by unfold wrK; rw [if_pos (by decide)]; rfl) (by decide) 1 0 dX10_init_127 rfl rfl (fun f' => [(h0, .inr (10, [.ref q1, .ref q2, ii 0, .ref q3, .ref q4, ii 0, .ref q5, ii 0, .ref q6, ii 0, ii 0, .ref q7, ii 0, .ref q8, ii 0, .ref q9, .ref q10, .ref q11, ii 0, ii 0, .ref q12, .ref q13, ii 0])), (q1, .inl (K.2.1, 186, .inl (arI f'))), (q2, .inl (K.2.1, 744, .inl (arI zA))), (q3, .inl (K.2.1, 4, .inl (arI zA))), (q4, .inl (K.2.1, 120, .inl (arI zA))), (q5, .inl (K.2.1, 30, .inl (arI zA))), (q6, .inl (K.2.1, 30, .inl (arI zA))), (q7, .inl (K.2.1, 30, .inl (arI zA))), (q8, .inl (K.2.1, 31, .inl (arI zA))), (q9, .inl (K.2.1, 30, .inl (arI zA))), (q10, .inl (K.2.1, 30, .inl (arI zA))), (q11, .inl (K.2.1, 30, .inl (arI zA))), (q12, .inl (K.2.1, 30, .inl (arI zA))), (q13, .inl (K.2.1, 200, .inl (arI zA)))]) (fun _ => rfl) (fun f23 hf23 => ?_)
  refine g_iinc X (lv' := [(1, ii ((((((((((0 + 1) + 1) + 1) + 1) + 1) + 1) + 1) + 1) + 1) + 1)), (0, .ref h0)]) dX10_init_128 0 rfl (by decide) rfl ?_
  refine g_goto X 112 dX10_init_131 (by decide) ?_
  refine g_iload_n X dX10_init_112 0 rfl rfl ?_
  refine g_bipush X dX10_init_113 (by decide +kernel) ?_
  refine g_icmp_ge X (show brLT ((((((((((0 + 1) + 1) + 1) + 1) + 1) + 1) + 1) + 1) + 1) + 1) 12 (some ()) none = some () by decide) 134 dX10_init_115 (by decide) (fun _ => ?_) (fun h => nomatch h)
  refine g_aload_n X dX10_init_118 1 rfl rfl ?_
  refine g_get X (v := .ref q1) 0 0 dX10_init_119 rfl rfl iw_X10_init_X10 (by decide) fl_X10_init_7 rfl ?_
  refine g_bipush X dX10_init_122 (by decide +kernel) ?_
  refine g_iload_n X dX10_init_124 0 rfl rfl ?_
  refine g_imul X dX10_init_125 ?_
  refine g_iconst X dX10_init_126 ?_
  refine g_iast X (n := 186) (F := some) (r := upI f23 70 1) (by unfold wrK; rw [if_pos (by decide)]; rfl) (by decide) 1 0 dX10_init_127 rfl rfl (fun f' => [(h0, .inr (10, [.ref q1, .ref q2, ii 0, .ref q3, .ref q4, ii 0, .ref q5, ii 0, .ref q6, ii 0, ii 0, .ref q7, ii 0, .ref q8, ii 0, .ref q9, .ref q10, .ref q11, ii 0, ii 0, .ref q12, .ref q13, ii 0])), (q1, .inl (K.2.1, 186, .inl (arI f'))), (q2, .inl (K.2.1, 744, .inl (arI zA))), (q3, .inl (K.2.1, 4, .inl (arI zA))), (q4, .inl (K.2.1, 120, .inl (arI zA))), (q5, .inl (K.2.1, 30, .inl (arI zA))), (q6, .inl (K.2.1, 30, .inl (arI zA))), (q7, .inl (K.2.1, 30, .inl (arI zA))), (q8, .inl (K.2.1, 31, .inl (arI zA))), (q9, .inl (K.2.1, 30, .inl (arI zA))), (q10, .inl (K.2.1, 30, .inl (arI zA))), (q11, .inl (K.2.1, 30, .inl (arI zA))), (q12, .inl (K.2.1, 30, .inl (arI zA))), (q13, .inl (K.2.1, 200, .inl (arI zA)))]) (fun _ => rfl) (fun f24 hf24 => ?_)
  refine g_iinc X (lv' := [(1, ii (((((((((((0 + 1) + 1) + 1) + 1) + 1) + 1) + 1) + 1) + 1) + 1) + 1)), (0, .ref h0)]) dX10_init_128 0 rfl (by decide) rfl ?_
  refine g_goto X 112 dX10_init_131 (by decide) ?_
  refine g_iload_n X dX10_init_112 0 rfl rfl ?_
  refine g_bipush X dX10_init_113 (by decide +kernel) ?_
  refine g_icmp_ge X (show brLT (((((((((((0 + 1) + 1) + 1) + 1) + 1) + 1) + 1) + 1) + 1) + 1) + 1) 12 (some ()) none = some () by decide) 134 dX10_init_115 (by decide) (fun _ => ?_) (fun h => nomatch h)
  refine g_aload_n X dX10_init_118 1 rfl rfl ?_
  refine g_get X (v := .ref q1) 0 0 dX10_init_119 rfl rfl iw_X10_init_X10 (by decide) fl_X10_init_7 rfl ?_
  refine g_bipush X dX10_init_122 (by decide +kernel) ?_
  refine g_iload_n X dX10_init_124 0 rfl rfl ?_
  refine g_imul X dX10_init_125 ?_
  refine g_iconst X dX10_init_126 ?_
  refine g_iast X (n := 186) (F := some) (r := upI f24 77 1) (by unfold wrK; rw [if_pos (by decide)]; rfl) (by decide) 1 0 dX10_init_127 rfl rfl (fun f' => [(h0, .inr (10, [.ref q1, .ref q2, ii 0, .ref q3, .ref q4, ii 0, .ref q5, ii 0, .ref q6, ii 0, ii 0, .ref q7, ii 0, .ref q8, ii 0, .ref q9, .ref q10, .ref q11, ii 0, ii 0, .ref q12, .ref q13, ii 0])), (q1, .inl (K.2.1, 186, .inl (arI f'))), (q2, .inl (K.2.1, 744, .inl (arI zA))), (q3, .inl (K.2.1, 4, .inl (arI zA))), (q4, .inl (K.2.1, 120, .inl (arI zA))), (q5, .inl (K.2.1, 30, .inl (arI zA))), (q6, .inl (K.2.1, 30, .inl (arI zA))), (q7, .inl (K.2.1, 30, .inl (arI zA))), (q8, .inl (K.2.1, 31, .inl (arI zA))), (q9, .inl (K.2.1, 30, .inl (arI zA))), (q10, .inl (K.2.1, 30, .inl (arI zA))), (q11, .inl (K.2.1, 30, .inl (arI zA))), (q12, .inl (K.2.1, 30, .inl (arI zA))), (q13, .inl (K.2.1, 200, .inl (arI zA)))]) (fun _ => rfl) (fun f25 hf25 => ?_)
  refine g_iinc X (lv' := [(1, ii ((((((((((((0 + 1) + 1) + 1) + 1) + 1) + 1) + 1) + 1) + 1) + 1) + 1) + 1)), (0, .ref h0)]) dX10_init_128 0 rfl (by decide) rfl ?_
  refine g_goto X 112 dX10_init_131 (by decide) ?_
  refine g_iload_n X dX10_init_112 0 rfl rfl ?_
  refine g_bipush X dX10_init_113 (by decide +kernel) ?_
  refine g_icmp_ge X (show brLT ((((((((((((0 + 1) + 1) + 1) + 1) + 1) + 1) + 1) + 1) + 1) + 1) + 1) + 1) 12 none (some ()) = some () by decide) 134 dX10_init_115 (by decide) (fun h => nomatch h) (fun _ => ?_)
  refine g_iconst X dX10_init_134 ?_
  refine g_istore_n X (lv' := [(1, ii 0), (0, .ref h0)]) dX10_init_135 rfl (by decide) rfl ?_
  refine g_iload_n X dX10_init_136 0 rfl rfl ?_
  refine g_bipush X dX10_init_137 (by decide +kernel) ?_
  refine g_icmp_ge X (show brLT 0 6 (some ()) none = some () by decide) 160 dX10_init_139 (by decide) (fun _ => ?_) (fun h => nomatch h)
  refine g_aload_n X dX10_init_142 1 rfl rfl ?_
  refine g_get X (v := .ref q1) 0 0 dX10_init_143 rfl rfl iw_X10_init_X10 (by decide) fl_X10_init_7 rfl ?_
  refine g_bipush X dX10_init_146 (by decide +kernel) ?_
  refine g_iconst X dX10_init_148 ?_
  refine g_iload_n X dX10_init_149 0 rfl rfl ?_
  refine g_imul X dX10_init_150 ?_
  refine g_iadd X dX10_init_151 ?_
  refine g_iconst X dX10_init_152 ?_
  refine g_iast X (n := 186) (F := some) (r := upI f25 117 (-1)) (by unfold wrK; rw [if_pos (by decide)]; rfl) (by decide) 1 0 dX10_init_153 rfl rfl (fun f' => [(h0, .inr (10, [.ref q1, .ref q2, ii 0, .ref q3, .ref q4, ii 0, .ref q5, ii 0, .ref q6, ii 0, ii 0, .ref q7, ii 0, .ref q8, ii 0, .ref q9, .ref q10, .ref q11, ii 0, ii 0, .ref q12, .ref q13, ii 0])), (q1, .inl (K.2.1, 186, .inl (arI f'))), (q2, .inl (K.2.1, 744, .inl (arI zA))), (q3, .inl (K.2.1, 4, .inl (arI zA))), (q4, .inl (K.2.1, 120, .inl (arI zA))), (q5, .inl (K.2.1, 30, .inl (arI zA))), (q6, .inl (K.2.1, 30, .inl (arI zA))), (q7, .inl (K.2.1, 30, .inl (arI zA))), (q8, .inl (K.2.1, 31, .inl (arI zA))), (q9, .inl (K.2.1, 30, .inl (arI zA))), (q10, .inl (K.2.1, 30, .inl (arI zA))), (q11, .inl (K.2.1, 30, .inl (arI zA))), (q12, .inl (K.2.1, 30, .inl (arI zA))), (q13, .inl (K.2.1, 200, .inl (arI zA)))]) (fun _ => rfl) (fun f26 hf26 => ?_)
  refine g_iinc X (lv' := [(1, ii (0 + 1)), (0, .ref h0)]) dX10_init_154 0 rfl (by decide) rfl ?_
  refine g_goto X 136 dX10_init_157 (by decide) ?_
  refine g_iload_n X dX10_init_136 0 rfl rfl ?_
  refine g_bipush X dX10_init_137 (by decide +kernel) ?_
  refine g_icmp_ge X (show brLT (0 + 1) 6 (some ()) none = some () by decide) 160 dX10_init_139 (by decide) (fun _ => ?_) (fun h => nomatch h)
  refine g_aload_n X dX10_init_142 1 rfl rfl ?_
  refine g_get X (v := .ref q1) 0 0 dX10_init_143 rfl rfl iw_X10_init_X10 (by decide) fl_X10_init_7 rfl ?_
  refine g_bipush X dX10_init_146 (by decide +kernel) ?_
  refine g_iconst X dX10_init_148 ?_
  refine g_iload_n X dX10_init_149 0 rfl rfl ?_
  refine g_imul X dX10_init_150 ?_
  refine g_iadd X dX10_init_151 ?_
  refine g_iconst X dX10_init_152 ?_
  refine g_iast X (n := 186) (F := some) (r := upI f26 122 (-1)) (by unfold wrK; rw [if_pos (by decide)]; rfl) (by decide) 1 0 dX10_init_153 rfl rfl (fun f' => [(h0, .inr (10, [.ref q1, .ref q2, ii 0, .ref q3, .ref q4, ii 0, .ref q5, ii 0, .ref q6, ii 0, ii 0, .ref q7, ii 0, .ref q8, ii 0, .ref q9, .ref q10, .ref q11, ii 0, ii 0, .ref q12, .ref q13, ii 0])), (q1, .inl (K.2.1, 186, .inl (arI f'))), (q2, .inl (K.2.1, 744, .inl (arI zA))), (q3, .inl (K.2.1, 4, .inl (arI zA))), (q4, .inl (K.2.1, 120, .inl (arI zA))), (q5, .inl (K.2.1, 30, .inl (arI zA))), (q6, .inl (K.2.1, 30, .inl (arI zA))), (q7, .inl (K.2.1, 30, .inl (arI zA))), (q8, .inl (K.2.1, 31, .inl (arI zA))), (q9, .inl (K.2.1, 30, .inl (arI zA))), (q10, .inl (K.2.1, 30, .inl (arI zA))), (q11, .inl (K.2.1, 30, .inl (arI zA))), (q12, .inl (K.2.1, 30, .inl (arI zA))), (q13, .inl (K.2.1, 200, .inl (arI zA)))]) (fun _ => rfl) (fun f27 hf27 => ?_)
  refine g_iinc X (lv' := [(1, ii ((0 + 1) + 1)), (0, .ref h0)]) dX10_init_154 0 rfl (by decide) rfl ?_
  refine g_goto X 136 dX10_init_157 (by decide) ?_
  refine g_iload_n X dX10_init_136 0 rfl rfl ?_
  refine g_bipush X dX10_init_137 (by decide +kernel) ?_
  refine g_icmp_ge X (show brLT ((0 + 1) + 1) 6 (some ()) none = some () by decide) 160 dX10_init_139 (by decide) (fun _ => ?_) (fun h => nomatch h)
  refine g_aload_n X dX10_init_142 1 rfl rfl ?_
  refine g_get X (v := .ref q1) 0 0 dX10_init_143 rfl rfl iw_X10_init_X10 (by decide) fl_X10_init_7 rfl ?_
  refine g_bipush X dX10_init_146 (by decide +kernel) ?_
  refine g_iconst X dX10_init_148 ?_
  refine g_iload_n X dX10_init_149 0 rfl rfl ?_
  refine g_imul X dX10_init_150 ?_
  refine g_iadd X dX10_init_151 ?_
  refine g_iconst X dX10_init_152 ?_
  refine g_iast X (n := 186) (F := some) (r := upI f27 127 (-1)) (by unfold wrK; rw [if_pos (by decide)]; rfl) (by decide) 1 0 dX10_init_153 rfl rfl (fun f' => [(h0, .inr (10, [.ref q1, .ref q2, ii 0, .ref q3, .ref q4, ii 0, .ref q5, ii 0, .ref q6, ii 0, ii 0, .ref q7, ii 0, .ref q8, ii 0, .ref q9, .ref q10, .ref q11, ii 0, ii 0, .ref q12, .ref q13, ii 0])), (q1, .inl (K.2.1, 186, .inl (arI f'))), (q2, .inl (K.2.1, 744, .inl (arI zA))), (q3, .inl (K.2.1, 4, .inl (arI zA))), (q4, .inl (K.2.1, 120, .inl (arI zA))), (q5, .inl (K.2.1, 30, .inl (arI zA))), (q6, .inl (K.2.1, 30, .inl (arI zA))), (q7, .inl (K.2.1, 30, .inl (arI zA))), (q8, .inl (K.2.1, 31, .inl (arI zA))), (q9, .inl (K.2.1, 30, .inl (arI zA))), (q10, .inl (K.2.1, 30, .inl (arI zA))), (q11, .inl (K.2.1, 30, .inl (arI zA))), (q12, .inl (K.2.1, 30, .inl (arI zA))), (q13, .inl (K.2.1, 200, .inl (arI zA)))]) (fun _ => rfl) (fun f28 hf28 => ?_)
  refine g_iinc X (lv' := [(1, ii (((0 + 1) + 1) + 1)), (0, .ref h0)]) dX10_init_154 0 rfl (by decide) rfl ?_
  refine g_goto X 136 dX10_init_157 (by decide) ?_
  refine g_iload_n X dX10_init_136 0 rfl rfl ?_
  refine g_bipush X dX10_init_137 (by decide +kernel) ?_
  refine g_icmp_ge X (show brLT (((0 + 1) + 1) + 1) 6 (some ()) none = some () by decide) 160 dX10_init_139 (by decide) (fun _ => ?_) (fun h => nomatch h)
  refine g_aload_n X dX10_init_142 1 rfl rfl ?_
  refine g_get X (v := .ref q1) 0 0 dX10_init_143 rfl rfl iw_X10_init_X10 (by decide) fl_X10_init_7 rfl ?_
  refine g_bipush X dX10_init_146 (by decide +kernel) ?_
  refine g_iconst X dX10_init_148 ?_
  refine g_iload_n X dX10_init_149 0 rfl rfl ?_
  refine g_imul X dX10_init_150 ?_
  refine g_iadd X dX10_init_151 ?_
  refine g_iconst X dX10_init_152 ?_
  refine g_iast X (n := 186) (F := some) (r := upI f28 132 (-1)) (by unfold wrK; rw [if_pos (by decide)]; rfl) (by decide) 1 0 dX10_init_153 rfl rfl (fun f' => [(h0, .inr (10, [.ref q1, .ref q2, ii 0, .ref q3, .ref q4, ii 0, .ref q5, ii 0, .ref q6, ii 0, ii 0, .ref q7, ii 0, .ref q8, ii 0, .ref q9, .ref q10, .ref q11, ii 0, ii 0, .ref q12, .ref q13, ii 0])), (q1, .inl (K.2.1, 186, .inl (arI f'))), (q2, .inl (K.2.1, 744, .inl (arI zA))), (q3, .inl (K.2.1, 4, .inl (arI zA))), (q4, .inl (K.2.1, 120, .inl (arI zA))), (q5, .inl (K.2.1, 30, .inl (arI zA))), (q6, .inl (K.2.1, 30, .inl (arI zA))), (q7, .inl (K.2.1, 30, .inl (arI zA))), (q8, .inl (K.2.1, 31, .inl (arI zA))), (q9, .inl (K.2.1, 30, .inl (arI zA))), (q10, .inl (K.2.1, 30, .inl (arI zA))), (q11, .inl (K.2.1, 30, .inl (arI zA))), (q12, .inl (K.2.1, 30, .inl (arI zA))), (q13, .inl (K.2.1, 200, .inl (arI zA)))]) (fun _ => rfl) (fun f29 hf29 => ?_)
  refine g_iinc X (lv' := [(1, ii ((((0 + 1) + 1) + 1) + 1)), (0, .ref h0)]) dX10_init_154 0 rfl (by decide) rfl ?_
  refine g_goto X 136 dX10_init_157 (by decide) ?_
  refine g_iload_n X dX10_init_136 0 rfl rfl ?_
  refine g_bipush X dX10_init_137 (by decide +kernel) ?_
  refine g_icmp_ge X (show brLT ((((0 + 1) + 1) + 1) + 1) 6 (some ()) none = some () by decide) 160 dX10_init_139 (by decide) (fun _ => ?_) (fun h => nomatch h)
  refine g_aload_n X dX10_init_142 1 rfl rfl ?_
  refine g_get X (v := .ref q1) 0 0 dX10_init_143 rfl rfl iw_X10_init_X10 (by decide) fl_X10_init_7 rfl ?_
  refine g_bipush X dX10_init_146 (by decide +kernel) ?_
  refine g_iconst X dX10_init_148 ?_
  refine g_iload_n X dX10_init_149 0 rfl rfl ?_
  refine g_imul X dX10_init_150 ?_
  refine g_iadd X dX10_init_151 ?_
  refine g_iconst X dX10_init_152 ?_
  refine g_iast X (n := 186) (F := some) (r := upI f29 137 (-1)) (by unfold wrK; rw [if_pos (by decide)]; rfl) (by decide) 1 0 dX10_init_153 rfl rfl (fun f' => [(h0, .inr (10, [.ref q1, .ref q2, ii 0, .ref q3, .ref q4, ii 0, .ref q5, ii 0, .ref q6, ii 0, ii 0, .ref q7, ii 0, .ref q8, ii 0, .ref q9, .ref q10, .ref q11, ii 0, ii 0, .ref q12, .ref q13, ii 0])), (q1, .inl (K.2.1, 186, .inl (arI f'))), (q2, .inl (K.2.1, 744, .inl (arI zA))), (q3, .inl (K.2.1, 4, .inl (arI zA))), (q4, .inl (K.2.1, 120, .inl (arI zA))), (q5, .inl (K.2.1, 30, .inl (arI zA))), (q6, .inl (K.2.1, 30, .inl (arI zA))), (q7, .inl (K.2.1, 30, .inl (arI zA))), (q8, .inl (K.2.1, 31, .inl (arI zA))), (q9, .inl (K.2.1, 30, .inl (arI zA))), (q10, .inl (K.2.1, 30, .inl (arI zA))), (q11, .inl (K.2.1, 30, .inl (arI zA))), (q12, .inl (K.2.1, 30, .inl (arI zA))), (q13, .inl (K.2.1, 200, .inl (arI zA)))]) (fun _ => rfl) (fun f30 hf30 => ?_)
  refine g_iinc X (lv' := [(1, ii (((((0 + 1) + 1) + 1) + 1) + 1)), (0, .ref h0)]) dX10_init_154 0 rfl (by decide) rfl ?_
  refine g_goto X 136 dX10_init_157 (by decide) ?_
  refine g_iload_n X dX10_init_136 0 rfl rfl ?_
  refine g_bipush X dX10_init_137 (by decide +kernel) ?_
  refine g_icmp_ge X (show brLT (((((0 + 1) + 1) + 1) + 1) + 1) 6 (some ()) none = some () by decide) 160 dX10_init_139 (by decide) (fun _ => ?_) (fun h => nomatch h)
  refine g_aload_n X dX10_init_142 1 rfl rfl ?_
  refine g_get X (v := .ref q1) 0 0 dX10_init_143 rfl rfl iw_X10_init_X10 (by decide) fl_X10_init_7 rfl ?_
  refine g_bipush X dX10_init_146 (by decide +kernel) ?_
  refine g_iconst X dX10_init_148 ?_
  refine g_iload_n X dX10_init_149 0 rfl rfl ?_
  refine g_imul X dX10_init_150 ?_
  refine g_iadd X dX10_init_151 ?_
  refine g_iconst X dX10_init_152 ?_
  refine g_iast X (n := 186) (F := some) (r := upI f30 142 (-1)) (by unfold wrK; rw [if_pos (by decide)]; rfl) (by decide) 1 0 dX10_init_153 rfl rfl (fun f' => [(h0, .inr (10, [.ref q1, .ref q2, ii 0, .ref q3, .ref q4, ii 0, .ref q5, ii 0, .ref q6, ii 0, ii 0, .ref q7, ii 0, .ref q8, ii 0, .ref q9, .ref q10, .ref q11, ii 0, ii 0, .ref q12, .ref q13, ii 0])), (q1, .inl (K.2.1, 186, .inl (arI f'))), (q2, .inl (K.2.1, 744, .inl (arI zA))), (q3, .inl (K.2.1, 4, .inl (arI zA))), (q4, .inl (K.2.1, 120, .inl (arI zA))), (q5, .inl (K.2.1, 30, .inl (arI zA))), (q6, .inl (K.2.1, 30, .inl (arI zA))), (q7, .inl (K.2.1, 30, .inl (arI zA))), (q8, .inl (K.2.1, 31, .inl (arI zA))), (q9, .inl (K.2.1, 30, .inl (arI zA))), (q10, .inl (K.2.1, 30, .inl (arI zA))), (q11, .inl (K.2.1, 30, .inl (arI zA))), (q12, .inl (K.2.1, 30, .inl (arI zA))), (q13, .inl (K.2.1, 200, .inl (arI zA)))]) (fun _ => rfl) (fun f31 hf31 => ?_)
  refine g_iinc X (lv' := [(1, ii ((((((0 + 1) + 1) + 1) + 1) + 1) + 1)), (0, .ref h0)]) dX10_init_154 0 rfl (by decide) rfl ?_
  refine g_goto X 136 dX10_init_157 (by decide) ?_
  refine g_iload_n X dX10_init_136 0 rfl rfl ?_
  refine g_bipush X dX10_init_137 (by decide +kernel) ?_
  refine g_icmp_ge X (show brLT ((((((0 + 1) + 1) + 1) + 1) + 1) + 1) 6 none (some ()) = some () by decide) 160 dX10_init_139 (by decide) (fun h => nomatch h) (fun _ => ?_)
  refine g_aload_n X dX10_init_160 1 rfl rfl ?_
  refine g_get X (v := .ref q1) 0 0 dX10_init_161 rfl rfl iw_X10_init_X10 (by decide) fl_X10_init_7 rfl ?_
  refine g_sipush X dX10_init_164 (by decide +kernel) ?_
  refine g_iconst X dX10_init_167 ?_
  refine g_iast X (n := 186) (F := some) (r := upI f31 148 1) (by unfold wrK; rw [if_pos (by decide)]; rfl) (by decide) 1 0 dX10_init_168 rfl rfl (fun f' => [(h0, .inr (10, [.ref q1, .ref q2, ii 0, .ref q3, .ref q4, ii 0, .ref q5, ii 0, .ref q6, ii 0, ii 0, .ref q7, ii 0, .ref q8, ii 0, .ref q9, .ref q10, .ref q11, ii 0, ii 0, .ref q12, .ref q13, ii 0])), (q1, .inl (K.2.1, 186, .inl (arI f'))), (q2, .inl (K.2.1, 744, .inl (arI zA))), (q3, .inl (K.2.1, 4, .inl (arI zA))), (q4, .inl (K.2.1, 120, .inl (arI zA))), (q5, .inl (K.2.1, 30, .inl (arI zA))), (q6, .inl (K.2.1, 30, .inl (arI zA))), (q7, .inl (K.2.1, 30, .inl (arI zA))), (q8, .inl (K.2.1, 31, .inl (arI zA))), (q9, .inl (K.2.1, 30, .inl (arI zA))), (q10, .inl (K.2.1, 30, .inl (arI zA))), (q11, .inl (K.2.1, 30, .inl (arI zA))), (q12, .inl (K.2.1, 30, .inl (arI zA))), (q13, .inl (K.2.1, 200, .inl (arI zA)))]) (fun _ => rfl) (fun f32 hf32 => ?_)
  refine g_aload_n X dX10_init_169 1 rfl rfl ?_
  refine g_get X (v := .ref q1) 0 0 dX10_init_170 rfl rfl iw_X10_init_X10 (by decide) fl_X10_init_7 rfl ?_
  refine g_sipush X dX10_init_173 (by decide +kernel) ?_
  refine g_iconst X dX10_init_176 ?_
  refine g_iast X (n := 186) (F := some) (r := upI f32 149 0) (by unfold wrK; rw [if_pos (by decide)]; rfl) (by decide) 1 0 dX10_init_177 rfl rfl (fun f' => [(h0, .inr (10, [.ref q1, .ref q2, ii 0, .ref q3, .ref q4, ii 0, .ref q5, ii 0, .ref q6, ii 0, ii 0, .ref q7, ii 0, .ref q8, ii 0, .ref q9, .ref q10, .ref q11, ii 0, ii 0, .ref q12, .ref q13, ii 0])), (q1, .inl (K.2.1, 186, .inl (arI f'))), (q2, .inl (K.2.1, 744, .inl (arI zA))), (q3, .inl (K.2.1, 4, .inl (arI zA))), (q4, .inl (K.2.1, 120, .inl (arI zA))), (q5, .inl (K.2.1, 30, .inl (arI zA))), (q6, .inl (K.2.1, 30, .inl (arI zA))), (q7, .inl (K.2.1, 30, .inl (arI zA))), (q8, .inl (K.2.1, 31, .inl (arI zA))), (q9, .inl (K.2.1, 30, .inl (arI zA))), (q10, .inl (K.2.1, 30, .inl (arI zA))), (q11, .inl (K.2.1, 30, .inl (arI zA))), (q12, .inl (K.2.1, 30, .inl (arI zA))), (q13, .inl (K.2.1, 200, .inl (arI zA)))]) (fun _ => rfl) (fun f33 hf33 => ?_)
  cases hf14; cases hf15; cases hf16; cases hf17; cases hf18; cases hf19; cases hf20; cases hf21; cases hf22; cases hf23; cases hf24; cases hf25; cases hf26; cases hf27; cases hf28; cases hf29; cases hf30; cases hf31; cases hf32; cases hf33
  exact g_iend X hr hlk (acons h0 (acons q1 (acons q2 (acons q3 (acons q4 (acons q5 (acons q6 (acons q7 (acons q8 (acons q9 (acons q10 (acons q11 (acons q12 (acons q13 (fun _ => 0))))))))))))))) rfl (List.Perm.of_eq rfl) dX10_init_178
