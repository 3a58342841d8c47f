theorem wd_X9_init_oi1 : Cond.methodLink RX9 1 Lib.objectInit ∈ wsX9_init := by decide +kernel
theorem wd_X9_init_oi2 : Cond.instanceMethod Lib.objectInit ∈ wsX9_init := by decide +kernel
theorem wd_X9_init_oi3 : Cond.code Lib.objectInit ⟨#[0xb1]⟩ 1 none ∈ wsX9_init := by decide +kernel
theorem wd_X9_init_cl7 : Cond.classLink RX9 7 RX8 ∈ wsX9_init := by decide +kernel
theorem wd_X9_init_inst8 : Cond.instantiable RX8 9 ∈ wsX9_init := by decide +kernel
theorem wd_X9_init_ini8 : Cond.initialized RX8 ∈ wsX9_init := by decide +kernel
theorem iw_X9_init_X8 : ∀ w ∈ u_ws RX8 TX8 9, w ∈ wsX9_init := by decide +kernel
theorem wd_X9_init_im8 : Cond.instanceMethod yX8_init ∈ wsX9_init := by decide +kernel
theorem wd_X9_init_ml9 : Cond.methodLink RX9 9 yX8_init ∈ wsX9_init := by decide +kernel
theorem iw_X9_init_X9 : ∀ w ∈ u_ws RX9 TX9 8, w ∈ wsX9_init := by decide +kernel
theorem fl_X9_init_10 : Cond.fieldLink RX9 10 (TX9 0).1 (TX9 0).2.1 (TX9 0).2.2.1 ∈ wsX9_init := by decide +kernel
theorem wd_X9_init_cl16 : Cond.classLink RX9 16 RX2 ∈ wsX9_init := by decide +kernel
theorem wd_X9_init_inst2 : Cond.instantiable RX2 2 ∈ wsX9_init := by decide +kernel
theorem wd_X9_init_ini2 : Cond.initialized RX2 ∈ wsX9_init := by decide +kernel
theorem iw_X9_init_X2 : ∀ w ∈ u_ws RX2 TX2 2, w ∈ wsX9_init := by decide +kernel
theorem wd_X9_init_im2 : Cond.instanceMethod yX2_init ∈ wsX9_init := by decide +kernel
theorem wd_X9_init_ml18 : Cond.methodLink RX9 18 yX2_init ∈ wsX9_init := by decide +kernel
theorem fl_X9_init_19 : Cond.fieldLink RX9 19 (TX9 1).1 (TX9 1).2.1 (TX9 1).2.2.1 ∈ wsX9_init := by decide +kernel
theorem wd_X9_init_cl23 : Cond.classLink RX9 23 RX3 ∈ wsX9_init := by decide +kernel
theorem wd_X9_init_inst3 : Cond.instantiable RX3 3 ∈ wsX9_init := by decide +kernel
theorem wd_X9_init_ini3 : Cond.initialized RX3 ∈ wsX9_init := by decide +kernel
theorem iw_X9_init_X3 : ∀ w ∈ u_ws RX3 TX3 3, w ∈ wsX9_init := by decide +kernel
theorem wd_X9_init_im3 : Cond.instanceMethod yX3_init ∈ wsX9_init := by decide +kernel
theorem ne_X9_init_25 : (RX9, 25, yX3_init) ∈ nestL := by decide +kernel
theorem fl_X9_init_26 : Cond.fieldLink RX9 26 (TX9 2).1 (TX9 2).2.1 (TX9 2).2.2.1 ∈ wsX9_init := by decide +kernel
theorem wd_X9_init_cl30 : Cond.classLink RX9 30 RX6 ∈ wsX9_init := by decide +kernel
theorem wd_X9_init_inst6 : Cond.instantiable RX6 4 ∈ wsX9_init := by decide +kernel
theorem wd_X9_init_ini6 : Cond.initialized RX6 ∈ wsX9_init := by decide +kernel
theorem iw_X9_init_X6 : ∀ w ∈ u_ws RX6 TX6 4, w ∈ wsX9_init := by decide +kernel
theorem wd_X9_init_im6 : Cond.instanceMethod yX6_init ∈ wsX9_init := by decide +kernel
theorem ne_X9_init_32 : (RX9, 32, yX6_init) ∈ nestL := by decide +kernel
theorem fl_X9_init_33 : Cond.fieldLink RX9 33 (TX9 3).1 (TX9 3).2.1 (TX9 3).2.2.1 ∈ wsX9_init := by decide +kernel
theorem wd_X9_init_cl37 : Cond.classLink RX9 37 RX7 ∈ wsX9_init := by decide +kernel
theorem wd_X9_init_inst7 : Cond.instantiable RX7 4 ∈ wsX9_init := by decide +kernel
theorem wd_X9_init_ini7 : Cond.initialized RX7 ∈ wsX9_init := by decide +kernel
theorem iw_X9_init_X7 : ∀ w ∈ u_ws RX7 TX7 4, w ∈ wsX9_init := by decide +kernel
theorem wd_X9_init_im7 : Cond.instanceMethod yX7_init ∈ wsX9_init := by decide +kernel
theorem ne_X9_init_39 : (RX9, 39, yX7_init) ∈ nestL := by decide +kernel
theorem fl_X9_init_40 : Cond.fieldLink RX9 40 (TX9 4).1 (TX9 4).2.1 (TX9 4).2.2.1 ∈ wsX9_init := by decide +kernel
theorem wd_X9_init_cl44 : Cond.classLink RX9 44 RX0 ∈ wsX9_init := by decide +kernel
theorem wd_X9_init_inst0 : Cond.instantiable RX0 2 ∈ wsX9_init := by decide +kernel
theorem wd_X9_init_ini0 : Cond.initialized RX0 ∈ wsX9_init := by decide +kernel
theorem iw_X9_init_X0 : ∀ w ∈ u_ws RX0 TX0 2, w ∈ wsX9_init := by decide +kernel
theorem wd_X9_init_im0 : Cond.instanceMethod yX0_init ∈ wsX9_init := by decide +kernel
theorem ne_X9_init_46 : (RX9, 46, yX0_init) ∈ nestL := by decide +kernel
theorem fl_X9_init_47 : Cond.fieldLink RX9 47 (TX9 5).1 (TX9 5).2.1 (TX9 5).2.2.1 ∈ wsX9_init := by decide +kernel
theorem wd_X9_init_cl51 : Cond.classLink RX9 51 RX5 ∈ wsX9_init := by decide +kernel
theorem wd_X9_init_inst5 : Cond.instantiable RX5 3 ∈ wsX9_init := by decide +kernel
theorem wd_X9_init_ini5 : Cond.initialized RX5 ∈ wsX9_init := by decide +kernel
theorem iw_X9_init_X5 : ∀ w ∈ u_ws RX5 TX5 3, w ∈ wsX9_init := by decide +kernel
theorem wd_X9_init_im5 : Cond.instanceMethod yX5_init ∈ wsX9_init := by decide +kernel
theorem ne_X9_init_53 : (RX9, 53, yX5_init) ∈ nestL := by decide +kernel
theorem fl_X9_init_54 : Cond.fieldLink RX9 54 (TX9 6).1 (TX9 6).2.1 (TX9 6).2.2.1 ∈ wsX9_init := by decide +kernel
theorem wd_X9_init_acint : Cond.arrayClass .int ∈ wsX9_init := by decide +kernel
theorem fl_X9_init_58 : Cond.fieldLink RX9 58 (TX9 7).1 (TX9 7).2.1 (TX9 7).2.2.1 ∈ wsX9_init := by decide +kernel
def rmX9_init : Room := { frames := 4, cells := 136, slots := 2007, locals := 102 }
set_option maxHeartbeats 8000000 in
set_option maxRecDepth 100000 in
theorem X9_init_ok (K : KE) (l : Launch) (h0 : Nat) (g6 g4 gT : Arr) (wP : Int × Pg) (hg6 : J7_fill_53178 6 zA 1 = some g6) (hg4 : J7_fill_53178 4 zA 1 = some g4) (hgT : J7_fill_53178 6 zA (-1) = some gT) (hP : X6_add (0, zA, zA, zA) 0 0 0 = some wP) : CI l K.1 vwCl (kT K) yX9_init wsX9_init rmX9_init [.ref h0] h0 (.inr (9, [.null, .null, .null, .null, .null, .null, .null, .null])) (fun a => c9 K a (((g6, zA, zA), (g6, zA, zA), (g4, zA, zA), 0, gT, 0, (gT, zA, zA), wP.2, zA), ((fun _ => ((g6, zA, zA), (g6, zA, zA), (g4, zA, zA), 0, gT, 0, (gT, zA, zA), wP.2, zA)), 0, (fun i => i)), (zA, 0, 0), (0, zA, zA, zA), (zA, 0, zA, 0), (zA, 0), ((0, zA, zA, zA), zA, zA), zA)) := by
  refine CI.mk (cc := cX9_init) (maxL := 1) (by decide) rfl rfl (Nat.le_of_ble_eq_true rfl) (fun p e s m below meth c X hao hmn hr hlk => ?_)
  have X : CX p s m ([.ref h0] : List Value).toArray c K.1 vwCl (kT K) (va_A [(h0, .inr (9, [.null, .null, .null, .null, .null, .null, .null, .null]))] s.heap.size) cX9_init 1 wsX9_init RX9 := X
  refine g_aload_n X dX9_init_0 0 rfl rfl ?_
  refine g_objInit X wd_X9_init_oi1 wd_X9_init_oi2 wd_X9_init_oi3 dX9_init_1 ⟨Nat.le_of_ble_eq_true rfl, Nat.le_of_ble_eq_true rfl⟩ ?_
  refine g_aload_n X dX9_init_4 0 rfl rfl ?_
  refine g_new X (ci := 8) (fs := [.null, .null, .null, ii 0, .null, ii 0, .null, .null, .null]) (ty := tyX8) iw_X9_init_X8 tyX8_ok wd_X9_init_cl7 wd_X9_init_inst8 wd_X9_init_ini8 rfl (fun j hj => by rcases (show j = 0 ∨ j = 1 ∨ j = 2 ∨ j = 3 ∨ j = 4 ∨ j = 5 ∨ j = 6 ∨ j = 7 ∨ j = 8 by omega) with rfl | rfl | rfl | rfl | rfl | rfl | rfl | rfl | rfl <;> rfl) ⟨Nat.le_of_ble_eq_true rfl, Nat.le_of_ble_eq_true rfl⟩ dX9_init_5 (fun q1 => ?_)
  refine g_dup X dX9_init_8 rfl ?_
  refine g_callI X hao (As := []) (st := [.ref q1, .ref h0]) (L := [(h0, .inr (9, [.null, .null, .null, .null, .null, .null, .null, .null]))]) (X8_init_ok K l q1 g6 g4 gT wP hg6 hg4 hgT hP) ggX9_init_X8_init wd_X9_init_ini8 wd_X9_init_ml9 wd_X9_init_im8 rfl rfl 0 (by decide +kernel) ⟨Nat.le_of_ble_eq_true rfl, Nat.le_of_ble_eq_true rfl⟩ ⟨Nat.le_of_ble_eq_true rfl, Nat.le_of_ble_eq_true rfl⟩ rfl rfl (Nat.le_of_ble_eq_true rfl) dX9_init_9 rfl (fun a2 ea2 => ?_)
  refine g_stk (st' := [.ref (a2 0), .ref h0]) (by rw [ea2]) ?_
  refine g_putF X hmn 0 0 dX9_init_12 rfl rfl iw_X9_init_X9 tyX9_ok nmX9 (by decide) fl_X9_init_10 rfl rfl rfl rfl rfl (Nat.le_of_ble_eq_true rfl) (ws' := ([(h0, .inr (9, [.ref (a2 0), .null, .null, .null, .null, .null, .null, .null]))] ++ c8 K a2 ((g6, zA, zA), (g6, zA, zA), (g4, zA, zA), 0, gT, 0, (gT, zA, zA), wP.2, zA))) rfl ?_
  refine g_aload_n X dX9_init_15 0 rfl rfl ?_
  refine g_new X (ci := 2) (fs := [.null, ii 0]) (ty := tyX2) iw_X9_init_X2 tyX2_ok wd_X9_init_cl16 wd_X9_init_inst2 wd_X9_init_ini2 rfl (fun j hj => by rcases (show j = 0 ∨ j = 1 by omega) with rfl | rfl <;> rfl) ⟨Nat.le_of_ble_eq_true rfl, Nat.le_of_ble_eq_true rfl⟩ dX9_init_16 (fun q3 => ?_)
  refine g_dup X dX9_init_19 rfl ?_
  refine g_callI X hao (As := []) (st := [.ref q3, .ref h0]) (L := ([(h0, .inr (9, [.ref (a2 0), .null, .null, .null, .null, .null, .null, .null]))] ++ c8 K a2 ((g6, zA, zA), (g6, zA, zA), (g4, zA, zA), 0, gT, 0, (gT, zA, zA), wP.2, zA))) (X2_init_ok K l q3 g6 g4 gT wP hg6 hg4 hgT hP) ggX9_init_X2_init wd_X9_init_ini2 wd_X9_init_ml18 wd_X9_init_im2 rfl rfl 0 (by decide +kernel) ⟨Nat.le_of_ble_eq_true rfl, Nat.le_of_ble_eq_true rfl⟩ ⟨Nat.le_of_ble_eq_true rfl, Nat.le_of_ble_eq_true rfl⟩ rfl rfl (Nat.le_of_ble_eq_true rfl) dX9_init_20 rfl (fun a4 ea4 => ?_)
  refine g_stk (st' := [.ref (a4 0), .ref h0]) (by rw [ea4]) ?_
  refine g_putF X hmn 0 1 dX9_init_23 rfl rfl iw_X9_init_X9 tyX9_ok nmX9 (by decide) fl_X9_init_19 rfl rfl rfl rfl rfl (Nat.le_of_ble_eq_true rfl) (ws' := (([(h0, .inr (9, [.ref (a2 0), .ref (a4 0), .null, .null, .null, .null, .null, .null]))] ++ c8 K a2 ((g6, zA, zA), (g6, zA, zA), (g4, zA, zA), 0, gT, 0, (gT, zA, zA), wP.2, zA)) ++ c2 K a4 ((fun _ => ((g6, zA, zA), (g6, zA, zA), (g4, zA, zA), 0, gT, 0, (gT, zA, zA), wP.2, zA)), 0, (fun i => i)))) rfl ?_
  refine g_aload_n X dX9_init_26 0 rfl rfl ?_
  refine g_new X (ci := 3) (fs := [.null, ii 0, ii 0]) (ty := tyX3) iw_X9_init_X3 tyX3_ok wd_X9_init_cl23 wd_X9_init_inst3 wd_X9_init_ini3 rfl (fun j hj => by rcases (show j = 0 ∨ j = 1 ∨ j = 2 by omega) with rfl | rfl | rfl <;> rfl) ⟨Nat.le_of_ble_eq_true rfl, Nat.le_of_ble_eq_true rfl⟩ dX9_init_27 (fun q5 => ?_)
  refine g_dup X dX9_init_30 rfl ?_
  refine g_callIN X hao (As := []) (st := [.ref q5, .ref h0]) (L := (([(h0, .inr (9, [.ref (a2 0), .ref (a4 0), .null, .null, .null, .null, .null, .null]))] ++ c8 K a2 ((g6, zA, zA), (g6, zA, zA), (g4, zA, zA), 0, gT, 0, (gT, zA, zA), wP.2, zA)) ++ c2 K a4 ((fun _ => ((g6, zA, zA), (g6, zA, zA), (g4, zA, zA), 0, gT, 0, (gT, zA, zA), wP.2, zA)), 0, (fun i => i)))) (X3_init_ok K l q5 ) ggX9_init_X3_init wd_X9_init_ini3 ne_X9_init_25 wd_X9_init_im3 rfl rfl 0 (by decide +kernel) ⟨Nat.le_of_ble_eq_true rfl, Nat.le_of_ble_eq_true rfl⟩ ⟨Nat.le_of_ble_eq_true rfl, Nat.le_of_ble_eq_true rfl⟩ rfl rfl (Nat.le_of_ble_eq_true rfl) dX9_init_31 rfl (fun a6 ea6 => ?_)
  refine g_stk (st' := [.ref (a6 0), .ref h0]) (by rw [ea6]) ?_
  refine g_putF X hmn 0 2 dX9_init_34 rfl rfl iw_X9_init_X9 tyX9_ok nmX9 (by decide) fl_X9_init_26 rfl rfl rfl rfl rfl (Nat.le_of_ble_eq_true rfl) (ws' := ((([(h0, .inr (9, [.ref (a2 0), .ref (a4 0), .ref (a6 0), .null, .null, .null, .null, .null]))] ++ c8 K a2 ((g6, zA, zA), (g6, zA, zA), (g4, zA, zA), 0, gT, 0, (gT, zA, zA), wP.2, zA)) ++ c2 K a4 ((fun _ => ((g6, zA, zA), (g6, zA, zA), (g4, zA, zA), 0, gT, 0, (gT, zA, zA), wP.2, zA)), 0, (fun i => i))) ++ c3 K a6 (zA, 0, 0))) rfl ?_
  refine g_aload_n X dX9_init_37 0 rfl rfl ?_
  refine g_new X (ci := 6) (fs := [ii 0, .null, .null, .null]) (ty := tyX6) iw_X9_init_X6 tyX6_ok wd_X9_init_cl30 wd_X9_init_inst6 wd_X9_init_ini6 rfl (fun j hj => by rcases (show j = 0 ∨ j = 1 ∨ j = 2 ∨ j = 3 by omega) with rfl | rfl | rfl | rfl <;> rfl) ⟨Nat.le_of_ble_eq_true rfl, Nat.le_of_ble_eq_true rfl⟩ dX9_init_38 (fun q7 => ?_)
  refine g_dup X dX9_init_41 rfl ?_
  refine g_callIN X hao (As := []) (st := [.ref q7, .ref h0]) (L := ((([(h0, .inr (9, [.ref (a2 0), .ref (a4 0), .ref (a6 0), .null, .null, .null, .null, .null]))] ++ c8 K a2 ((g6, zA, zA), (g6, zA, zA), (g4, zA, zA), 0, gT, 0, (gT, zA, zA), wP.2, zA)) ++ c2 K a4 ((fun _ => ((g6, zA, zA), (g6, zA, zA), (g4, zA, zA), 0, gT, 0, (gT, zA, zA), wP.2, zA)), 0, (fun i => i))) ++ c3 K a6 (zA, 0, 0))) (X6_init_ok K l q7 ) ggX9_init_X6_init wd_X9_init_ini6 ne_X9_init_32 wd_X9_init_im6 rfl rfl 0 (by decide +kernel) ⟨Nat.le_of_ble_eq_true rfl, Nat.le_of_ble_eq_true rfl⟩ ⟨Nat.le_of_ble_eq_true rfl, Nat.le_of_ble_eq_true rfl⟩ rfl rfl (Nat.le_of_ble_eq_true rfl) dX9_init_42 rfl (fun a8 ea8 => ?_)
  refine g_stk (st' := [.ref (a8 0), .ref h0]) (by rw [ea8]) ?_
  refine g_putF X hmn 0 3 dX9_init_45 rfl rfl iw_X9_init_X9 tyX9_ok nmX9 (by decide) fl_X9_init_33 rfl rfl rfl rfl rfl (Nat.le_of_ble_eq_true rfl) (ws' := (((([(h0, .inr (9, [.ref (a2 0), .ref (a4 0), .ref (a6 0), .ref (a8 0), .null, .null, .null, .null]))] ++ c8 K a2 ((g6, zA, zA), (g6, zA, zA), (g4, zA, zA), 0, gT, 0, (gT, zA, zA), wP.2, zA)) ++ c2 K a4 ((fun _ => ((g6, zA, zA), (g6, zA, zA), (g4, zA, zA), 0, gT, 0, (gT, zA, zA), wP.2, zA)), 0, (fun i => i))) ++ c3 K a6 (zA, 0, 0)) ++ c6 K a8 (0, zA, zA, zA))) rfl ?_
  refine g_aload_n X dX9_init_48 0 rfl rfl ?_
  refine g_new X (ci := 7) (fs := [.null, ii 0, .null, ii 0]) (ty := tyX7) iw_X9_init_X7 tyX7_ok wd_X9_init_cl37 wd_X9_init_inst7 wd_X9_init_ini7 rfl (fun j hj => by rcases (show j = 0 ∨ j = 1 ∨ j = 2 ∨ j = 3 by omega) with rfl | rfl | rfl | rfl <;> rfl) ⟨Nat.le_of_ble_eq_true rfl, Nat.le_of_ble_eq_true rfl⟩ dX9_init_49 (fun q9 => ?_)
  refine g_dup X dX9_init_52 rfl ?_
  refine g_callIN X hao (As := []) (st := [.ref q9, .ref h0]) (L := (((([(h0, .inr (9, [.ref (a2 0), .ref (a4 0), .ref (a6 0), .ref (a8 0), .null, .null, .null, .null]))] ++ c8 K a2 ((g6, zA, zA), (g6, zA, zA), (g4, zA, zA), 0, gT, 0, (gT, zA, zA), wP.2, zA)) ++ c2 K a4 ((fun _ => ((g6, zA, zA), (g6, zA, zA), (g4, zA, zA), 0, gT, 0, (gT, zA, zA), wP.2, zA)), 0, (fun i => i))) ++ c3 K a6 (zA, 0, 0)) ++ c6 K a8 (0, zA, zA, zA))) (X7_init_ok K l q9 ) ggX9_init_X7_init wd_X9_init_ini7 ne_X9_init_39 wd_X9_init_im7 rfl rfl 0 (by decide +kernel) ⟨Nat.le_of_ble_eq_true rfl, Nat.le_of_ble_eq_true rfl⟩ ⟨Nat.le_of_ble_eq_true rfl, Nat.le_of_ble_eq_true rfl⟩ rfl rfl (Nat.le_of_ble_eq_true rfl) dX9_init_53 rfl (fun a10 ea10 => ?_)
  refine g_stk (st' := [.ref (a10 0), .ref h0]) (by rw [ea10]) ?_
  refine g_putF X hmn 0 4 dX9_init_56 rfl rfl iw_X9_init_X9 tyX9_ok nmX9 (by decide) fl_X9_init_40 rfl rfl rfl rfl rfl (Nat.le_of_ble_eq_true rfl) (ws' := ((((([(h0, .inr (9, [.ref (a2 0), .ref (a4 0), .ref (a6 0), .ref (a8 0), .ref (a10 0), .null, .null, .null]))] ++ c8 K a2 ((g6, zA, zA), (g6, zA, zA), (g4, zA, zA), 0, gT, 0, (gT, zA, zA), wP.2, zA)) ++ c2 K a4 ((fun _ => ((g6, zA, zA), (g6, zA, zA), (g4, zA, zA), 0, gT, 0, (gT, zA, zA), wP.2, zA)), 0, (fun i => i))) ++ c3 K a6 (zA, 0, 0)) ++ c6 K a8 (0, zA, zA, zA)) ++ c7 K a10 (zA, 0, zA, 0))) rfl ?_
  refine g_aload_n X dX9_init_59 0 rfl rfl ?_
  refine g_new X (ci := 0) (fs := [.null, ii 0]) (ty := tyX0) iw_X9_init_X0 tyX0_ok wd_X9_init_cl44 wd_X9_init_inst0 wd_X9_init_ini0 rfl (fun j hj => by rcases (show j = 0 ∨ j = 1 by omega) with rfl | rfl <;> rfl) ⟨Nat.le_of_ble_eq_true rfl, Nat.le_of_ble_eq_true rfl⟩ dX9_init_60 (fun q11 => ?_)
  refine g_dup X dX9_init_63 rfl ?_
  refine g_callIN X hao (As := []) (st := [.ref q11, .ref h0]) (L := ((((([(h0, .inr (9, [.ref (a2 0), .ref (a4 0), .ref (a6 0), .ref (a8 0), .ref (a10 0), .null, .null, .null]))] ++ c8 K a2 ((g6, zA, zA), (g6, zA, zA), (g4, zA, zA), 0, gT, 0, (gT, zA, zA), wP.2, zA)) ++ c2 K a4 ((fun _ => ((g6, zA, zA), (g6, zA, zA), (g4, zA, zA), 0, gT, 0, (gT, zA, zA), wP.2, zA)), 0, (fun i => i))) ++ c3 K a6 (zA, 0, 0)) ++ c6 K a8 (0, zA, zA, zA)) ++ c7 K a10 (zA, 0, zA, 0))) (X0_init_ok K l q11 ) ggX9_init_X0_init wd_X9_init_ini0 ne_X9_init_46 wd_X9_init_im0 rfl rfl 0 (by decide +kernel) ⟨Nat.le_of_ble_eq_true rfl, Nat.le_of_ble_eq_true rfl⟩ ⟨Nat.le_of_ble_eq_true rfl, Nat.le_of_ble_eq_true rfl⟩ rfl rfl (Nat.le_of_ble_eq_true rfl) dX9_init_64 rfl (fun a12 ea12 => ?_)
  refine g_stk (st' := [.ref (a12 0), .ref h0]) (by rw [ea12]) ?_
  refine g_putF X hmn 0 5 dX9_init_67 rfl rfl iw_X9_init_X9 tyX9_ok nmX9 (by decide) fl_X9_init_47 rfl rfl rfl rfl rfl (Nat.le_of_ble_eq_true rfl) (ws' := (((((([(h0, .inr (9, [.ref (a2 0), .ref (a4 0), .ref (a6 0), .ref (a8 0), .ref (a10 0), .ref (a12 0), .null, .null]))] ++ c8 K a2 ((g6, zA, zA), (g6, zA, zA), (g4, zA, zA), 0, gT, 0, (gT, zA, zA), wP.2, zA)) ++ c2 K a4 ((fun _ => ((g6, zA, zA), (g6, zA, zA), (g4, zA, zA), 0, gT, 0, (gT, zA, zA), wP.2, zA)), 0, (fun i => i))) ++ c3 K a6 (zA, 0, 0)) ++ c6 K a8 (0, zA, zA, zA)) ++ c7 K a10 (zA, 0, zA, 0)) ++ c0 K a12 (zA, 0))) rfl ?_
  refine g_aload_n X dX9_init_70 0 rfl rfl ?_
  refine g_new X (ci := 5) (fs := [.null, .null, .null]) (ty := tyX5) iw_X9_init_X5 tyX5_ok wd_X9_init_cl51 wd_X9_init_inst5 wd_X9_init_ini5 rfl (fun j hj => by rcases (show j = 0 ∨ j = 1 ∨ j = 2 by omega) with rfl | rfl | rfl <;> rfl) ⟨Nat.le_of_ble_eq_true rfl, Nat.le_of_ble_eq_true rfl⟩ dX9_init_71 (fun q13 => ?_)
  refine g_dup X dX9_init_74 rfl ?_
  refine g_callIN X hao (As := []) (st := [.ref q13, .ref h0]) (L := (((((([(h0, .inr (9, [.ref (a2 0), .ref (a4 0), .ref (a6 0), .ref (a8 0), .ref (a10 0), .ref (a12 0), .null, .null]))] ++ c8 K a2 ((g6, zA, zA), (g6, zA, zA), (g4, zA, zA), 0, gT, 0, (gT, zA, zA), wP.2, zA)) ++ c2 K a4 ((fun _ => ((g6, zA, zA), (g6, zA, zA), (g4, zA, zA), 0, gT, 0, (gT, zA, zA), wP.2, zA)), 0, (fun i => i))) ++ c3 K a6 (zA, 0, 0)) ++ c6 K a8 (0, zA, zA, zA)) ++ c7 K a10 (zA, 0, zA, 0)) ++ c0 K a12 (zA, 0))) (X5_init_ok K l q13 ) ggX9_init_X5_init wd_X9_init_ini5 ne_X9_init_53 wd_X9_init_im5 rfl rfl 0 (by decide +kernel) ⟨Nat.le_of_ble_eq_true rfl, Nat.le_of_ble_eq_true rfl⟩ ⟨Nat.le_of_ble_eq_true rfl, Nat.le_of_ble_eq_true rfl⟩ rfl rfl (Nat.le_of_ble_eq_true rfl) dX9_init_75 rfl (fun a14 ea14 => ?_)
  refine g_stk (st' := [.ref (a14 0), .ref h0]) (by rw [ea14]) ?_
  refine g_putF X hmn 0 6 dX9_init_78 rfl rfl iw_X9_init_X9 tyX9_ok nmX9 (by decide) fl_X9_init_54 rfl rfl rfl rfl rfl (Nat.le_of_ble_eq_true rfl) (ws' := ((((((([(h0, .inr (9, [.ref (a2 0), .ref (a4 0), .ref (a6 0), .ref (a8 0), .ref (a10 0), .ref (a12 0), .ref (a14 0), .null]))] ++ c8 K a2 ((g6, zA, zA), (g6, zA, zA), (g4, zA, zA), 0, gT, 0, (gT, zA, zA), wP.2, zA)) ++ c2 K a4 ((fun _ => ((g6, zA, zA), (g6, zA, zA), (g4, zA, zA), 0, gT, 0, (gT, zA, zA), wP.2, zA)), 0, (fun i => i))) ++ c3 K a6 (zA, 0, 0)) ++ c6 K a8 (0, zA, zA, zA)) ++ c7 K a10 (zA, 0, zA, 0)) ++ c0 K a12 (zA, 0)) ++ c5 K a14 ((0, zA, zA, zA), zA, zA))) rfl ?_
  refine g_aload_n X dX9_init_81 0 rfl rfl ?_
  refine g_iconst X dX9_init_82 ?_
  refine g_stk (st' := [ii ((4 : Nat) : Int), .ref h0]) rfl ?_
  refine g_newi X (N := 4) rfl (Nat.le_of_ble_eq_true rfl) wd_X9_init_acint ⟨Nat.le_of_ble_eq_true rfl, Nat.le_of_ble_eq_true rfl⟩ dX9_init_83 (fun q15 => ?_)
  refine g_putF X hmn 0 7 dX9_init_85 rfl rfl iw_X9_init_X9 tyX9_ok nmX9 (by decide) fl_X9_init_58 rfl rfl rfl rfl rfl (Nat.le_of_ble_eq_true rfl) (ws' := (((((((([(h0, .inr (9, [.ref (a2 0), .ref (a4 0), .ref (a6 0), .ref (a8 0), .ref (a10 0), .ref (a12 0), .ref (a14 0), .ref q15]))] ++ c8 K a2 ((g6, zA, zA), (g6, zA, zA), (g4, zA, zA), 0, gT, 0, (gT, zA, zA), wP.2, zA)) ++ c2 K a4 ((fun _ => ((g6, zA, zA), (g6, zA, zA), (g4, zA, zA), 0, gT, 0, (gT, zA, zA), wP.2, zA)), 0, (fun i => i))) ++ c3 K a6 (zA, 0, 0)) ++ c6 K a8 (0, zA, zA, zA)) ++ c7 K a10 (zA, 0, zA, 0)) ++ c0 K a12 (zA, 0)) ++ c5 K a14 ((0, zA, zA, zA), zA, zA)) ++ [(q15, .inl (K.2.1, 4, .inl (arI zA)))])) rfl ?_
  refine g_refs (L := [(h0, .inr (9, [.ref (a2 0), .ref (a4 0), .ref (a6 0), .ref (a8 0), .ref (a10 0), .ref (a12 0), .ref (a14 0), .ref q15]))] ++ (c8 K a2 ((g6, zA, zA), (g6, zA, zA), (g4, zA, zA), 0, gT, 0, (gT, zA, zA), wP.2, zA) ++ [(a4 0, .inr (2, [.ref (a4 1), ii 0]))])) (Z := (c8 K (ash a4 2) ((g6, zA, zA), (g6, zA, zA), (g4, zA, zA), 0, gT, 0, (gT, zA, zA), wP.2, zA) ++ (c8 K (ash a4 25) ((g6, zA, zA), (g6, zA, zA), (g4, zA, zA), 0, gT, 0, (gT, zA, zA), wP.2, zA) ++ (c8 K (ash a4 48) ((g6, zA, zA), (g6, zA, zA), (g4, zA, zA), 0, gT, 0, (gT, zA, zA), wP.2, zA) ++ c8 K (ash a4 71) ((g6, zA, zA), (g6, zA, zA), (g4, zA, zA), 0, gT, 0, (gT, zA, zA), wP.2, zA)))) ++ ((c3 K a6 (zA, 0, 0) ++ (c6 K a8 (0, zA, zA, zA) ++ (c7 K a10 (zA, 0, zA, 0) ++ (c0 K a12 (zA, 0) ++ c5 K a14 ((0, zA, zA, zA), zA, zA))))) ++ [(q15, .inl (K.2.1, 4, .inl (arI zA)))])) (f := fun i => some (ash a4 (2 + 23 * i) 0)) (g := (fun i => some (ash (ash (acons h0 (acons q15 (acat 23 a2 (acat 2 a6 (acat 4 a8 (acat 3 a10 (acat 2 a12 (acat 7 a14 (acat 94 a4 (fun _ => 0)))))))))) 43) (2 + 23 * i) 0))) rfl (fun i hi => by rcases lt4 hi with rfl | rfl | rfl | rfl <;> rfl) ?_
  refine g_iend X hr hlk (acons h0 (acons q15 (acat 23 a2 (acat 2 a6 (acat 4 a8 (acat 3 a10 (acat 2 a12 (acat 7 a14 (acat 94 a4 (fun _ => 0)))))))))) rfl (perm_lay (o := [(h0, .inr (9, [.ref (a2 0), .ref (a4 0), .ref (a6 0), .ref (a8 0), .ref (a10 0), .ref (a12 0), .ref (a14 0), .ref q15]))]) (n := c8 K a2 ((g6, zA, zA), (g6, zA, zA), (g4, zA, zA), 0, gT, 0, (gT, zA, zA), wP.2, zA)) (h := [(a4 0, .inr (2, [.ref (a4 1), ii 0]))] ++ ([(a4 1, .inl (K.2.2.2, 4, .inr (.inr (.inr (.inr (fun i => some (ash (ash (acons h0 (acons q15 (acat 23 a2 (acat 2 a6 (acat 4 a8 (acat 3 a10 (acat 2 a12 (acat 7 a14 (acat 94 a4 (fun _ => 0)))))))))) 43) (2 + 23 * i) 0)))))))] ++ (c8 K (ash a4 2) ((g6, zA, zA), (g6, zA, zA), (g4, zA, zA), 0, gT, 0, (gT, zA, zA), wP.2, zA) ++ (c8 K (ash a4 25) ((g6, zA, zA), (g6, zA, zA), (g4, zA, zA), 0, gT, 0, (gT, zA, zA), wP.2, zA) ++ (c8 K (ash a4 48) ((g6, zA, zA), (g6, zA, zA), (g4, zA, zA), 0, gT, 0, (gT, zA, zA), wP.2, zA) ++ c8 K (ash a4 71) ((g6, zA, zA), (g6, zA, zA), (g4, zA, zA), 0, gT, 0, (gT, zA, zA), wP.2, zA)))))) (r := c3 K a6 (zA, 0, 0) ++ (c6 K a8 (0, zA, zA, zA) ++ (c7 K a10 (zA, 0, zA, 0) ++ (c0 K a12 (zA, 0) ++ c5 K a14 ((0, zA, zA, zA), zA, zA))))) (e := [(q15, .inl (K.2.1, 4, .inl (arI zA)))]) ?_ ?_) dX9_init_88
  · rfl
  · rfl
