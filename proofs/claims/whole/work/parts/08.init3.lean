theorem g_refs {p : Program} {l : Launch} {e : Env} {R : Room} {s : State} {m : MethodId} {args : Array Value} {below : List Frame} {meth : Method} {c : Code} {D : va_G} {cl : List vw_C} {A : Nat → Prop} {Q : State → Prop} {nL ck cn pc : Nat} {lv : List (Nat × Value)} {st : List Value} {ws L Z : va_W} {q : Nat} {cA : ClassId} {n : Nat} {f g : Nat → Option Nat} (hws : ws = L ++ ([(q, .inl (cA, n, .inr (.inr (.inr (.inr f)))))] ++ Z)) (h : ∀ i, i < n → f i = g i) (k : GO p l e R s m args below meth c D cl A Q nL ck cn pc lv st (L ++ ([(q, .inl (cA, n, .inr (.inr (.inr (.inr g)))))] ++ Z))) : GO p l e R s m args below meth c D cl A Q nL ck cn pc lv st ws := by
  subst hws
  intro H locs ls hP hD hS hl
  have e1 : vp_cell cA (n, .inr (.inr (.inr (.inr f)))) = vp_cell cA (n, .inr (.inr (.inr (.inr g)))) := by
    show arrV cA n (fun j => va_rf (f j)) = arrV cA n (fun j => va_rf (g j))
    unfold arrV
    congr 2
    funext j
    show va_rf (f j.val) = va_rf (g j.val)
    rw [h j.val j.isLt]
  refine k H locs ls (va_P.iff.mpr (fun x hx => ?_)) (va_D.of_nd ?_ (fun x hx => ?_)) hS hl
  · rcases List.mem_append.mp hx with h1 | h1
    · exact va_P.iff.mp hP x (List.mem_append_left _ h1)
    · rcases List.mem_append.mp h1 with h2 | h2
      · have h3 := va_P.iff.mp hP (q, .inl (cA, n, .inr (.inr (.inr (.inr f))))) (by simp)
        rw [List.mem_singleton.mp h2]
        exact (show H[q]? = some (vp_cell cA (n, .inr (.inr (.inr (.inr f))))) from h3).trans (congrArg some e1)
      · exact va_P.iff.mp hP x (List.mem_append_right _ (List.mem_append_right _ h2))
  · have := hD.nd
    simpa using this
  · rcases List.mem_append.mp hx with h1 | h1
    · exact hD.in x (List.mem_append_left _ h1)
    · rcases List.mem_append.mp h1 with h2 | h2
      · rw [List.mem_singleton.mp h2]
        exact hD.in (q, .inl (cA, n, .inr (.inr (.inr (.inr f))))) (by simp)
      · exact hD.in x (List.mem_append_right _ (List.mem_append_right _ h2))
theorem perm_lay {ws ws' o n h r e : va_W} (h1 : ws = o ++ (n ++ (h ++ (r ++ e)))) (h2 : o ++ (e ++ (n ++ (r ++ h))) = ws') : ws.Perm ws' := by
  subst h1; subst h2
  refine List.Perm.append_left o ?_
  have : (n ++ (h ++ (r ++ e))).Perm ((n ++ (r ++ h)) ++ e) := by
    rw [List.append_assoc]
    refine List.Perm.append_left n ?_
    rw [List.append_assoc]
    refine List.perm_append_comm.trans ?_
    rw [List.append_assoc]
    exact List.Perm.append_left r List.perm_append_comm
  exact this.trans List.perm_append_comm
theorem wd_X2_init_oi1 : Cond.methodLink RX2 3 Lib.objectInit ∈ wsX2_init := by decide +kernel
theorem wd_X2_init_oi2 : Cond.instanceMethod Lib.objectInit ∈ wsX2_init := by decide +kernel
theorem wd_X2_init_oi3 : Cond.code Lib.objectInit ⟨#[0xb1]⟩ 1 none ∈ wsX2_init := by decide +kernel
theorem wd_X2_init_cl9 : Cond.classLink RX2 9 "CallMigrator$State" ∈ wsX2_init := by decide +kernel
theorem iw_X2_init_X2 : ∀ w ∈ u_ws RX2 TX2 2, w ∈ wsX2_init := by decide +kernel
theorem fl_X2_init_11 : Cond.fieldLink RX2 11 (TX2 0).1 (TX2 0).2.1 (TX2 0).2.2.1 ∈ wsX2_init := by decide +kernel
theorem fl_X2_init_17 : Cond.fieldLink RX2 17 (TX2 1).1 (TX2 1).2.1 (TX2 1).2.2.1 ∈ wsX2_init := by decide +kernel
theorem wd_X2_init_inst8 : Cond.instantiable RX8 9 ∈ wsX2_init := by decide +kernel
theorem wd_X2_init_ini8 : Cond.initialized RX8 ∈ wsX2_init := by decide +kernel
theorem iw_X2_init_X8 : ∀ w ∈ u_ws RX8 TX8 9, w ∈ wsX2_init := by decide +kernel
theorem wd_X2_init_im8 : Cond.instanceMethod yX8_init ∈ wsX2_init := by decide +kernel
theorem wd_X2_init_ml21 : Cond.methodLink RX2 21 yX8_init ∈ wsX2_init := by decide +kernel
def rmX2_init : Room := { frames := 3, cells := 93, slots := 1196, locals := 81 }
set_option maxHeartbeats 8000000 in
set_option maxRecDepth 100000 in
theorem X2_init_ok (K : KE) (l : Launch) (h0 : Nat) (g6 g4 gT : Arr) (wP : Int × Pg) (hg6 : J7_fill_53178 6 zA 1 = some g6) (hg4 : J7_fill_53178 4 zA 1 = some g4) (hgT : J7_fill_53178 6 zA (-1) = some gT) (hP : X6_add (0, zA, zA, zA) 0 0 0 = some wP) : CI l K.1 vwCl (kT K) yX2_init wsX2_init rmX2_init [.ref h0] h0 (.inr (2, [.null, ii 0])) (fun a => c2 K a ((fun _ => ((g6, zA, zA), (g6, zA, zA), (g4, zA, zA), 0, gT, 0, (gT, zA, zA), wP.2, zA)), 0, (fun i => i))) := by
  refine CI.mk (cc := cX2_init) (maxL := 2) (by decide) rfl rfl (Nat.le_of_ble_eq_true rfl) (fun p e s m below meth c X hao hmn hr hlk => ?_)
  have X : CX p s m ([.ref h0] : List Value).toArray c K.1 vwCl (kT K) (va_A [(h0, .inr (2, [.null, ii 0]))] s.heap.size) cX2_init 2 wsX2_init RX2 := X
  refine g_aload_n X dX2_init_0 0 rfl rfl ?_
  refine g_objInit X wd_X2_init_oi1 wd_X2_init_oi2 wd_X2_init_oi3 dX2_init_1 ⟨Nat.le_of_ble_eq_true rfl, Nat.le_of_ble_eq_true rfl⟩ ?_
  refine g_aload_n X dX2_init_4 0 rfl rfl ?_
  refine g_iconst X dX2_init_5 ?_
  refine g_stk (st' := [ii ((4 : Nat) : Int), .ref h0]) rfl ?_
  refine g_newq X hao (N := 4) rfl (by decide) wd_X2_init_cl9 ⟨Nat.le_of_ble_eq_true rfl, Nat.le_of_ble_eq_true rfl⟩ dX2_init_6 (fun q1 => ?_)
  refine g_putF X hmn 0 0 dX2_init_9 rfl rfl iw_X2_init_X2 tyX2_ok nmX2 (by decide) fl_X2_init_11 rfl rfl rfl rfl rfl (Nat.le_of_ble_eq_true rfl) (ws' := ([(h0, .inr (2, [.ref q1, ii 0]))] ++ [(q1, .inl (K.2.2.2, 4, .inr (.inr (.inr (.inr (fun _ => none))))))])) rfl ?_
  refine g_aload_n X dX2_init_12 0 rfl rfl ?_
  refine g_iconst X dX2_init_13 ?_
  refine g_puti X 0 1 dX2_init_14 rfl rfl iw_X2_init_X2 tyX2_ok nmX2 (by decide) fl_X2_init_17 rfl rfl (Nat.le_of_ble_eq_true rfl) (ws' := ([(h0, .inr (2, [.ref q1, ii 0]))] ++ [(q1, .inl (K.2.2.2, 4, .inr (.inr (.inr (.inr (fun _ => none))))))])) rfl ?_
  refine g_iconst X dX2_init_17 ?_
  refine g_istore_n X (lv' := [(1, ii 0), (0, .ref h0)]) dX2_init_18 rfl (by decide) rfl ?_
  refine g_iload_n X dX2_init_19 0 rfl rfl ?_
  refine g_iconst X dX2_init_20 ?_
  refine g_icmp_ge X (show brLT 0 4 (some ()) none = some () by decide) 43 dX2_init_21 (by decide) (fun _ => ?_) (fun h => nomatch h)
  refine g_aload_n X dX2_init_24 1 rfl rfl ?_
  refine g_get X (v := .ref q1) 0 0 dX2_init_25 rfl rfl iw_X2_init_X2 (by decide) fl_X2_init_11 rfl ?_
  refine g_iload_n X dX2_init_28 0 rfl rfl ?_
  refine g_new X (ci := 8) (fs := [.null, .null, .null, ii 0, .null, ii 0, .null, .null, .null]) (ty := tyX8) iw_X2_init_X8 tyX8_ok wd_X2_init_cl9 wd_X2_init_inst8 wd_X2_init_ini8 rfl (fun j hj => by rcases (show j = 0 ∨ j = 1 ∨ j = 2 ∨ j = 3 ∨ j = 4 ∨ j = 5 ∨ j = 6 ∨ j = 7 ∨ j = 8 by omega) with rfl | rfl | rfl | rfl | rfl | rfl | rfl | rfl | rfl <;> rfl) ⟨Nat.le_of_ble_eq_true rfl, Nat.le_of_ble_eq_true rfl⟩ dX2_init_29 (fun q2 => ?_)
  refine g_dup X dX2_init_32 rfl ?_
  refine g_callI X hao (As := []) (st := [.ref q2, ii 0, .ref q1]) (L := ([(h0, .inr (2, [.ref q1, ii 0]))] ++ [(q1, .inl (K.2.2.2, 4, .inr (.inr (.inr (.inr (fun _ => none))))))])) (X8_init_ok K l q2 g6 g4 gT wP hg6 hg4 hgT hP) ggX2_init_X8_init wd_X2_init_ini8 wd_X2_init_ml21 wd_X2_init_im8 rfl rfl 0 (by decide +kernel) ⟨Nat.le_of_ble_eq_true rfl, Nat.le_of_ble_eq_true rfl⟩ ⟨Nat.le_of_ble_eq_true rfl, Nat.le_of_ble_eq_true rfl⟩ rfl rfl (Nat.le_of_ble_eq_true rfl) dX2_init_33 rfl (fun a3 ea3 => ?_)
  refine g_stk (st' := [.ref (a3 0), ii 0, .ref q1]) (by rw [ea3]) ?_
  refine g_aast X (by decide) (by decide) 1 2 2 dX2_init_36 rfl rfl rfl rfl (ws' := (([(h0, .inr (2, [.ref q1, ii 0]))] ++ [(q1, .inl (K.2.2.2, 4, .inr (.inr (.inr (.inr (va_up (fun _ => none) 0 (some (a3 0))))))))]) ++ c8 K a3 ((g6, zA, zA), (g6, zA, zA), (g4, zA, zA), 0, gT, 0, (gT, zA, zA), wP.2, zA))) rfl ?_
  refine g_iinc X (lv' := [(1, ii (0 + 1)), (0, .ref h0)]) dX2_init_37 0 rfl (by decide) rfl ?_
  refine g_goto X 19 dX2_init_40 (by decide) ?_
  refine g_iload_n X dX2_init_19 0 rfl rfl ?_
  refine g_iconst X dX2_init_20 ?_
  refine g_icmp_ge X (show brLT (0 + 1) 4 (some ()) none = some () by decide) 43 dX2_init_21 (by decide) (fun _ => ?_) (fun h => nomatch h)
  refine g_aload_n X dX2_init_24 1 rfl rfl ?_
  refine g_get X (v := .ref q1) 0 0 dX2_init_25 rfl rfl iw_X2_init_X2 (by decide) fl_X2_init_11 rfl ?_
  refine g_iload_n X dX2_init_28 0 rfl rfl ?_
  refine g_new X (ci := 8) (fs := [.null, .null, .null, ii 0, .null, ii 0, .null, .null, .null]) (ty := tyX8) iw_X2_init_X8 tyX8_ok wd_X2_init_cl9 wd_X2_init_inst8 wd_X2_init_ini8 rfl (fun j hj => by rcases (show j = 0 ∨ j = 1 ∨ j = 2 ∨ j = 3 ∨ j = 4 ∨ j = 5 ∨ j = 6 ∨ j = 7 ∨ j = 8 by omega) with rfl | rfl | rfl | rfl | rfl | rfl | rfl | rfl | rfl <;> rfl) ⟨Nat.le_of_ble_eq_true rfl, Nat.le_of_ble_eq_true rfl⟩ dX2_init_29 (fun q4 => ?_)
  refine g_dup X dX2_init_32 rfl ?_
  refine g_callI X hao (As := []) (st := [.ref q4, ii (0 + 1), .ref q1]) (L := (([(h0, .inr (2, [.ref q1, ii 0]))] ++ [(q1, .inl (K.2.2.2, 4, .inr (.inr (.inr (.inr (va_up (fun _ => none) 0 (some (a3 0))))))))]) ++ c8 K a3 ((g6, zA, zA), (g6, zA, zA), (g4, zA, zA), 0, gT, 0, (gT, zA, zA), wP.2, zA))) (X8_init_ok K l q4 g6 g4 gT wP hg6 hg4 hgT hP) ggX2_init_X8_init wd_X2_init_ini8 wd_X2_init_ml21 wd_X2_init_im8 rfl rfl 0 (by decide +kernel) ⟨Nat.le_of_ble_eq_true rfl, Nat.le_of_ble_eq_true rfl⟩ ⟨Nat.le_of_ble_eq_true rfl, Nat.le_of_ble_eq_true rfl⟩ rfl rfl (Nat.le_of_ble_eq_true rfl) dX2_init_33 rfl (fun a5 ea5 => ?_)
  refine g_stk (st' := [.ref (a5 0), ii (0 + 1), .ref q1]) (by rw [ea5]) ?_
  refine g_aast X (by decide) (by decide) 1 2 25 dX2_init_36 rfl rfl rfl rfl (ws' := ((([(h0, .inr (2, [.ref q1, ii 0]))] ++ [(q1, .inl (K.2.2.2, 4, .inr (.inr (.inr (.inr (va_up (va_up (fun _ => none) 0 (some (a3 0))) 1 (some (a5 0))))))))]) ++ c8 K a3 ((g6, zA, zA), (g6, zA, zA), (g4, zA, zA), 0, gT, 0, (gT, zA, zA), wP.2, zA)) ++ c8 K a5 ((g6, zA, zA), (g6, zA, zA), (g4, zA, zA), 0, gT, 0, (gT, zA, zA), wP.2, zA))) rfl ?_
  refine g_iinc X (lv' := [(1, ii ((0 + 1) + 1)), (0, .ref h0)]) dX2_init_37 0 rfl (by decide) rfl ?_
  refine g_goto X 19 dX2_init_40 (by decide) ?_
  refine g_iload_n X dX2_init_19 0 rfl rfl ?_
  refine g_iconst X dX2_init_20 ?_
  refine g_icmp_ge X (show brLT ((0 + 1) + 1) 4 (some ()) none = some () by decide) 43 dX2_init_21 (by decide) (fun _ => ?_) (fun h => nomatch h)
  refine g_aload_n X dX2_init_24 1 rfl rfl ?_
  refine g_get X (v := .ref q1) 0 0 dX2_init_25 rfl rfl iw_X2_init_X2 (by decide) fl_X2_init_11 rfl ?_
  refine g_iload_n X dX2_init_28 0 rfl rfl ?_
  refine g_new X (ci := 8) (fs := [.null, .null, .null, ii 0, .null, ii 0, .null, .null, .null]) (ty := tyX8) iw_X2_init_X8 tyX8_ok wd_X2_init_cl9 wd_X2_init_inst8 wd_X2_init_ini8 rfl (fun j hj => by rcases (show j = 0 ∨ j = 1 ∨ j = 2 ∨ j = 3 ∨ j = 4 ∨ j = 5 ∨ j = 6 ∨ j = 7 ∨ j = 8 by omega) with rfl | rfl | rfl | rfl | rfl | rfl | rfl | rfl | rfl <;> rfl) ⟨Nat.le_of_ble_eq_true rfl, Nat.le_of_ble_eq_true rfl⟩ dX2_init_29 (fun q6 => ?_)
  refine g_dup X dX2_init_32 rfl ?_
  refine g_callI X hao (As := []) (st := [.ref q6, ii ((0 + 1) + 1), .ref q1]) (L := ((([(h0, .inr (2, [.ref q1, ii 0]))] ++ [(q1, .inl (K.2.2.2, 4, .inr (.inr (.inr (.inr (va_up (va_up (fun _ => none) 0 (some (a3 0))) 1 (some (a5 0))))))))]) ++ c8 K a3 ((g6, zA, zA), (g6, zA, zA), (g4, zA, zA), 0, gT, 0, (gT, zA, zA), wP.2, zA)) ++ c8 K a5 ((g6, zA, zA), (g6, zA, zA), (g4, zA, zA), 0, gT, 0, (gT, zA, zA), wP.2, zA))) (X8_init_ok K l q6 g6 g4 gT wP hg6 hg4 hgT hP) ggX2_init_X8_init wd_X2_init_ini8 wd_X2_init_ml21 wd_X2_init_im8 rfl rfl 0 (by decide +kernel) ⟨Nat.le_of_ble_eq_true rfl, Nat.le_of_ble_eq_true rfl⟩ ⟨Nat.le_of_ble_eq_true rfl, Nat.le_of_ble_eq_true rfl⟩ rfl rfl (Nat.le_of_ble_eq_true rfl) dX2_init_33 rfl (fun a7 ea7 => ?_)
  refine g_stk (st' := [.ref (a7 0), ii ((0 + 1) + 1), .ref q1]) (by rw [ea7]) ?_
  refine g_aast X (by decide) (by decide) 1 2 48 dX2_init_36 rfl rfl rfl rfl (ws' := (((([(h0, .inr (2, [.ref q1, ii 0]))] ++ [(q1, .inl (K.2.2.2, 4, .inr (.inr (.inr (.inr (va_up (va_up (va_up (fun _ => none) 0 (some (a3 0))) 1 (some (a5 0))) 2 (some (a7 0))))))))]) ++ c8 K a3 ((g6, zA, zA), (g6, zA, zA), (g4, zA, zA), 0, gT, 0, (gT, zA, zA), wP.2, zA)) ++ c8 K a5 ((g6, zA, zA), (g6, zA, zA), (g4, zA, zA), 0, gT, 0, (gT, zA, zA), wP.2, zA)) ++ c8 K a7 ((g6, zA, zA), (g6, zA, zA), (g4, zA, zA), 0, gT, 0, (gT, zA, zA), wP.2, zA))) rfl ?_
  refine g_iinc X (lv' := [(1, ii (((0 + 1) + 1) + 1)), (0, .ref h0)]) dX2_init_37 0 rfl (by decide) rfl ?_
  refine g_goto X 19 dX2_init_40 (by decide) ?_
  refine g_iload_n X dX2_init_19 0 rfl rfl ?_
  refine g_iconst X dX2_init_20 ?_
  refine g_icmp_ge X (show brLT (((0 + 1) + 1) + 1) 4 (some ()) none = some () by decide) 43 dX2_init_21 (by decide) (fun _ => ?_) (fun h => nomatch h)
  refine g_aload_n X dX2_init_24 1 rfl rfl ?_
  refine g_get X (v := .ref q1) 0 0 dX2_init_25 rfl rfl iw_X2_init_X2 (by decide) fl_X2_init_11 rfl ?_
  refine g_iload_n X dX2_init_28 0 rfl rfl ?_
  refine g_new X (ci := 8) (fs := [.null, .null, .null, ii 0, .null, ii 0, .null, .null, .null]) (ty := tyX8) iw_X2_init_X8 tyX8_ok wd_X2_init_cl9 wd_X2_init_inst8 wd_X2_init_ini8 rfl (fun j hj => by rcases (show j = 0 ∨ j = 1 ∨ j = 2 ∨ j = 3 ∨ j = 4 ∨ j = 5 ∨ j = 6 ∨ j = 7 ∨ j = 8 by omega) with rfl | rfl | rfl | rfl | rfl | rfl | rfl | rfl | rfl <;> rfl) ⟨Nat.le_of_ble_eq_true rfl, Nat.le_of_ble_eq_true rfl⟩ dX2_init_29 (fun q8 => ?_)
  refine g_dup X dX2_init_32 rfl ?_
  refine g_callI X hao (As := []) (st := [.ref q8, ii (((0 + 1) + 1) + 1), .ref q1]) (L := (((([(h0, .inr (2, [.ref q1, ii 0]))] ++ [(q1, .inl (K.2.2.2, 4, .inr (.inr (.inr (.inr (va_up (va_up (va_up (fun _ => none) 0 (some (a3 0))) 1 (some (a5 0))) 2 (some (a7 0))))))))]) ++ c8 K a3 ((g6, zA, zA), (g6, zA, zA), (g4, zA, zA), 0, gT, 0, (gT, zA, zA), wP.2, zA)) ++ c8 K a5 ((g6, zA, zA), (g6, zA, zA), (g4, zA, zA), 0, gT, 0, (gT, zA, zA), wP.2, zA)) ++ c8 K a7 ((g6, zA, zA), (g6, zA, zA), (g4, zA, zA), 0, gT, 0, (gT, zA, zA), wP.2, zA))) (X8_init_ok K l q8 g6 g4 gT wP hg6 hg4 hgT hP) ggX2_init_X8_init wd_X2_init_ini8 wd_X2_init_ml21 wd_X2_init_im8 rfl rfl 0 (by decide +kernel) ⟨Nat.le_of_ble_eq_true rfl, Nat.le_of_ble_eq_true rfl⟩ ⟨Nat.le_of_ble_eq_true rfl, Nat.le_of_ble_eq_true rfl⟩ rfl rfl (Nat.le_of_ble_eq_true rfl) dX2_init_33 rfl (fun a9 ea9 => ?_)
  refine g_stk (st' := [.ref (a9 0), ii (((0 + 1) + 1) + 1), .ref q1]) (by rw [ea9]) ?_
  refine g_aast X (by decide) (by decide) 1 2 71 dX2_init_36 rfl rfl rfl rfl (ws' := ((((([(h0, .inr (2, [.ref q1, ii 0]))] ++ [(q1, .inl (K.2.2.2, 4, .inr (.inr (.inr (.inr (va_up (va_up (va_up (va_up (fun _ => none) 0 (some (a3 0))) 1 (some (a5 0))) 2 (some (a7 0))) 3 (some (a9 0))))))))]) ++ c8 K a3 ((g6, zA, zA), (g6, zA, zA), (g4, zA, zA), 0, gT, 0, (gT, zA, zA), wP.2, zA)) ++ c8 K a5 ((g6, zA, zA), (g6, zA, zA), (g4, zA, zA), 0, gT, 0, (gT, zA, zA), wP.2, zA)) ++ c8 K a7 ((g6, zA, zA), (g6, zA, zA), (g4, zA, zA), 0, gT, 0, (gT, zA, zA), wP.2, zA)) ++ c8 K a9 ((g6, zA, zA), (g6, zA, zA), (g4, zA, zA), 0, gT, 0, (gT, zA, zA), wP.2, zA))) rfl ?_
  refine g_iinc X (lv' := [(1, ii ((((0 + 1) + 1) + 1) + 1)), (0, .ref h0)]) dX2_init_37 0 rfl (by decide) rfl ?_
  refine g_goto X 19 dX2_init_40 (by decide) ?_
  refine g_iload_n X dX2_init_19 0 rfl rfl ?_
  refine g_iconst X dX2_init_20 ?_
  refine g_icmp_ge X (show brLT ((((0 + 1) + 1) + 1) + 1) 4 none (some ()) = some () by decide) 43 dX2_init_21 (by decide) (fun h => nomatch h) (fun _ => ?_)
  refine g_refs (L := [(h0, .inr (2, [.ref q1, ii 0]))]) (Z := c8 K a3 ((g6, zA, zA), (g6, zA, zA), (g4, zA, zA), 0, gT, 0, (gT, zA, zA), wP.2, zA) ++ (c8 K a5 ((g6, zA, zA), (g6, zA, zA), (g4, zA, zA), 0, gT, 0, (gT, zA, zA), wP.2, zA) ++ (c8 K a7 ((g6, zA, zA), (g6, zA, zA), (g4, zA, zA), 0, gT, 0, (gT, zA, zA), wP.2, zA) ++ (c8 K a9 ((g6, zA, zA), (g6, zA, zA), (g4, zA, zA), 0, gT, 0, (gT, zA, zA), wP.2, zA))))) (f := (va_up (va_up (va_up (va_up (fun _ => none) 0 (some (a3 0))) 1 (some (a5 0))) 2 (some (a7 0))) 3 (some (a9 0)))) (g := fun i => some (ash (acons h0 (acons q1 (acat 23 a3 (acat 23 a5 (acat 23 a7 (acat 23 a9 (fun _ => 0))))))) (2 + 23 * i) 0)) rfl (fun i hi => by rcases lt4 hi with rfl | rfl | rfl | rfl <;> rfl) ?_
  exact g_iend X hr hlk (acons h0 (acons q1 (acat 23 a3 (acat 23 a5 (acat 23 a7 (acat 23 a9 (fun _ => 0))))))) rfl (List.Perm.of_eq rfl) dX2_init_43
