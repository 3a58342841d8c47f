theorem nest_in : ∀ q ∈ nestL, Cond.methodLinkNest q.1 q.2.1 q.2.2 "CallMigrator" ∈ lw_tbl := by decide +kernel
theorem ao_in : Cond.arrayOver (.object "CallMigrator$State") ∈ lw_tbl := by decide +kernel
theorem aci_in : Cond.arrayClass .int ∈ lw_tbl := by decide +kernel
theorem acz_in : Cond.arrayClass .boolean ∈ lw_tbl := by decide +kernel
theorem arr_known {s : State} {args : Array Value} {ty : FieldType} (h : (Cond.arrayClass ty).before args s = true) : ∃ cA : ClassId, ArrOfT s cA ty ∧ s.vm.findClass ("[" ++ ty.toString) = some cA := by
  obtain ⟨cA, kA, comp, h1, h2, h3⟩ := Cond.arrayClass_spec h
  exact ⟨cA, fun n z => ⟨fun k h => (by cases h), kA, h2, comp, h3⟩, h1⟩
theorem arr_known_o {s : State} {args : Array Value} {C : String} (h : (Cond.arrayOver (.object C)).before args s = true) : ∃ cA : ClassId, ArrOfT s cA (.object C) ∧ va_RA s cA (.object C) := by
  obtain ⟨comp, cA, kA, h1, h2, h3, h4, h5⟩ := Cond.arrayOver_spec h
  exact ⟨cA, fun n z => ⟨fun k h => (by cases h), kA, h3, comp, h4⟩, kA, comp, h3, h4, h1, h5⟩
theorem inst_in : Cond.instantiable RX0 2 ∈ lw_tbl ∧ Cond.instantiable RX1 4 ∈ lw_tbl ∧ Cond.instantiable RX2 2 ∈ lw_tbl ∧ Cond.instantiable RX3 3 ∈ lw_tbl ∧ Cond.instantiable RX4 3 ∈ lw_tbl ∧ Cond.instantiable RX5 3 ∈ lw_tbl ∧ Cond.instantiable RX6 4 ∈ lw_tbl ∧ Cond.instantiable RX7 4 ∈ lw_tbl ∧ Cond.instantiable RX8 9 ∈ lw_tbl ∧ Cond.instantiable RX9 8 ∈ lw_tbl ∧ Cond.instantiable RX10 23 ∈ lw_tbl := ⟨by decide +kernel, by decide +kernel, by decide +kernel, by decide +kernel, by decide +kernel, by decide +kernel, by decide +kernel, by decide +kernel, by decide +kernel, by decide +kernel, by decide +kernel⟩
theorem lwd_cl7 : Cond.classLink RL 7 RX9 ∈ wsL_law := by decide +kernel
theorem lwd_cl10 : Cond.classLink RL 10 RX10 ∈ wsL_law := by decide +kernel
theorem lwd_in9 : Cond.instantiable RX9 8 ∈ wsL_law := by decide +kernel
theorem lwd_in10 : Cond.instantiable RX10 23 ∈ wsL_law := by decide +kernel
theorem lwd_ini9 : Cond.initialized RX9 ∈ wsL_law := by decide +kernel
theorem lwd_ini10 : Cond.initialized RX10 ∈ wsL_law := by decide +kernel
theorem lwd_ml9 : Cond.methodLink RL 9 yX9_init ∈ wsL_law := by decide +kernel
theorem lwd_ml12 : Cond.methodLink RL 12 yX10_init ∈ wsL_law := by decide +kernel
theorem lwd_im9 : Cond.instanceMethod yX9_init ∈ wsL_law := by decide +kernel
theorem lwd_im10 : Cond.instanceMethod yX10_init ∈ wsL_law := by decide +kernel
abbrev iniC (g6 g4 gT : Arr) (P : Pg) : CM := (((g6, zA, zA), (g6, zA, zA), (g4, zA, zA), 0, gT, 0, (gT, zA, zA), P, zA), ((fun _ => ((g6, zA, zA), (g6, zA, zA), (g4, zA, zA), 0, gT, 0, (gT, zA, zA), P, zA)), 0, (fun i => i)), (zA, 0, 0), (0, zA, zA, zA), (zA, 0, zA, 0), (zA, 0), ((0, zA, zA, zA), zA, zA), zA)
abbrev iniM : MT := (allI, zA, 0, zA, zA, 0, zA, 0, zA, 0, 0, zA, 0, zA, 0, zA, zA, zA, 0, 0, zA, zA, 0)
set_option maxHeartbeats 8000000 in
set_option maxRecDepth 100000 in
theorem whole_start_rel {REL : Int → CM → MT → Prop} (hsim : SimAll REL) (g6 g4 gT : Arr) (wP : Int × Pg) (hg6 : J7_fill_53178 6 zA 1 = some g6) (hg4 : J7_fill_53178 4 zA 1 = some g4) (hgT : J7_fill_53178 6 zA (-1) = some gT) (hP : X6_add (0, zA, zA, zA) 0 0 0 = some wP) (hini : REL 0 (iniC g6 g4 gT wP.2) iniM) {p : Program} {e : Env} {s : State} {m : MethodId} {below : List Frame} {meth : Method} {c : Code} (l : Launch) {b L : Nat} {xs : Nat → Int32} (hL : L ≤ 2048) (C0 : lw_At p s m meth c b L xs) : W p l e room_1 s m #[Value.ref b] below meth c s.heap [] 0 0 (lw_Z below #[Value.ref b] s) (entryFrame m ([Value.ref b] : List Value).toArray 4) := by
  obtain ⟨hx, hb, hr, hml, hown, hts0, hX, hbl, hlocks, hgv⟩ := C0
  obtain ⟨cc0, s0, kn0⟩ := u_known (C := RX0) (T := TX0) (N := 2) (n := 2) hts0 inX0 (hts0 _ inst_in.1)
  obtain ⟨cc1, s1, kn1⟩ := u_known (C := RX1) (T := TX1) (N := 4) (n := 4) hts0 inX1 (hts0 _ inst_in.2.1)
  obtain ⟨cc2, s2, kn2⟩ := u_known (C := RX2) (T := TX2) (N := 2) (n := 2) hts0 inX2 (hts0 _ inst_in.2.2.1)
  obtain ⟨cc3, s3, kn3⟩ := u_known (C := RX3) (T := TX3) (N := 3) (n := 3) hts0 inX3 (hts0 _ inst_in.2.2.2.1)
  obtain ⟨cc4, s4, kn4⟩ := u_known (C := RX4) (T := TX4) (N := 3) (n := 3) hts0 inX4 (hts0 _ inst_in.2.2.2.2.1)
  obtain ⟨cc5, s5, kn5⟩ := u_known (C := RX5) (T := TX5) (N := 3) (n := 3) hts0 inX5 (hts0 _ inst_in.2.2.2.2.2.1)
  obtain ⟨cc6, s6, kn6⟩ := u_known (C := RX6) (T := TX6) (N := 4) (n := 4) hts0 inX6 (hts0 _ inst_in.2.2.2.2.2.2.1)
  obtain ⟨cc7, s7, kn7⟩ := u_known (C := RX7) (T := TX7) (N := 4) (n := 4) hts0 inX7 (hts0 _ inst_in.2.2.2.2.2.2.2.1)
  obtain ⟨cc8, s8, kn8⟩ := u_known (C := RX8) (T := TX8) (N := 9) (n := 9) hts0 inX8 (hts0 _ inst_in.2.2.2.2.2.2.2.2.1)
  obtain ⟨cc9, s9, kn9⟩ := u_known (C := RX9) (T := TX9) (N := 8) (n := 8) hts0 inX9 (hts0 _ inst_in.2.2.2.2.2.2.2.2.2.1)
  obtain ⟨cc10, s10, kn10⟩ := u_known (C := RX10) (T := TX10) (N := 23) (n := 23) hts0 inX10 (hts0 _ inst_in.2.2.2.2.2.2.2.2.2.2)
  obtain ⟨cI, aI1, aI2⟩ := arr_known (hts0 _ aci_in)
  obtain ⟨cZ, aZ1, aZ2⟩ := arr_known (hts0 _ acz_in)
  obtain ⟨cS, aS1, aS2⟩ := arr_known_o (hts0 _ ao_in)
  obtain ⟨K, hK⟩ : ∃ K : KE, va_K K.1 vwCl (kT K) s := by
    refine ⟨((fun k => [cc0, cc1, cc2, cc3, cc4, cc5, cc6, cc7, cc8, cc9, cc10].getD k cc0, fun k => [s0, s1, s2, s3, s4, s5, s6, s7, s8, s9, s10].getD k s0), cI, cZ, cS), fun k q hq => ?_, fun k q hq => ?_⟩
    · match k, hq with
      | 0, hq => cases hq; exact kn0
      | 1, hq => cases hq; exact kn1
      | 2, hq => cases hq; exact kn2
      | 3, hq => cases hq; exact kn3
      | 4, hq => cases hq; exact kn4
      | 5, hq => cases hq; exact kn5
      | 6, hq => cases hq; exact kn6
      | 7, hq => cases hq; exact kn7
      | 8, hq => cases hq; exact kn8
      | 9, hq => cases hq; exact kn9
      | 10, hq => cases hq; exact kn10
      | k + 11, hq => simp [vwCl] at hq
    · match k, hq with
      | 0, hq => cases hq; exact ⟨aI1, aI2⟩
      | 1, hq => cases hq; exact ⟨aZ1, aZ2⟩
      | 2, hq => cases hq; exact ⟨aS1, aS2⟩
      | k + 3, hq => simp at hq
  have hao : AO s := va_AO.of (hts0 _ ao_in)
  have hnw : NW s := fun q hq => va_Nw.of rfl (hts0 _ (nest_in q hq))
  have X : CX p s m #[Value.ref b] c K.1 vwCl (kT K) (fun q : Nat => s.heap.size ≤ q) cL_law 4 wsL_law RL := ⟨hx, hb, hml, hown, fun w h => hts0 w (wsL_law_in w h), hK, fun _ h => h, hnw⟩
  rw [lg_entry_eq]
  have hG : GO p l e room_1 s m #[Value.ref b] below meth c K.1 vwCl (fun q : Nat => s.heap.size ≤ q) (lw_Z below #[Value.ref b] s) 4 0 0 0 [(0, .ref b)] [] [] := by
    refine g_new X (ci := 9) (fs := [.null, .null, .null, .null, .null, .null, .null, .null]) (ty := tyX9) inlX9 tyX9_ok lwd_cl7 lwd_in9 lwd_ini9 rfl (fun j hj => by rcases (show j = 0 ∨ j = 1 ∨ j = 2 ∨ j = 3 ∨ j = 4 ∨ j = 5 ∨ j = 6 ∨ j = 7 by omega) with rfl | rfl | rfl | rfl | rfl | rfl | rfl | rfl <;> rfl) ⟨Nat.le_of_ble_eq_true rfl, Nat.le_of_ble_eq_true rfl⟩ dL_law_0 (fun q1 => ?_)
    refine g_dup X dL_law_3 rfl ?_
    refine g_callI X hao (As := []) (st := [.ref q1]) (L := []) (X9_init_ok K l q1 g6 g4 gT wP hg6 hg4 hgT hP) ggL_law_X9_init lwd_ini9 lwd_ml9 lwd_im9 rfl rfl 0 (by decide +kernel) ⟨Nat.le_of_ble_eq_true rfl, Nat.le_of_ble_eq_true rfl⟩ ⟨Nat.le_of_ble_eq_true rfl, Nat.le_of_ble_eq_true rfl⟩ rfl rfl (Nat.le_of_ble_eq_true rfl) dL_law_4 rfl (fun a ea => ?_)
    refine g_stk (st' := [.ref (a 0)]) (by rw [ea]) ?_
    refine g_astore_n X (lv' := [(1, .ref (a 0)), (0, .ref b)]) dL_law_7 rfl (by decide) rfl ?_
    refine g_new X (ci := 10) (fs := [.null, .null, ii 0, .null, .null, ii 0, .null, ii 0, .null, ii 0, ii 0, .null, ii 0, .null, ii 0, .null, .null, .null, ii 0, ii 0, .null, .null, ii 0]) (ty := tyX10) inlX10 tyX10_ok lwd_cl10 lwd_in10 lwd_ini10 rfl (fun j hj => by rcases (show j = 0 ∨ j = 1 ∨ j = 2 ∨ j = 3 ∨ j = 4 ∨ j = 5 ∨ j = 6 ∨ j = 7 ∨ j = 8 ∨ j = 9 ∨ j = 10 ∨ j = 11 ∨ j = 12 ∨ j = 13 ∨ j = 14 ∨ j = 15 ∨ j = 16 ∨ j = 17 ∨ j = 18 ∨ j = 19 ∨ j = 20 ∨ j = 21 ∨ j = 22 by omega) with rfl | rfl | rfl | rfl | rfl | rfl | rfl | rfl | rfl | rfl | rfl | rfl | rfl | rfl | rfl | rfl | rfl | rfl | rfl | rfl | rfl | rfl | rfl <;> rfl) ⟨Nat.le_of_ble_eq_true rfl, Nat.le_of_ble_eq_true rfl⟩ dL_law_8 (fun q2 => ?_)
    refine g_dup X dL_law_11 rfl ?_
    refine g_callI X hao (As := []) (st := [.ref q2]) (L := c9 K a (iniC g6 g4 gT wP.2)) (X10_init_ok K l q2) ggL_law_X10_init lwd_ini10 lwd_ml12 lwd_im10 rfl rfl 0 (by decide +kernel) ⟨Nat.le_of_ble_eq_true rfl, Nat.le_of_ble_eq_true rfl⟩ ⟨Nat.le_of_ble_eq_true rfl, Nat.le_of_ble_eq_true rfl⟩ rfl rfl (Nat.le_of_ble_eq_true rfl) dL_law_12 rfl (fun d ed => ?_)
    refine g_stk (st' := [.ref (d 0)]) (by rw [ed]) ?_
    refine g_astore_n X (lv' := [(2, .ref (d 0)), (1, .ref (a 0)), (0, .ref b)]) dL_law_15 rfl (by decide) rfl ?_
    refine g_iconst X dL_law_16 ?_
    refine g_istore_n X (lv' := [(3, ii 0), (2, .ref (d 0)), (1, .ref (a 0)), (0, .ref b)]) dL_law_17 rfl (by decide) rfl ?_
    refine g_sub (lv' := [(0, .ref b), (1, .ref (a 0)), (2, .ref (d 0)), (3, ii 0)]) [3, 2, 1, 0] rfl ?_
    refine g_widen (k := 600000) (n := 7302250) (Nat.le_of_ble_eq_true rfl) (Nat.le_of_ble_eq_true rfl) ?_
    refine g_world (ws' := c9 K a (iniC g6 g4 gT wP.2) ++ cM K d iniM) rfl ?_
    exact law_loop hsim K l a d X hr hlocks hX hbl hL (L + 2) 0 _ _ (by decide) (by omega) (by omega) hini
  exact hG s.heap [] _ (fun k q h => by simp at h) ⟨fun i j p q h => by simp at h, fun k q h => by simp at h⟩ va_S.rf (lv_entry [Value.ref b] (n := 4) (Nat.le_of_ble_eq_true rfl))
