/-! a part of a world that a call takes out and puts back -/
def SG (ws wc ws' wc' : va_W) : Prop := ∃ r : va_W, ws.Perm (wc ++ r) ∧ ws'.Perm (wc' ++ r) ∧ wc'.map (fun q => q.1) = wc.map (fun q => q.1)
theorem SG.none {ws : va_W} : SG ws [] ws [] := ⟨ws, List.Perm.refl _, List.Perm.refl _, rfl⟩
theorem SG.all {ws ws' : va_W} (h : ws'.map (fun q => q.1) = ws.map (fun q => q.1)) : SG ws ws ws' ws' := ⟨[], by simp, by simp, h⟩
theorem SG.one {ws wc ws' wc' : va_W} (L Z : va_W) (h1 : ws = L ++ (wc ++ Z)) (h2 : ws' = L ++ (wc' ++ Z)) (h : wc'.map (fun q => q.1) = wc.map (fun q => q.1)) : SG ws wc ws' wc' := by
  subst h1; subst h2
  exact ⟨L ++ Z, List.perm_append_comm_assoc L wc Z, List.perm_append_comm_assoc L wc' Z, h⟩
theorem sg_two_perm (L w1 M w2 Z : va_W) : (L ++ (w1 ++ (M ++ (w2 ++ Z)))).Perm ((w1 ++ w2) ++ (L ++ (M ++ Z))) := by
  refine (List.perm_append_comm_assoc L w1 _).trans ?_
  rw [List.append_assoc]
  refine List.Perm.append_left w1 ?_
  refine (List.Perm.append_left L (List.perm_append_comm_assoc M w2 Z)).trans ?_
  exact List.perm_append_comm_assoc L w2 (M ++ Z)
theorem SG.two {ws w1 w2 ws' w1' w2' : va_W} (L M Z : va_W) (h1 : ws = L ++ (w1 ++ (M ++ (w2 ++ Z)))) (h2 : ws' = L ++ (w1' ++ (M ++ (w2' ++ Z)))) (h : (w1' ++ w2').map (fun q => q.1) = (w1 ++ w2).map (fun q => q.1)) : SG ws (w1 ++ w2) ws' (w1' ++ w2') := by
  subst h1; subst h2
  exact ⟨L ++ (M ++ Z), sg_two_perm L w1 M w2 Z, sg_two_perm L w1' M w2' Z, h⟩
theorem SG.swap {ws w1 w2 ws' w1' w2' : va_W} (hl : w1'.map (fun q => q.1) = w1.map (fun q => q.1)) (hr : w2'.map (fun q => q.1) = w2.map (fun q => q.1)) (h : SG ws (w1 ++ w2) ws' (w1' ++ w2')) : SG ws (w2 ++ w1) ws' (w2' ++ w1') := by
  obtain ⟨r, a, b, -⟩ := h
  exact ⟨r, a.trans (List.Perm.append_right r List.perm_append_comm), b.trans (List.Perm.append_right r List.perm_append_comm), by rw [List.map_append, List.map_append, hl, hr]⟩
theorem va_P.iff {D : va_G} {cl : List vw_C} {ws : va_W} {H : Heap} : va_P D cl ws H ↔ ∀ q ∈ ws, va_at D cl q H :=
  ⟨fun h q hq => by obtain ⟨k, hk⟩ := List.getElem?_of_mem hq; exact h k q hk, fun h k q hk => h q (List.mem_of_getElem? hk)⟩
theorem va_D.nd {A : Nat → Prop} {ws : va_W} (h : va_D A ws) : (ws.map (fun q => q.1)).Nodup := by
  unfold List.Nodup
  rw [List.pairwise_iff_getElem]
  intro i j hi hj hij he
  rw [List.length_map] at hi hj
  rw [List.getElem_map, List.getElem_map] at he
  have := h.1 i j _ _ (List.getElem?_eq_getElem hi) (List.getElem?_eq_getElem hj) he
  omega
theorem va_D.of_nd {A : Nat → Prop} {ws : va_W} (h : (ws.map (fun q => q.1)).Nodup) (hA : ∀ q ∈ ws, A q.1) : va_D A ws := by
  unfold List.Nodup at h
  rw [List.pairwise_iff_getElem] at h
  refine ⟨fun i j p q hi hj hpq => ?_, fun k q hk => hA q (List.mem_of_getElem? hk)⟩
  obtain ⟨hi1, hi2⟩ := List.getElem?_eq_some_iff.mp hi
  obtain ⟨hj1, hj2⟩ := List.getElem?_eq_some_iff.mp hj
  rcases Nat.lt_trichotomy i j with hlt | heq | hgt
  · exact absurd (by rw [List.getElem_map, List.getElem_map, hi2, hj2]; exact hpq) (h i j (by rw [List.length_map]; exact hi1) (by rw [List.length_map]; exact hj1) hlt)
  · exact heq
  · exact absurd (by rw [List.getElem_map, List.getElem_map, hi2, hj2]; exact hpq.symm) (h j i (by rw [List.length_map]; exact hj1) (by rw [List.length_map]; exact hi1) hgt)
theorem va_D.in {A : Nat → Prop} {ws : va_W} (h : va_D A ws) : ∀ q ∈ ws, A q.1 := fun q hq => by
  obtain ⟨k, hk⟩ := List.getElem?_of_mem hq
  exact h.2 k q hk
theorem va_A.iff {ws : va_W} {sz q : Nat} : va_A ws sz q ↔ q ∈ ws.map (fun q => q.1) ∨ sz ≤ q := by
  unfold va_A
  constructor
  · rintro (⟨k, e, h⟩ | h)
    · exact Or.inl (List.mem_map.mpr ⟨_, List.mem_of_getElem? h, rfl⟩)
    · exact Or.inr h
  · rintro (h | h)
    · obtain ⟨x, hx, rfl⟩ := List.mem_map.mp h
      obtain ⟨k, hk⟩ := List.getElem?_of_mem hx
      exact Or.inl ⟨k, x.2, hk⟩
    · exact Or.inr h
theorem SG.sub {ws wc ws' wc' : va_W} (h : SG ws wc ws' wc') {D : va_G} {cl : List vw_C} {H : Heap} (hP : va_P D cl ws H) : va_P D cl wc H := by
  obtain ⟨r, a, -, -⟩ := h
  exact va_P.iff.mpr (fun q hq => va_P.iff.mp hP q (a.symm.subset (List.mem_append_left _ hq)))
theorem SG.subD {ws wc ws' wc' : va_W} (h : SG ws wc ws' wc') {A : Nat → Prop} (hD : va_D A ws) : va_D (fun _ => True) wc := by
  obtain ⟨r, a, -, -⟩ := h
  have h1 := (a.map (fun q => q.1)).nodup_iff.mp hD.nd
  rw [List.map_append] at h1
  exact va_D.of_nd (List.nodup_append.mp h1).1 (fun _ _ => trivial)
theorem SG.subA {ws wc ws' wc' : va_W} (h : SG ws wc ws' wc') {A : Nat → Prop} (hD : va_D A ws) {sz : Nat} (hA : ∀ q, sz ≤ q → A q) : ∀ q, va_A wc sz q → A q := by
  obtain ⟨r, a, -, -⟩ := h
  intro q hq
  rcases va_A.iff.mp hq with h | h
  · obtain ⟨x, hx, rfl⟩ := List.mem_map.mp h
    exact hD.in x (a.symm.subset (List.mem_append_left _ hx))
  · exact hA q h
theorem SG.back {ws wc ws' wc' : va_W} (h : SG ws wc ws' wc') {A : Nat → Prop} {D : va_G} {cl : List vw_C} {H H1 : Heap} (hP : va_P D cl ws H) (hD : va_D A ws) (hk : ∀ q : Nat, q < H.size → ¬ va_A wc H.size q → H1[q]? = H[q]?) (hP1 : va_P D cl wc' H1) : va_P D cl ws' H1 ∧ va_D A ws' := by
  obtain ⟨r, a, b, hm⟩ := h
  have n1 := (a.map (fun q => q.1)).nodup_iff.mp hD.nd
  rw [List.map_append] at n1
  have n2 := (List.nodup_append.mp n1).2.2
  have hA : ∀ x ∈ (wc ++ r).map (fun q => q.1), A x := fun x hx => by
    obtain ⟨y, hy, rfl⟩ := List.mem_map.mp hx
    exact hD.in y (a.symm.subset hy)
  refine ⟨va_P.iff.mpr (fun q hq => ?_), va_D.of_nd ?_ (fun q hq => ?_)⟩
  · rcases List.mem_append.mp (b.subset hq) with h | h
    · exact va_P.iff.mp hP1 q h
    · have h0 := va_P.iff.mp hP q (a.symm.subset (List.mem_append_right _ h))
      refine h0.kept (hk q.1 h0.lt (fun z => ?_))
      rcases va_A.iff.mp z with z | z
      · exact n2 _ z _ (List.mem_map.mpr ⟨q, h, rfl⟩) rfl
      · have := h0.lt; omega
  · refine (b.map (fun q => q.1)).nodup_iff.mpr ?_
    rw [List.map_append, hm]
    exact n1
  · refine hA _ ?_
    have := (b.map (fun q => q.1)).subset (List.mem_map.mpr ⟨q, hq, rfl⟩)
    rw [List.map_append, hm, ← List.map_append] at this
    exact this
/-! contracts -/
def PC (D : va_G) (cl : List vw_C) (tys : List (ClassId × FieldType)) (av : List Value) (wc : va_W) (sz : Nat) : Array Value → State → Prop := va_Pc av (fun U => U.heap.size = sz ∧ va_P D cl wc U.heap ∧ va_K D cl tys U ∧ va_D (fun _ => True) wc ∧ NW U)
def QC (D : va_G) (cl : List vw_C) (rv : Option Value) (wc wc' : va_W) (sz : Nat) : Array Value → State → Outcome → State → Prop := fun _ st oc t => (oc = .returned rv ∧ va_P D cl wc' t.heap) ∧ va_F (va_A wc sz) st t
/-- from any heap that holds wc the method answers rv, and the heap holds wc' -/
def CT (l : Launch) (D : va_G) (cl : List vw_C) (tys : List (ClassId × FieldType)) (y : MethodName) (ws : List Cond) (rm : Room) (av : List Value) (rv : Option Value) (wc wc' : va_W) : Prop :=
  ∀ sz : Nat, Met l y ws rm (PC D cl tys av wc sz) (QC D cl rv wc wc' sz) 0 0 (va_A wc sz)
theorem PC.blind {D : va_G} {cl : List vw_C} {tys : List (ClassId × FieldType)} {av : List Value} {wc : va_W} {sz : Nat} : FrameBlind (PC D cl tys av wc sz) := fun a U g mk h => by
  obtain ⟨h0, h1, hP, hK, hD, hN⟩ := h
  exact ⟨h0, h1, hP, va_K.moved (u := U) (U := U.calling g mk a) (Vm.Alike.refl U.vm) hK, hD, fun q hq => va_Nw.same rfl rfl (hN q hq)⟩
section GoC
variable {p : Program} {l : Launch} {e : Env} {R : Room} {s : State} {m : MethodId} {args : Array Value} {below : List Frame} {meth : Method} {c : Code} {D : va_G} {cl : List vw_C} {A : Nat → Prop} {Q : State → Prop} {nL ck cn : Nat}
variable {tys : List (ClassId × FieldType)} {cc : ByteArray} {Ts : List Cond} {own : String} {pc : Nat} {lv : List (Nat × Value)} {st st0 : List Value} {ws wc ws' wc' : va_W} {rv : Option Value} {aa : Array Value} {st1 : List Value}
theorem go_of_run (X : CX p s m args c D cl tys A cc nL Ts own) (hsg : SG ws wc ws' wc') (hrun : ∀ (H : Heap) (locs : List Loc) (ls : Array Slot), va_P D cl ws H → va_D A ws → va_S A s.heap H locs → lv_has ls nL lv → va_Run p l e R s m args below meth c H locs ck cn 0 0 (F0 m pc ls st0) st (QC D cl rv wc wc' H.size aa) (va_A wc H.size)) (kk : GO p l e R s m args below meth c D cl A Q nL ck cn (pc + 3) lv (rv.toList ++ st) ws') : GO p l e R s m args below meth c D cl A Q nL ck cn pc lv st0 ws := by
  intro H locs ls hP hD hS hl T hT Xs
  obtain ⟨v, st₀, t, T', L, h0, X', hL, e1, e2, ⟨⟨hv, hP1⟩, hz, hk⟩, stp⟩ := hrun H locs ls hP hD hS hl T hT Xs
  cases hv
  rw [h0] at hz hk
  have hAA := hsg.subA hD (sz := H.size) (fun q h => X.2.2.2.2.2.2.1 q (Nat.le_trans hS.1 h))
  obtain ⟨g1, g2⟩ := hsg.back hP hD hk hP1
  obtain ⟨t2, a1, b1⟩ := kk T'.heap (locs ++ L) ls (by rw [e1]; exact g1) g2
    ⟨Nat.le_trans hS.1 (by rw [e1]; exact hz), fun q h1 h2 => by rw [e1, hk q (Nat.lt_of_lt_of_le h1 hS.1) (fun z => h2 (hAA q z))]; exact hS.2.1 q h1 h2, fun q hq => by
      rcases List.mem_append.mp hq with h | h
      · exact hS.2.2 q h
      · exact hAA _ (hL q h)⟩ hl T' rfl X'
  exact ⟨t2, stp t2 a1, b1⟩
variable {y : MethodName} {wsC wsC' : List Cond} {rm : Room} {bytes : ByteArray} {maxL : Nat} {ret : Option FieldType} {As : List Value} {b ci N idx : Nat} {C : String} {T : u_T} {fs : List Value}
theorem g_callV (X : CX p s m args c D cl tys A cc nL Ts own) (hM : CT l D cl tys y wsC rm (.ref b :: As) rv wc wc') (hg : GoodIn Ts (wsV own idx C y wsC)) (hw : wsC = Cond.code y bytes maxL ret :: wsC') (n : Nat) (hd : y.cls = C ∧ y.cls ≠ "java/lang/invoke/MethodHandle" ∧ y.cls ≠ "java/lang/invoke/VarHandle" ∧ (parseMethodDescriptor y.desc).map (fun d => d.parameters.length) = some n) (hrm : rm.cells = 0 ∧ rm.slots = 0) (hR : rm.frames + 1 ≤ R.frames ∧ 8 + (maxL + 11) + rm.locals ≤ R.locals) (hcap : ck ≤ R.cells ∧ cn ≤ R.slots) (q0 : Nat) (he : ws[q0]? = some (b, .inr (ci, fs))) (hc : cl[ci]? = some (C, T, N)) (hn : As.length = n) (hst : st0 = As.reverse ++ .ref b :: st) (hcat : (st.map fun v => v.category).sum ≤ 8) (hdg : decode cc pc = .ok (.invokevirtual idx, 3)) (hsg : SG ws wc ws' wc') (hs1 : rv.toList ++ st = st1) (kk : GO p l e R s m args below meth c D cl A Q nL ck cn (pc + 3) lv st1 ws') : GO p l e R s m args below meth c D cl A Q nL ck cn pc lv st0 ws :=
  go_of_run X hsg (fun H _ _ hP hD _ hl => va_runV (As := As) (rest := st) ⟨X.1, X.2.1, X.2.2.1, X.2.2.2.1, X.2.2.2.2.1⟩ (hM H.size) (cwV n X.2.2.2.2.1 hg hw hrm.1 hrm.2 hd hR) ⟨PC.blind, va_recv X.2.2.2.2.2.1 hP hc he, fun U hU hW => ⟨rfl, by rw [hU], by rw [hU]; exact hsg.sub hP, va_K.moved hW.alike X.2.2.2.2.2.1, hsg.subD hD, X.2.2.2.2.2.2.2.warm hW⟩⟩ rfl hn hl.1 hst (lv_room hcat) hdg hcap) (hs1 ▸ kk)
theorem g_callS (X : CX p s m args c D cl tys A cc nL Ts own) (hM : CT l D cl tys y wsC rm As rv wc wc') (hg : GoodIn Ts (va_wsS own idx y wsC)) (hw : wsC = Cond.code y bytes maxL ret :: wsC') (n : Nat) (hd : y.cls ≠ "java/lang/invoke/MethodHandle" ∧ y.cls ≠ "java/lang/invoke/VarHandle" ∧ (parseMethodDescriptor y.desc).map (fun d => d.parameters.length) = some n) (hrm : rm.cells = 0 ∧ rm.slots = 0) (hR : rm.frames + 1 ≤ R.frames ∧ 8 + (maxL + 11) + rm.locals ≤ R.locals) (hcap : ck ≤ R.cells ∧ cn ≤ R.slots) (hn : As.length = n) (hst : st0 = As.reverse ++ st) (hcat : (st.map fun v => v.category).sum ≤ 8) (hdg : decode cc pc = .ok (.invokestatic idx, 3)) (hsg : SG ws wc ws' wc') (hs1 : rv.toList ++ st = st1) (kk : GO p l e R s m args below meth c D cl A Q nL ck cn (pc + 3) lv st1 ws') : GO p l e R s m args below meth c D cl A Q nL ck cn pc lv st0 ws :=
  go_of_run X hsg (fun H _ _ hP hD _ hl => va_runS (As := As) (rest := st) ⟨X.1, X.2.1, X.2.2.1, X.2.2.2.1, X.2.2.2.2.1⟩ (hM H.size) (va_cwS n X.2.2.2.2.1 hg hw hrm.1 hrm.2 hd hR) ⟨PC.blind, fun U hU hW => ⟨rfl, by rw [hU], by rw [hU]; exact hsg.sub hP, va_K.moved hW.alike X.2.2.2.2.2.1, hsg.subD hD, X.2.2.2.2.2.2.2.warm hW⟩⟩ rfl hn hl.1 hst (lv_room hcat) hdg hcap) (hs1 ▸ kk)
theorem g_callSN (X : CX p s m args c D cl tys A cc nL Ts own) (hM : CT l D cl tys y wsC rm As rv wc wc') (hg : GoodIn Ts wsC) (hnest : (own, idx, y) ∈ nestL) (hini : Cond.initialized y.cls ∈ Ts) (hsta : Cond.static y ∈ Ts) (hw : wsC = Cond.code y bytes maxL ret :: wsC') (n : Nat) (hd : y.cls ≠ "java/lang/invoke/MethodHandle" ∧ y.cls ≠ "java/lang/invoke/VarHandle" ∧ (parseMethodDescriptor y.desc).map (fun d => d.parameters.length) = some n) (hrm : rm.cells = 0 ∧ rm.slots = 0) (hR : rm.frames + 1 ≤ R.frames ∧ 8 + (maxL + 11) + rm.locals ≤ R.locals) (hcap : ck ≤ R.cells ∧ cn ≤ R.slots) (hn : As.length = n) (hst : st0 = As.reverse ++ st) (hcat : (st.map fun v => v.category).sum ≤ 8) (hdg : decode cc pc = .ok (.invokestatic idx, 3)) (hsg : SG ws wc ws' wc') (hs1 : rv.toList ++ st = st1) (kk : GO p l e R s m args below meth c D cl A Q nL ck cn (pc + 3) lv st1 ws') : GO p l e R s m args below meth c D cl A Q nL ck cn pc lv st0 ws :=
  go_of_run X hsg (fun H _ _ hP hD _ hl => va_runSN (As := As) (rest := st) ⟨X.1, X.2.1, X.2.2.1, X.2.2.2.1, X.2.2.2.2.1⟩ (hM H.size) ⟨va_cnB n X.2.2.2.2.1 hg hw hrm.1 hrm.2 (X.2.2.2.2.2.2.2 _ hnest) (X.2.2.2.2.1 _ hini) hd hR, X.2.2.2.2.1 _ hsta, trivial⟩ ⟨PC.blind, fun U hU hW => ⟨rfl, by rw [hU], by rw [hU]; exact hsg.sub hP, va_K.moved hW.alike X.2.2.2.2.2.1, hsg.subD hD, X.2.2.2.2.2.2.2.warm hW⟩⟩ rfl hn hl.1 hst (lv_room hcat) hdg hcap) (hs1 ▸ kk)
theorem g_callVN (X : CX p s m args c D cl tys A cc nL Ts own) (hM : CT l D cl tys y wsC rm (.ref b :: As) rv wc wc') (hg : GoodIn Ts wsC) (hnest : (own, idx, y) ∈ nestL) (hini : Cond.initialized y.cls ∈ Ts) (hins : Cond.instanceMethod y ∈ Ts) (hsel : Cond.selects C y y ∈ Ts) (hw : wsC = Cond.code y bytes maxL ret :: wsC') (n : Nat) (hd : y.cls ≠ "java/lang/invoke/MethodHandle" ∧ y.cls ≠ "java/lang/invoke/VarHandle" ∧ (parseMethodDescriptor y.desc).map (fun d => d.parameters.length) = some n) (hrm : rm.cells = 0 ∧ rm.slots = 0) (hR : rm.frames + 1 ≤ R.frames ∧ 8 + (maxL + 11) + rm.locals ≤ R.locals) (hcap : ck ≤ R.cells ∧ cn ≤ R.slots) (q0 : Nat) (he : ws[q0]? = some (b, .inr (ci, fs))) (hc : cl[ci]? = some (C, T, N)) (hn : As.length = n) (hst : st0 = As.reverse ++ .ref b :: st) (hcat : (st.map fun v => v.category).sum ≤ 8) (hdg : decode cc pc = .ok (.invokevirtual idx, 3)) (hsg : SG ws wc ws' wc') (hs1 : rv.toList ++ st = st1) (kk : GO p l e R s m args below meth c D cl A Q nL ck cn (pc + 3) lv st1 ws') : GO p l e R s m args below meth c D cl A Q nL ck cn pc lv st0 ws :=
  go_of_run X hsg (fun H _ _ hP hD _ hl => va_runVN (As := As) (rest := st) ⟨X.1, X.2.1, X.2.2.1, X.2.2.2.1, X.2.2.2.2.1⟩ (hM H.size) ⟨va_cnB n X.2.2.2.2.1 hg hw hrm.1 hrm.2 (X.2.2.2.2.2.2.2 _ hnest) (X.2.2.2.2.1 _ hini) hd hR, X.2.2.2.2.1 _ hins, X.2.2.2.2.1 _ hsel⟩ ⟨PC.blind, va_recv X.2.2.2.2.2.1 hP hc he, fun U hU hW => ⟨rfl, by rw [hU], by rw [hU]; exact hsg.sub hP, va_K.moved hW.alike X.2.2.2.2.2.1, hsg.subD hD, X.2.2.2.2.2.2.2.warm hW⟩⟩ rfl hn hl.1 hst (lv_room hcat) hdg hcap) (hs1 ▸ kk)
/-! returns, and the entry -/
theorem g_iret {x : Int} (X : CX p s m args c D cl tys A cc nL Ts own) (hr : meth.sig.returnType = some .int) (hlk : meth.locks = false) (hdg : decode cc pc = .ok (.ireturn, 1)) : GO p l e R s m args below meth c D cl (va_A wc s.heap.size) (MQ below (QC D cl (some (ii x)) wc wc' s.heap.size) args s ck cn (va_A wc s.heap.size)) nL ck cn pc lv [ii x] wc' :=
  fun _ _ _ hP _ hS _ => W.iret X.1 X.2.1 hr (fun _ ht _ => ⟨⟨rfl, by rw [ht]; exact hP⟩, hS.F ht⟩) hS.2.2 hdg hlk
theorem g_zret {x : Int} (X : CX p s m args c D cl tys A cc nL Ts own) (hx : x = 0 ∨ x = 1) (hr : meth.sig.returnType = some .boolean) (hlk : meth.locks = false) (hdg : decode cc pc = .ok (.ireturn, 1)) : GO p l e R s m args below meth c D cl (va_A wc s.heap.size) (MQ below (QC D cl (some (ii x)) wc wc' s.heap.size) args s ck cn (va_A wc s.heap.size)) nL ck cn pc lv [ii x] wc' :=
  fun _ _ _ hP _ hS _ => W.zret X.1 X.2.1 hr (by rcases hx with rfl | rfl <;> decide +kernel) (fun _ ht _ => ⟨⟨rfl, by rw [ht]; exact hP⟩, hS.F ht⟩) hS.2.2 hdg hlk
theorem g_lret {x : Int} (X : CX p s m args c D cl tys A cc nL Ts own) (hr : meth.sig.returnType = some .long) (hlk : meth.locks = false) (hdg : decode cc pc = .ok (.lreturn, 1)) : GO p l e R s m args below meth c D cl (va_A wc s.heap.size) (MQ below (QC D cl (some (ll x)) wc wc' s.heap.size) args s ck cn (va_A wc s.heap.size)) nL ck cn pc lv [ll x] wc' :=
  fun _ _ _ hP _ hS _ => W.lret X.1 X.2.1 hr (fun _ ht _ => ⟨⟨rfl, by rw [ht]; exact hP⟩, hS.F ht⟩) hS.2.2 hdg hlk
theorem g_vret (X : CX p s m args c D cl tys A cc nL Ts own) (hr : meth.sig.returnType = none) (hlk : meth.locks = false) (hdg : decode cc pc = .ok (.return_, 1)) : GO p l e R s m args below meth c D cl (va_A wc s.heap.size) (MQ below (QC D cl none wc wc' s.heap.size) args s ck cn (va_A wc s.heap.size)) nL ck cn pc lv [] wc' :=
  fun _ _ _ hP _ hS _ => W.vret X.1 X.2.1 hr (fun _ ht _ => ⟨⟨rfl, by rw [ht]; exact hP⟩, hS.F ht⟩) hS.2.2 hdg hlk
theorem g_aret {a : Nat} {cn0 : String} (X : CX p s m args c D cl tys A cc nL Ts own) (hr : meth.sig.returnType = some (.object cn0)) (hlk : meth.locks = false) (hdg : decode cc pc = .ok (.areturn, 1)) : GO p l e R s m args below meth c D cl (va_A wc s.heap.size) (MQ below (QC D cl (some (.ref a)) wc wc' s.heap.size) args s ck cn (va_A wc s.heap.size)) nL ck cn pc lv [.ref a] wc' :=
  fun _ _ _ hP _ hS _ => W.aret X.1 X.2.1 hr (Or.inl ⟨_, rfl⟩) (Or.inr ⟨_, rfl⟩) (fun _ ht _ => ⟨⟨rfl, by rw [ht]; exact hP⟩, hS.F ht⟩) hS.2.2 hdg hlk
end GoC
theorem CT.mk {l : Launch} {D : va_G} {cl : List vw_C} {tys : List (ClassId × FieldType)} {y : MethodName} {ws ws' : List Cond} {rm : Room} {av : List Value} {rv : Option Value} {wc wc' : va_W} {cc : ByteArray} {maxL : Nat} {ret : Option FieldType} (hy : plainName y.cls = true) (hw : ws = Cond.code y cc maxL ret :: ws') (hlen : (lg_sl av).length ≤ maxL)
    (body : ∀ (p : Program) (e : Env) (s : State) (m : MethodId) (below : List Frame) (meth : Method) (c : Code), CX p s m av.toArray c D cl tys (va_A wc s.heap.size) cc maxL ws y.cls → meth.sig.returnType = ret → meth.locks = false → GO p l e rm s m av.toArray below meth c D cl (va_A wc s.heap.size) (MQ below (QC D cl rv wc wc' s.heap.size) av.toArray s 0 0 (va_A wc s.heap.size)) maxL 0 0 0 (lv_args 0 av) [] wc) : CT l D cl tys y ws rm av rv wc wc' := by
  intro sz
  refine Met.ofW (cc := cc) (maxL := maxL) (ret := ret) hy hw ?_
  intro p e s m args below meth c s₁ B hml hv
  obtain ⟨rfl, hsz, hP, hK, hD0, hN⟩ := hv
  subst hsz
  rw [lg_entry_eq]
  exact body p e s m below meth c ⟨B.exec, B.bytes, hml, findClass_of_methodNamed B.named, atoms_spec (ws := ws) B.pre, hK, fun q h => Or.inr h, hN⟩ B.returns B.notSynchronized s.heap [] _ hP (hD0.self (sz := s.heap.size)) va_S.rf (lv_entry av hlen)

section GoJ
variable {β : Type} {r : β} {v : Int} {X0 X1 X2 X3 : Option β}
def ltK {P : Type} (J : P → Option β) (F : (P → Option β) → Option β) : Option β := F J
theorem g_let {P : Type} {J : P → Option β} {F : (P → Option β) → Option β} {G : P → Prop} {Z : Prop} (hf : ltK J F = some r) (hJ : ∀ q, J q = some r → G q) (k : ∀ j : P → Option β, (∀ q, j q = some r → G q) → F j = some r → Z) : Z := k J hJ hf
def sel3 (v : Int) (X0 X1 X2 : Option β) : Option β := if v = 0 then X0 else if v = 1 then X1 else if v = 2 then X2 else none
theorem sel3_some (h : sel3 v X0 X1 X2 = some r) : (v = 0 ∧ X0 = some r) ∨ (v = 1 ∧ X1 = some r) ∨ (v = 2 ∧ X2 = some r) := by
  unfold sel3 at h
  by_cases h0 : v = 0
  · rw [if_pos h0] at h; exact Or.inl ⟨h0, h⟩
  · rw [if_neg h0] at h
    by_cases h1 : v = 1
    · rw [if_pos h1] at h; exact Or.inr (Or.inl ⟨h1, h⟩)
    · rw [if_neg h1] at h
      by_cases h2 : v = 2
      · rw [if_pos h2] at h; exact Or.inr (Or.inr ⟨h2, h⟩)
      · rw [if_neg h2] at h; cases h
def tbA (a : Nat → Nat) (v : Int) : Nat := if v = 0 then a (1 + 0) else if v = 1 then a (5 + 0) else a (9 + 0)
def sw3 (v : Int) (X0 X1 X2 X3 : Option β) : Option β := if Rg v then (if v = 0 then X0 else if v = 1 then X1 else if v = 2 then X2 else X3) else none
variable {p : Program} {l : Launch} {e : Env} {R : Room} {s : State} {m : MethodId} {args : Array Value} {below : List Frame} {meth : Method} {c : Code} {D : va_G} {cl : List vw_C} {A : Nat → Prop} {Q : State → Prop} {nL ck cn : Nat}
variable {tys : List (ClassId × FieldType)} {cc : ByteArray} {Ts : List Cond} {own : String} {pc : Nat} {lv : List (Nat × Value)} {st : List Value} {ws : va_W}
theorem g_stk {st' : List Value} (h : st = st') (k : GO p l e R s m args below meth c D cl A Q nL ck cn pc lv st' ws) : GO p l e R s m args below meth c D cl A Q nL ck cn pc lv st ws := h ▸ k
theorem g_sw3 (X : CX p s m args c D cl tys A cc nL Ts own) (hf : sw3 v X0 X1 X2 X3 = some r) {o0 o1 o2 od : Int} {len : Nat} (t0 t1 t2 t3 : Nat) (hdg : decode cc pc = .ok (.tableswitch od 0 2 #[o0, o1, o2], len)) (e0 : (pc : Int) + o0 = (t0 : Int)) (e1 : (pc : Int) + o1 = (t1 : Int)) (e2 : (pc : Int) + o2 = (t2 : Int)) (e3 : (pc : Int) + od = (t3 : Int))
    (k0 : X0 = some r → GO p l e R s m args below meth c D cl A Q nL ck cn t0 lv st ws) (k1 : X1 = some r → GO p l e R s m args below meth c D cl A Q nL ck cn t1 lv st ws) (k2 : X2 = some r → GO p l e R s m args below meth c D cl A Q nL ck cn t2 lv st ws) (k3 : X3 = some r → GO p l e R s m args below meth c D cl A Q nL ck cn t3 lv st ws) : GO p l e R s m args below meth c D cl A Q nL ck cn pc lv (ii v :: st) ws := by
  intro H locs ls hP hD hS hl
  unfold sw3 at hf
  by_cases hv : Rg v
  · rw [if_pos hv] at hf
    have hto := hv.to
    by_cases h0 : v = 0
    · rw [if_pos h0] at hf
      subst h0
      exact lv_tableIn X.1 X.2.1 hdg (by rw [hto]; decide) (by rw [hto]; decide) (off := o0) (by rw [hto]; rfl) e0 (k0 hf H locs ls hP hD hS hl)
    · rw [if_neg h0] at hf
      by_cases h1 : v = 1
      · rw [if_pos h1] at hf
        subst h1
        exact lv_tableIn X.1 X.2.1 hdg (by rw [hto]; decide) (by rw [hto]; decide) (off := o1) (by rw [hto]; rfl) e1 (k1 hf H locs ls hP hD hS hl)
      · rw [if_neg h1] at hf
        by_cases h2 : v = 2
        · rw [if_pos h2] at hf
          subst h2
          exact lv_tableIn X.1 X.2.1 hdg (by rw [hto]; decide) (by rw [hto]; decide) (off := o2) (by rw [hto]; rfl) e2 (k2 hf H locs ls hP hD hS hl)
        · rw [if_neg h2] at hf
          exact lv_tableOut X.1 X.2.1 hdg (by rw [hto]; omega) e3 (k3 hf H locs ls hP hD hS hl)
  · rw [if_neg hv] at hf; cases hf
end GoJ
