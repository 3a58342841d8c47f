/-! constructors: a world that grows -/
def acons (x : Nat) (g : Nat → Nat) : Nat → Nat
  | 0 => x
  | i + 1 => g i
def acat (n : Nat) (f g : Nat → Nat) : Nat → Nat := fun i => if i < n then f i else g (i - n)
def zA : Arr := fun _ => 0
def AO (U : State) : Prop := va_AO "CallMigrator$State" U
def PI (D : va_G) (cl : List vw_C) (tys : List (ClassId × FieldType)) (av : List Value) (wc : va_W) (sz : Nat) : Array Value → State → Prop := fun v U => PC D cl tys av wc sz v U ∧ AO U
def QI (D : va_G) (cl : List vw_C) (h0 : Nat) (wc : va_W) (B : (Nat → Nat) → va_W) (sz : Nat) : Array Value → State → Outcome → State → Prop := fun _ st oc t => (oc = .returned none ∧ ∃ a : Nat → Nat, a 0 = h0 ∧ va_P D cl (B a) t.heap ∧ va_D (va_A wc sz) (B a)) ∧ va_F (va_A wc sz) st t
def CI (l : Launch) (D : va_G) (cl : List vw_C) (tys : List (ClassId × FieldType)) (y : MethodName) (ws : List Cond) (rm : Room) (av : List Value) (h0 : Nat) (e0 : va_E) (B : (Nat → Nat) → va_W) : Prop :=
  ∀ sz : Nat, Met l y ws rm (PI D cl tys av [(h0, e0)] sz) (QI D cl h0 [(h0, e0)] B sz) rm.cells rm.slots (va_A [(h0, e0)] sz)
theorem PI.blind {D : va_G} {cl : List vw_C} {tys : List (ClassId × FieldType)} {av : List Value} {wc : va_W} {sz : Nat} : FrameBlind (PI D cl tys av wc sz) := fun a U g mk h => ⟨PC.blind a U g mk h.1, va_AO.moved (u := U) (U := U.calling g mk a) (Vm.Alike.refl U.vm) h.2⟩
section GoI
variable {p : Program} {l : Launch} {e : Env} {R : Room} {s : State} {m : MethodId} {args : Array Value} {below : List Frame} {meth : Method} {c : Code} {D : va_G} {cl : List vw_C} {A : Nat → Prop} {Q : State → Prop} {nL ck cn : Nat}
variable {tys : List (ClassId × FieldType)} {cc : ByteArray} {Ts : List Cond} {own : String} {pc : Nat} {lv : List (Nat × Value)} {st st0 : List Value} {ws : va_W}
theorem g_objInit (X : CX p s m args c D cl tys A cc nL Ts own) {idx a : Nat} (h1 : Cond.methodLink own idx Lib.objectInit ∈ Ts) (h2 : Cond.instanceMethod Lib.objectInit ∈ Ts) (h3 : Cond.code Lib.objectInit ⟨#[0xb1]⟩ 1 none ∈ Ts) (hdg : decode cc pc = .ok (.invokespecial idx, 3)) (hR : 1 ≤ R.frames ∧ (st.map fun v => v.category).sum + 12 ≤ R.locals) (kk : GO p l e R s m args below meth c D cl A Q nL ck cn (pc + 3) lv st ws) : GO p l e R s m args below meth c D cl A Q nL ck cn pc lv (.ref a :: st) ws := by
  intro H locs ls hP hD hS hl
  have hx := X.2.2.2.2.1
  refine W.objInit X.1 X.2.1 X.2.2.2.1 (hx _ h1) (hx _ h2) (hx _ h3) rfl (hl.1.trans X.2.2.1.symm) rfl hdg hR.1 (by show 2 * 0 + _ + 12 ≤ _; omega) ?_
  exact kk H locs ls hP hD hS hl
theorem g_new (X : CX p s m args c D cl tys A cc nL Ts own) {C : String} {T : u_T} {N ci idx : Nat} {ty : Nat → FieldType} {fs : List Value} (hin : ∀ w ∈ u_ws C T N, w ∈ Ts) (hty : ∀ k, k < N → parseFieldDescriptor (T k).2.2.1 = some (ty k)) (h1 : Cond.classLink own idx C ∈ Ts) (h2 : Cond.instantiable C N ∈ Ts) (h3 : Cond.initialized C ∈ Ts) (hc : cl[ci]? = some (C, T, N)) (hfs : ∀ j, j < N → defaultValue (ty j) = vp_V fs j) (hR : ck + 1 ≤ R.cells ∧ cn + N ≤ R.slots) (hdg : decode cc pc = .ok (.new idx, 3)) (kk : ∀ q : Nat, GO p l e R s m args below meth c D cl A Q nL (ck + 1) (cn + N) (pc + 3) lv (.ref q :: st) (ws ++ [(q, .inr (ci, fs))])) : GO p l e R s m args below meth c D cl A Q nL ck cn pc lv st ws :=
  fun _ locs ls hP hD hS hl => va_new X.1 X.2.1 X.2.2.2.2.1 hin ty hty X.2.2.2.1 (X.2.2.2.2.1 _ h1) (X.2.2.2.2.1 _ h2) (X.2.2.2.2.1 _ h3) X.2.2.2.2.2.1 hP hD hS X.2.2.2.2.2.2.1 hc hfs hR.1 hR.2 hdg (fun q H1 hP1 hD1 hS1 => kk q H1 locs ls hP1 hD1 hS1 hl)
theorem z_cell (cA : ClassId) (n : Nat) : vp_cell cA (n, .inl (arI zA)) = arrV cA n (fun _ => defaultValue .int) := rfl
theorem z_cellb (cA : ClassId) (n : Nat) : vp_cell cA (n, .inl (arI zA)) = arrV cA n (fun _ => defaultValue .boolean) := rfl
theorem g_newi (X : CX p s m args c D cl tys A cc nL Ts own) {N : Nat} {cI : ClassId} (ht : tys[0]? = some (cI, .int)) (hN : N ≤ 100000) (h1 : Cond.arrayClass .int ∈ Ts) (hR : ck + 1 ≤ R.cells ∧ cn + N ≤ R.slots) (hdg : decode cc pc = .ok (.newarray .int, 2)) (kk : ∀ q : Nat, GO p l e R s m args below meth c D cl A Q nL (ck + 1) (cn + N) (pc + 2) lv (.ref q :: st) (ws ++ [(q, .inl (cI, N, .inl (arI zA)))])) : GO p l e R s m args below meth c D cl A Q nL ck cn pc lv (ii (N : Int) :: st) ws := by
  intro H locs ls hP hD hS hl
  have hz : (Int32.ofInt (N : Int)).toNatClampNeg = N := by rw [ix_nat (by omega) (by omega)]; omega
  refine va_newa (atype := .int) (ty := .int) (a0 := (N, .inl (arI zA))) X.1 X.2.1 (X.2.2.2.2.1 _ h1) rfl X.2.2.2.2.2.1 hP hD hS X.2.2.2.2.2.2.1 (fun cA => z_cell cA N) (by rw [i32_zero, i32_lt ⟨by omega, by omega⟩ Rg0]; omega) hz (by show N * 4 ≤ _; omega) hR.1 hR.2 hdg (fun q cA H1 hK1 hP1 hD1 hS1 => ?_)
  have e1 : s.vm.findClass ("[" ++ (FieldType.int).toString) = some cA := (hK1.2 tys.length (cA, .int) (by simp)).2
  have e2 : s.vm.findClass ("[" ++ (FieldType.int).toString) = some cI := (X.2.2.2.2.2.1.2 0 (cI, .int) ht).2
  have e3 : cA = cI := Option.some.inj (e1.symm.trans e2)
  subst e3
  exact kk q H1 locs ls hP1 hD1 hS1 hl
theorem g_newz (X : CX p s m args c D cl tys A cc nL Ts own) {N : Nat} {cI : ClassId} (ht : tys[1]? = some (cI, .boolean)) (hN : N ≤ 100000) (h1 : Cond.arrayClass .boolean ∈ Ts) (hR : ck + 1 ≤ R.cells ∧ cn + N ≤ R.slots) (hdg : decode cc pc = .ok (.newarray .boolean, 2)) (kk : ∀ q : Nat, GO p l e R s m args below meth c D cl A Q nL (ck + 1) (cn + N) (pc + 2) lv (.ref q :: st) (ws ++ [(q, .inl (cI, N, .inl (arI zA)))])) : GO p l e R s m args below meth c D cl A Q nL ck cn pc lv (ii (N : Int) :: st) ws := by
  intro H locs ls hP hD hS hl
  have hz : (Int32.ofInt (N : Int)).toNatClampNeg = N := by rw [ix_nat (by omega) (by omega)]; omega
  refine va_newa (atype := .boolean) (ty := .boolean) (a0 := (N, .inl (arI zA))) X.1 X.2.1 (X.2.2.2.2.1 _ h1) rfl X.2.2.2.2.2.1 hP hD hS X.2.2.2.2.2.2.1 (fun cA => z_cellb cA N) (by rw [i32_zero, i32_lt ⟨by omega, by omega⟩ Rg0]; omega) hz (by show N * 1 ≤ _; omega) hR.1 hR.2 hdg (fun q cA H1 hK1 hP1 hD1 hS1 => ?_)
  have e1 : s.vm.findClass ("[" ++ (FieldType.boolean).toString) = some cA := (hK1.2 tys.length (cA, .boolean) (by simp)).2
  have e2 : s.vm.findClass ("[" ++ (FieldType.boolean).toString) = some cI := (X.2.2.2.2.2.1.2 1 (cI, .boolean) ht).2
  have e3 : cA = cI := Option.some.inj (e1.symm.trans e2)
  subst e3
  exact kk q H1 locs ls hP1 hD1 hS1 hl
theorem g_newq (X : CX p s m args c D cl tys A cc nL Ts own) (hao : AO s) {N idx : Nat} {cI : ClassId} (ht : tys[2]? = some (cI, .object "CallMigrator$State")) (hN : N ≤ 100000) (h1 : Cond.classLink own idx "CallMigrator$State" ∈ Ts) (hR : ck + 1 ≤ R.cells ∧ cn + N ≤ R.slots) (hdg : decode cc pc = .ok (.anewarray idx, 3)) (kk : ∀ q : Nat, GO p l e R s m args below meth c D cl A Q nL (ck + 1) (cn + N) (pc + 3) lv (.ref q :: st) (ws ++ [(q, .inl (cI, N, .inr (.inr (.inr (.inr (fun _ => none))))))])) : GO p l e R s m args below meth c D cl A Q nL ck cn pc lv (ii (N : Int) :: st) ws := by
  intro H locs ls hP hD hS hl
  have hz : (Int32.ofInt (N : Int)).toNatClampNeg = N := by rw [ix_nat (by omega) (by omega)]; omega
  refine va_newq X.1 X.2.1 X.2.2.2.1 (X.2.2.2.2.1 _ h1) hao X.2.2.2.2.2.1 hP hD hS X.2.2.2.2.2.2.1 (by rw [i32_zero, i32_lt ⟨by omega, by omega⟩ Rg0]; omega) hz (by omega) hR.1 hR.2 hdg (fun q cA H1 hK1 hP1 hD1 hS1 => ?_)
  obtain ⟨-, -, -, -, -, e1⟩ := (hK1.2 tys.length (cA, .object "CallMigrator$State") (by simp)).2
  obtain ⟨-, -, -, -, -, e2⟩ := (X.2.2.2.2.2.1.2 2 (cI, .object "CallMigrator$State") ht).2
  have e3 : cA = cI := Option.some.inj (e1.symm.trans e2)
  subst e3
  exact kk q H1 locs ls hP1 hD1 hS1 hl
theorem g_putF (X : CX p s m args c D cl tys A cc nL Ts own) {a ci idx N : Nat} {C : String} {T : u_T} {fs : List Value} {ty0 : Nat → FieldType} {ty : FieldType} {v : Value} (hmn : meth.name = "<init>") (q0 k : Nat) (hdg : decode cc pc = .ok (.putfield idx, 3)) (he : ws[q0]? = some (a, .inr (ci, fs))) (hc : cl[ci]? = some (C, T, N)) (hin : ∀ w ∈ u_ws C T N, w ∈ Ts) (hty : ∀ k, k < N → parseFieldDescriptor (T k).2.2.1 = some (ty0 k)) (hnm : ∀ a, a < N → ∀ b, b < N → a ≠ b → (T a).2.1 ≠ (T b).2.1) (hk : k < N) (hlink : Cond.fieldLink own idx (T k).1 (T k).2.1 (T k).2.2.1 ∈ Ts) (hfin : (T k).2.2.2 = true) (hdecl : (T k).1 = own) (ht : ty0 k = ty) (hn : narrow ty v = v) (hfit : fits ty v = true) (hl0 : k < fs.length) {ws' : va_W} (hw : ws.set q0 (a, .inr (ci, fs.set k v)) = ws') (kk : GO p l e R s m args below meth c D cl A Q nL ck cn (pc + 3) lv st ws') : GO p l e R s m args below meth c D cl A Q nL ck cn pc lv (v :: .ref a :: st) ws := by
  intro H locs ls hP hD hS hl
  refine va_putF (ty := ty) X.1 X.2.1 X.2.2.2.2.1 hin ty0 hty hnm X.2.2.2.1 X.2.2.2.2.2.1 hP hD hS q0 he hc k hk (X.2.2.2.2.1 _ hlink) (fun _ h => h) hfin hmn hdecl (by rw [hty k hk, ht]) hn hfit hl0 hdg (fun H1 locs1 hP1 hD1 hS1 => ?_)
  rw [hw] at hP1 hD1
  exact kk H1 locs1 ls hP1 hD1 hS1 hl
theorem go_of_runI (X : CX p s m args c D cl tys A cc nL Ts own) {L : va_W} {b : Nat} {e0 : va_E} {B : (Nat → Nat) → va_W} {aa : Array Value} {mc ms : Nat} (hws : ws = L ++ [(b, e0)]) (hrun : ∀ (H : Heap) (locs : List Loc) (ls : Array Slot), va_P D cl ws H → va_D A ws → va_S A s.heap H locs → lv_has ls nL lv → va_Run p l e R s m args below meth c H locs ck cn mc ms (F0 m pc ls st0) st (QI D cl b [(b, e0)] B H.size aa) (va_A [(b, e0)] H.size)) (kk : ∀ a : Nat → Nat, a 0 = b → GO p l e R s m args below meth c D cl A Q nL (ck + mc) (cn + ms) (pc + 3) lv st (L ++ B a)) : GO p l e R s m args below meth c D cl A Q nL ck cn pc lv st0 ws := by
  intro H locs ls hP hD hS hl T hT Xs
  obtain ⟨v, st₀, t, T', L2, h0, X', hL, e1, e2, ⟨⟨hv, a, ha, hP1, hD1⟩, hz, hk⟩, stp⟩ := hrun H locs ls hP hD hS hl T hT Xs
  cases hv
  rw [h0] at hz hk
  subst hws
  have hmem : ∀ x ∈ L, x ∈ L ++ [(b, e0)] := fun x hx => List.mem_append_left _ hx
  have hAA : ∀ q, va_A [(b, e0)] H.size q → A q := by
    intro q hq
    rcases va_A.iff.mp hq with h | h
    · have : q = b := by simpa using h
      subst this
      exact hD.in (q, e0) (List.mem_append_right _ List.mem_cons_self)
    · exact X.2.2.2.2.2.2.1 q (Nat.le_trans hS.1 h)
  have nd := hD.nd
  rw [List.map_append] at nd
  have n1 := List.nodup_append.mp nd
  have apart : ∀ x ∈ L, x.1 < H.size ∧ ¬ va_A [(b, e0)] H.size x.1 := by
    intro x hx
    have hl2 := (va_P.iff.mp hP x (hmem x hx)).lt
    refine ⟨hl2, fun z => ?_⟩
    rcases va_A.iff.mp z with h | h
    · exact n1.2.2 _ (List.mem_map.mpr ⟨x, hx, rfl⟩) _ (by simpa using h) rfl
    · omega
  have g1 : va_P D cl (L ++ B a) T'.heap := by
    refine va_P.iff.mpr (fun x hx => ?_)
    rcases List.mem_append.mp hx with h | h
    · obtain ⟨u1, u2⟩ := apart x h
      exact (va_P.iff.mp hP x (hmem x h)).kept (by rw [e1]; exact hk x.1 u1 u2)
    · rw [e1]
      exact va_P.iff.mp hP1 x h
  have g2 : va_D A (L ++ B a) := by
    refine va_D.of_nd ?_ (fun x hx => ?_)
    · rw [List.map_append]
      refine List.nodup_append.mpr ⟨n1.1, hD1.nd, fun u hu w hw => ?_⟩
      obtain ⟨x, hx, rfl⟩ := List.mem_map.mp hu
      obtain ⟨y, hy, rfl⟩ := List.mem_map.mp hw
      intro hxy
      exact (apart x hx).2 (by rw [hxy]; exact hD1.in y hy)
    · rcases List.mem_append.mp hx with h | h
      · exact hD.in x (hmem x h)
      · exact hAA _ (hD1.in x h)
  obtain ⟨t2, a1, b1⟩ := kk a ha T'.heap (locs ++ L2) ls g1 g2
    ⟨Nat.le_trans hS.1 (by rw [e1]; exact hz), fun q h1 h2 => by rw [e1, hk q (Nat.lt_of_lt_of_le h1 hS.1) (fun z => h2 (hAA q z))]; exact hS.2.1 q h1 h2, fun q hq => by
      rcases List.mem_append.mp hq with h | h
      · exact hS.2.2 q h
      · exact hAA _ (hL q h)⟩ hl T' rfl X'
  exact ⟨t2, stp t2 a1, b1⟩
variable {y : MethodName} {wsC wsC' : List Cond} {rm : Room} {bytes : ByteArray} {maxL : Nat} {As : List Value} {b idx : Nat}
theorem g_callI (X : CX p s m args c D cl tys A cc nL Ts own) (hao : AO s) {L : va_W} {e0 : va_E} {B : (Nat → Nat) → va_W} (hM : CI l D cl tys y wsC rm (.ref b :: As) b e0 B) (hg : GoodIn Ts wsC) (h1 : Cond.initialized y.cls ∈ Ts) (h2 : Cond.methodLink own idx y ∈ Ts) (h3 : Cond.instanceMethod y ∈ Ts) (hy : y.name = "<init>") (hw : wsC = Cond.code y bytes maxL none :: wsC') (n : Nat) (hd : y.cls ≠ "java/lang/invoke/MethodHandle" ∧ y.cls ≠ "java/lang/invoke/VarHandle" ∧ (parseMethodDescriptor y.desc).map (fun d => d.parameters.length) = some n) (hR : rm.frames + 1 ≤ R.frames ∧ 8 + (maxL + 11) + rm.locals ≤ R.locals) (hcap : ck + rm.cells ≤ R.cells ∧ cn + rm.slots ≤ R.slots) (hn : As.length = n) (hst : st0 = As.reverse ++ .ref b :: st) (hcat : (st.map fun v => v.category).sum ≤ 8) (hdg : decode cc pc = .ok (.invokespecial idx, 3)) (hws : ws = L ++ [(b, e0)]) (kk : ∀ a : Nat → Nat, a 0 = b → GO p l e R s m args below meth c D cl A Q nL (ck + rm.cells) (cn + rm.slots) (pc + 3) lv st (L ++ B a)) : GO p l e R s m args below meth c D cl A Q nL ck cn pc lv st0 ws :=
  go_of_runI X hws (fun H _ _ hP hD _ hl => va_runI (As := As) (rest := st) ⟨X.1, X.2.1, X.2.2.1, X.2.2.2.1, X.2.2.2.2.1⟩ (hM H.size) (cwI n X.2.2.2.2.1 hg hw rfl rfl (X.2.2.2.2.1 _ h1) (X.2.2.2.2.1 _ h2) (X.2.2.2.2.1 _ h3) hy hd hR) ⟨PI.blind, fun U hU hW => ⟨⟨rfl, by rw [hU], by rw [hU]; exact va_P.iff.mpr (fun x hx => va_P.iff.mp hP x (by rw [hws]; exact List.mem_append_right _ hx)), va_K.moved hW.alike X.2.2.2.2.2.1, va_D.of_nd (by simp) (fun _ _ => trivial), X.2.2.2.2.2.2.2.warm hW⟩, va_AO.moved hW.alike hao⟩⟩ rfl hn hl.1 hst (lv_room hcat) hdg hcap) kk
theorem g_callIN (X : CX p s m args c D cl tys A cc nL Ts own) (hao : AO s) {L : va_W} {e0 : va_E} {B : (Nat → Nat) → va_W} (hM : CI l D cl tys y wsC rm (.ref b :: As) b e0 B) (hg : GoodIn Ts wsC) (h1 : Cond.initialized y.cls ∈ Ts) (hnest : (own, idx, y) ∈ nestL) (h3 : Cond.instanceMethod y ∈ Ts) (hy : y.name = "<init>") (hw : wsC = Cond.code y bytes maxL none :: wsC') (n : Nat) (hd : y.cls ≠ "java/lang/invoke/MethodHandle" ∧ y.cls ≠ "java/lang/invoke/VarHandle" ∧ (parseMethodDescriptor y.desc).map (fun d => d.parameters.length) = some n) (hR : rm.frames + 1 ≤ R.frames ∧ 8 + (maxL + 11) + rm.locals ≤ R.locals) (hcap : ck + rm.cells ≤ R.cells ∧ cn + rm.slots ≤ R.slots) (hn : As.length = n) (hst : st0 = As.reverse ++ .ref b :: st) (hcat : (st.map fun v => v.category).sum ≤ 8) (hdg : decode cc pc = .ok (.invokespecial idx, 3)) (hws : ws = L ++ [(b, e0)]) (kk : ∀ a : Nat → Nat, a 0 = b → GO p l e R s m args below meth c D cl A Q nL (ck + rm.cells) (cn + rm.slots) (pc + 3) lv st (L ++ B a)) : GO p l e R s m args below meth c D cl A Q nL ck cn pc lv st0 ws :=
  go_of_runI X hws (fun H _ _ hP hD _ hl => va_runIN (As := As) (rest := st) ⟨X.1, X.2.1, X.2.2.1, X.2.2.2.1, X.2.2.2.2.1⟩ (hM H.size) ⟨va_cnB n X.2.2.2.2.1 hg hw rfl rfl (X.2.2.2.2.2.2.2 _ hnest) (X.2.2.2.2.1 _ h1) hd hR, hy, X.2.2.2.2.1 _ h3⟩ ⟨PI.blind, fun U hU hW => ⟨⟨rfl, by rw [hU], by rw [hU]; exact va_P.iff.mpr (fun x hx => va_P.iff.mp hP x (by rw [hws]; exact List.mem_append_right _ hx)), va_K.moved hW.alike X.2.2.2.2.2.1, va_D.of_nd (by simp) (fun _ _ => trivial), X.2.2.2.2.2.2.2.warm hW⟩, va_AO.moved hW.alike hao⟩⟩ rfl hn hl.1 hst (lv_room hcat) hdg hcap) kk
theorem g_iend {h0 : Nat} {wc : va_W} {B : (Nat → Nat) → va_W} (X : CX p s m args c D cl tys (va_A wc s.heap.size) cc nL Ts own) (hr : meth.sig.returnType = none) (hlk : meth.locks = false) (a : Nat → Nat) (ha : a 0 = h0) (hB : ws.Perm (B a)) (hdg : decode cc pc = .ok (.return_, 1)) : GO p l e R s m args below meth c D cl (va_A wc s.heap.size) (MQ below (QI D cl h0 wc B s.heap.size) args s ck cn (va_A wc s.heap.size)) nL ck cn pc lv [] ws :=
  fun _ _ _ hP hD hS _ => W.vret X.1 X.2.1 hr (fun _ ht _ => ⟨⟨rfl, a, ha, by rw [ht]; exact va_P.iff.mpr (fun q hq => va_P.iff.mp hP q (hB.symm.subset hq)), va_D.of_nd ((hB.map (fun q => q.1)).nodup_iff.mp hD.nd) (fun q hq => hD.in q (hB.symm.subset hq))⟩, hS.F ht⟩) hS.2.2 hdg hlk
end GoI
theorem CI.mk {l : Launch} {D : va_G} {cl : List vw_C} {tys : List (ClassId × FieldType)} {y : MethodName} {ws ws' : List Cond} {rm : Room} {av : List Value} {h0 : Nat} {e0 : va_E} {B : (Nat → Nat) → va_W} {cc : ByteArray} {maxL : Nat} (hy : plainName y.cls = true) (hw : ws = Cond.code y cc maxL none :: ws') (hyn : y.name = "<init>") (hlen : (lg_sl av).length ≤ maxL)
    (body : ∀ (p : Program) (e : Env) (s : State) (m : MethodId) (below : List Frame) (meth : Method) (c : Code), CX p s m av.toArray c D cl tys (va_A [(h0, e0)] s.heap.size) cc maxL ws y.cls → AO s → meth.name = "<init>" → meth.sig.returnType = none → meth.locks = false → GO p l e rm s m av.toArray below meth c D cl (va_A [(h0, e0)] s.heap.size) (MQ below (QI D cl h0 [(h0, e0)] B s.heap.size) av.toArray s rm.cells rm.slots (va_A [(h0, e0)] s.heap.size)) maxL 0 0 0 (lv_args 0 av) [] [(h0, e0)]) : CI l D cl tys y ws rm av h0 e0 B := by
  intro sz
  refine Met.ofW (cc := cc) (maxL := maxL) (ret := none) hy hw ?_
  intro p e s m args below meth c s₁ B hml hv
  obtain ⟨⟨rfl, hsz, hP, hK, hD0, hN⟩, hao⟩ := hv
  subst hsz
  rw [lg_entry_eq]
  exact body p e s m below meth c ⟨B.exec, B.bytes, hml, findClass_of_methodNamed B.named, atoms_spec (ws := ws) B.pre, hK, fun q h => Or.inr h, hN⟩ hao ((name_of_methodNamed B.named B.method).1.trans hyn) B.returns B.notSynchronized s.heap [] _ hP (hD0.self (sz := s.heap.size)) va_S.rf (lv_entry av hlen)
