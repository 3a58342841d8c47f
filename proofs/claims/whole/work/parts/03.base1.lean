/-! The layer: ints of the machine as Int, a state of a walk as a goal 'GO pc locals stack world', a method's contract 'CT'. -/
abbrev ii (x : Int) : Value := .int (Int32.ofInt x)
abbrev ll (x : Int) : Value := .long (Int64.ofInt x)
def arI (f : Nat → Int) : Nat → Int32 := fun j => Int32.ofInt (f j)
def upI (f : Nat → Int) (k : Nat) (v : Int) : Nat → Int := fun j => if j = k then v else f j
def cpI (f g : Nat → Int) (sp dp n : Nat) : Nat → Int := fun k => if dp ≤ k ∧ k < dp + n then f (sp + (k - dp)) else g k
abbrev Rg (x : Int) : Prop := -2147483648 ≤ x ∧ x ≤ 2147483647
abbrev Rl (x : Int) : Prop := -9223372036854775808 ≤ x ∧ x ≤ 9223372036854775807
def nestL : List (String × Nat × MethodName) := [("CallMigrator$State", 46, ⟨"CallMigrator$Program", "<init>", "()V"⟩), ("CallMigrator", 25, ⟨"CallMigrator$InputText", "<init>", "()V"⟩), ("CallMigrator", 32, ⟨"CallMigrator$Program", "<init>", "()V"⟩), ("CallMigrator", 39, ⟨"CallMigrator$ProgramText", "<init>", "()V"⟩), ("CallMigrator", 46, ⟨"CallMigrator$Evaluator", "<init>", "()V"⟩), ("CallMigrator", 53, ⟨"CallMigrator$Mover", "<init>", "()V"⟩), ("CallMigrator$Mover", 11, ⟨"CallMigrator$Program", "<init>", "()V"⟩), ("CallMigrator$FunctionTable", 37, ⟨"CallMigrator", "within", "(III)Z"⟩), ("CallMigrator$Mappings", 27, ⟨"CallMigrator", "within", "(III)Z"⟩), ("CallMigrator$State", 113, ⟨"CallMigrator", "within", "(III)Z"⟩), ("CallMigrator$InputText", 31, ⟨"CallMigrator", "within", "(III)Z"⟩), ("CallMigrator", 167, ⟨"CallMigrator$Mover", "treatFrom", "(LCallMigrator$State;II)I"⟩), ("CallMigrator$Program", 35, ⟨"CallMigrator", "within", "(III)Z"⟩), ("CallMigrator$State", 131, ⟨"CallMigrator", "isCall", "(I)Z"⟩), ("CallMigrator$Mover", 133, ⟨"CallMigrator", "isSource", "(I)Z"⟩), ("CallMigrator$Evaluator", 33, ⟨"CallMigrator", "isCall", "(I)Z"⟩), ("CallMigrator$ProgramText", 33, ⟨"CallMigrator", "isCall", "(I)Z"⟩)]
def NW (U : State) : Prop := ∀ q ∈ nestL, va_Nw (.methodLinkNest q.1 q.2.1 q.2.2 "CallMigrator") U
theorem NW.warm {s U : State} (hW : s.WarmedH U.vm) (h : NW s) : NW U := fun q hq => va_Nw.warmM hW (h q hq)
section Combs
variable {β : Type}
def brLT (a b : Int) (X Y : Option β) : Option β := if Rg a ∧ Rg b then (if a < b then X else Y) else none
def brLE (a b : Int) (X Y : Option β) : Option β := if Rg a ∧ Rg b then (if a ≤ b then X else Y) else none
def brEQ (a b : Int) (X Y : Option β) : Option β := if Rg a ∧ Rg b then (if a = b then X else Y) else none
def rdK (n : Nat) (f : Nat → Int) (x : Int) (K : Int → Option β) : Option β := if 0 ≤ x ∧ x < n then K (f x.toNat) else none
def wrK (n : Nat) (f : Nat → Int) (x v : Int) (K : (Nat → Int) → Option β) : Option β := if 0 ≤ x ∧ x < n then K (upI f x.toNat v) else none
def dvK (a d : Int) (K : Int → Option β) : Option β := if Rg a then K (a.tdiv d) else none
def rmK (a d : Int) (K : Int → Option β) : Option β := if Rg a then K (a.tmod d) else none
def lgK (a : Int) (X : Option β) : Option β := if Rg a then X else none
def boK (v : Int) (X : Option β) : Option β := if v = 0 ∨ v = 1 then X else none
def lcK (a b : Int) (K : Int → Option β) : Option β := if Rl a ∧ Rl b then K (if b < a then 1 else if a = b then 0 else -1) else none
def mxK (a b : Int) (K : Int → Option β) : Option β := if Rg a ∧ Rg b then K (if a < b then b else a) else none
def mnK (a b : Int) (K : Int → Option β) : Option β := if Rg a ∧ Rg b then K (if b < a then b else a) else none
def cpK (sn dn : Nat) (f g : Nat → Int) (sp dp n : Int) (K : (Nat → Int) → Option β) : Option β := if 0 ≤ sp ∧ 0 ≤ dp ∧ 0 ≤ n ∧ sp + n ≤ sn ∧ dp + n ≤ dn then K (cpI f g sp.toNat dp.toNat n.toNat) else none
end Combs
theorem Rg.to {a : Int} (h : Rg a) : (Int32.ofInt a).toInt = a := Int32.toInt_ofInt_of_le (by have := h.1; omega) (by have := h.2; omega)
theorem Rl.to {a : Int} (h : Rl a) : (Int64.ofInt a).toInt = a := Int64.toInt_ofInt_of_le (by have := h.1; omega) (by have := h.2; omega)
theorem Rg0 : Rg 0 := by decide
theorem ix_in {x : Int} {n : Nat} (hn : n < 2147483648) (h : 0 ≤ x ∧ x < n) : vp_in (Int32.ofInt x) n := by
  rw [vp_in_iff, Rg.to (⟨by omega, by omega⟩ : Rg x)]
  exact h
theorem ix_nat {x : Int} (h0 : 0 ≤ x) (h1 : x < 2147483648) : (Int32.ofInt x).toNatClampNeg = x.toNat := Int32.toNatClampNeg_ofInt_of_le (by omega) (by omega)
theorem upd_arI (f : Nat → Int) (k : Nat) (v : Int) : upd (arI f) k (Int32.ofInt v) = arI (upI f k v) := by
  funext j
  unfold upd arI upI
  split <;> rfl
theorem cpy_arI (f g : Nat → Int) (sp dp n : Nat) : va_cpy (arI f) (arI g) sp dp n = arI (cpI f g sp dp n) := by
  funext j
  unfold va_cpy arI cpI
  split <;> rfl
section GoS
variable {p : Program} {l : Launch} {e : Env} {R : Room} {s : State} {m : MethodId} {args : Array Value} {below : List Frame} {meth : Method} {c : Code} {D : va_G} {cl : List vw_C} {A : Nat → Prop} {Q : State → Prop} {nL ck cn : Nat}
/-- the machine at pc, whatever its heap, with these locals, this stack and this world -/
def GO (p : Program) (l : Launch) (e : Env) (R : Room) (s : State) (m : MethodId) (args : Array Value) (below : List Frame) (meth : Method) (c : Code) (D : va_G) (cl : List vw_C) (A : Nat → Prop) (Q : State → Prop) (nL ck cn : Nat) (pc : Nat) (lv : List (Nat × Value)) (st : List Value) (ws : va_W) : Prop :=
  ∀ (H : Heap) (locs : List Loc) (ls : Array Slot), va_P D cl ws H → va_D A ws → va_S A s.heap H locs → lv_has ls nL lv → W p l e R s m args below meth c H locs ck cn Q (F0 m pc ls st)
/-- what is known of the method at hand -/
def CX (p : Program) (s : State) (m : MethodId) (args : Array Value) (c : Code) (D : va_G) (cl : List vw_C) (tys : List (ClassId × FieldType)) (A : Nat → Prop) (cc : ByteArray) (nL : Nat) (Ts : List Cond) (own : String) : Prop :=
  p.tables.exec = Jvm.exec ∧ c.code = cc ∧ c.maxLocals = nL ∧ s.vm.findClass own = some m.cls ∧ (∀ w ∈ Ts, w.before args s = true) ∧ va_K D cl tys s ∧ (∀ q, s.heap.size ≤ q → A q) ∧ NW s
variable {tys : List (ClassId × FieldType)} {cc : ByteArray} {Ts : List Cond} {own : String} {pc : Nat} {lv : List (Nat × Value)} {st : List Value} {ws : va_W}
theorem g_sub {lv' : List (Nat × Value)} (ks : List Nat) (hl : lv_pick lv ks = lv') (k : GO p l e R s m args below meth c D cl A Q nL ck cn pc lv' st ws) : GO p l e R s m args below meth c D cl A Q nL ck cn pc lv st ws :=
  fun H locs ls hP hD hS hl' => k H locs ls hP hD hS (lv_sub hl' ks hl)
theorem g_world {ws' : va_W} (h : ws = ws') (k : GO p l e R s m args below meth c D cl A Q nL ck cn pc lv st ws') : GO p l e R s m args below meth c D cl A Q nL ck cn pc lv st ws := h ▸ k
theorem g_iconst (X : CX p s m args c D cl tys A cc nL Ts own) {n : Int} (hdg : decode cc pc = .ok (.iconst n, 1)) (k : GO p l e R s m args below meth c D cl A Q nL ck cn (pc + 1) lv (ii n :: st) ws) : GO p l e R s m args below meth c D cl A Q nL ck cn pc lv st ws :=
  fun H locs ls hP hD hS hl => lv_iconst X.1 X.2.1 hdg rfl (k H locs ls hP hD hS hl)
theorem g_bipush (X : CX p s m args c D cl tys A cc nL Ts own) {n : Int} (hdg : decode cc pc = .ok (.bipush n, 2)) (hv : (Int8.ofInt n).toInt32 = Int32.ofInt n) (k : GO p l e R s m args below meth c D cl A Q nL ck cn (pc + 2) lv (ii n :: st) ws) : GO p l e R s m args below meth c D cl A Q nL ck cn pc lv st ws :=
  fun H locs ls hP hD hS hl => lv_bipush X.1 X.2.1 hdg hv (k H locs ls hP hD hS hl)
theorem g_sipush (X : CX p s m args c D cl tys A cc nL Ts own) {n : Int} (hdg : decode cc pc = .ok (.sipush n, 3)) (hv : (Int16.ofInt n).toInt32 = Int32.ofInt n) (k : GO p l e R s m args below meth c D cl A Q nL ck cn (pc + 3) lv (ii n :: st) ws) : GO p l e R s m args below meth c D cl A Q nL ck cn pc lv st ws :=
  fun H locs ls hP hD hS hl => lv_sipush X.1 X.2.1 hdg hv (k H locs ls hP hD hS hl)
theorem g_lconst (X : CX p s m args c D cl tys A cc nL Ts own) {n : Fin 2} (x : Int) (hdg : decode cc pc = .ok (.lconst n, 1)) (hv : Int64.ofNat (n : Nat) = Int64.ofInt x) (k : GO p l e R s m args below meth c D cl A Q nL ck cn (pc + 1) lv (ll x :: st) ws) : GO p l e R s m args below meth c D cl A Q nL ck cn pc lv st ws :=
  fun H locs ls hP hD hS hl => lv_lconst X.1 X.2.1 hdg hv (k H locs ls hP hD hS hl)
theorem g_ldc2 (X : CX p s m args c D cl tys A cc nL Ts own) {i : Nat} {v : Int64} (x : Int) (hdg : decode cc pc = .ok (.ldc2_w i, 3)) (hw : Jvm.Cond.constantLong own i v ∈ Ts) (hv : v = Int64.ofInt x) (k : GO p l e R s m args below meth c D cl A Q nL ck cn (pc + 3) lv (ll x :: st) ws) : GO p l e R s m args below meth c D cl A Q nL ck cn pc lv st ws :=
  fun H locs ls hP hD hS hl => lv_ldc2 X.1 X.2.1 X.2.2.2.1 (X.2.2.2.2.1 _ hw) hdg (by subst hv; exact k H locs ls hP hD hS hl)
theorem g_iload_n (X : CX p s m args c D cl tys A cc nL Ts own) {n : Fin 4} {i : Nat} {x : Int} (hdg : decode cc pc = .ok (.iload_n n, 1)) (j : Nat) (hj : lv[j]? = some (i, ii x)) (hi : (n : Nat) = i) (k : GO p l e R s m args below meth c D cl A Q nL ck cn (pc + 1) lv (ii x :: st) ws) : GO p l e R s m args below meth c D cl A Q nL ck cn pc lv st ws :=
  fun H locs ls hP hD hS hl => lv_iload_n X.1 X.2.1 hdg hi (lv_at hl j hj) (k H locs ls hP hD hS hl)
theorem g_iload (X : CX p s m args c D cl tys A cc nL Ts own) {i : Nat} {x : Int} (hdg : decode cc pc = .ok (.iload i, 2)) (j : Nat) (hj : lv[j]? = some (i, ii x)) (k : GO p l e R s m args below meth c D cl A Q nL ck cn (pc + 2) lv (ii x :: st) ws) : GO p l e R s m args below meth c D cl A Q nL ck cn pc lv st ws :=
  fun H locs ls hP hD hS hl => lv_iload X.1 X.2.1 hdg (lv_at hl j hj) (k H locs ls hP hD hS hl)
theorem g_lload_n (X : CX p s m args c D cl tys A cc nL Ts own) {n : Fin 4} {i : Nat} {x : Int} (hdg : decode cc pc = .ok (.lload_n n, 1)) (j : Nat) (hj : lv[j]? = some (i, ll x)) (hi : (n : Nat) = i) (k : GO p l e R s m args below meth c D cl A Q nL ck cn (pc + 1) lv (ll x :: st) ws) : GO p l e R s m args below meth c D cl A Q nL ck cn pc lv st ws :=
  fun H locs ls hP hD hS hl => lv_lload_n X.1 X.2.1 hdg hi (lv_at hl j hj) (k H locs ls hP hD hS hl)
theorem g_lload (X : CX p s m args c D cl tys A cc nL Ts own) {i : Nat} {x : Int} (hdg : decode cc pc = .ok (.lload i, 2)) (j : Nat) (hj : lv[j]? = some (i, ll x)) (k : GO p l e R s m args below meth c D cl A Q nL ck cn (pc + 2) lv (ll x :: st) ws) : GO p l e R s m args below meth c D cl A Q nL ck cn pc lv st ws :=
  fun H locs ls hP hD hS hl => lv_lload X.1 X.2.1 hdg (lv_at hl j hj) (k H locs ls hP hD hS hl)
theorem g_aload_n (X : CX p s m args c D cl tys A cc nL Ts own) {n : Fin 4} {i x : Nat} (hdg : decode cc pc = .ok (.aload_n n, 1)) (j : Nat) (hj : lv[j]? = some (i, .ref x)) (hi : (n : Nat) = i) (k : GO p l e R s m args below meth c D cl A Q nL ck cn (pc + 1) lv (.ref x :: st) ws) : GO p l e R s m args below meth c D cl A Q nL ck cn pc lv st ws :=
  fun H locs ls hP hD hS hl => lv_aload_n X.1 X.2.1 hdg hi (lv_at hl j hj) (k H locs ls hP hD hS hl)
theorem g_aload (X : CX p s m args c D cl tys A cc nL Ts own) {i x : Nat} (hdg : decode cc pc = .ok (.aload i, 2)) (j : Nat) (hj : lv[j]? = some (i, .ref x)) (k : GO p l e R s m args below meth c D cl A Q nL ck cn (pc + 2) lv (.ref x :: st) ws) : GO p l e R s m args below meth c D cl A Q nL ck cn pc lv st ws :=
  fun H locs ls hP hD hS hl => lv_aload X.1 X.2.1 hdg (lv_at hl j hj) (k H locs ls hP hD hS hl)
theorem g_istore_n (X : CX p s m args c D cl tys A cc nL Ts own) {n : Fin 4} {i : Nat} {x : Int} {lv' : List (Nat × Value)} (hdg : decode cc pc = .ok (.istore_n n, 1)) (hi : (n : Nat) = i) (hn : i < nL) (hl' : (i, ii x) :: lv.filter (fun q => !(q.1 == i) && !(q.1 + 1 == i && q.2.category == 2)) = lv') (k : GO p l e R s m args below meth c D cl A Q nL ck cn (pc + 1) lv' st ws) : GO p l e R s m args below meth c D cl A Q nL ck cn pc lv (ii x :: st) ws :=
  fun H locs _ hP hD hS hl => lv_istore_n X.1 X.2.1 hdg hi hl hn hl' (fun ls hl => k H locs ls hP hD hS hl)
theorem g_istore (X : CX p s m args c D cl tys A cc nL Ts own) {i : Nat} {x : Int} {lv' : List (Nat × Value)} (hdg : decode cc pc = .ok (.istore i, 2)) (hn : i < nL) (hl' : (i, ii x) :: lv.filter (fun q => !(q.1 == i) && !(q.1 + 1 == i && q.2.category == 2)) = lv') (k : GO p l e R s m args below meth c D cl A Q nL ck cn (pc + 2) lv' st ws) : GO p l e R s m args below meth c D cl A Q nL ck cn pc lv (ii x :: st) ws :=
  fun H locs _ hP hD hS hl => lv_istore X.1 X.2.1 hdg hl hn hl' (fun ls hl => k H locs ls hP hD hS hl)
theorem g_lstore_n (X : CX p s m args c D cl tys A cc nL Ts own) {n : Fin 4} {i : Nat} {x : Int} {lv' : List (Nat × Value)} (hdg : decode cc pc = .ok (.lstore_n n, 1)) (hi : (n : Nat) = i) (hn : i + 1 < nL) (hl' : (i, ll x) :: lv.filter (fun q => !(q.1 == i) && (!(q.1 == i + 1) && !(q.1 + 1 == i && q.2.category == 2))) = lv') (k : GO p l e R s m args below meth c D cl A Q nL ck cn (pc + 1) lv' st ws) : GO p l e R s m args below meth c D cl A Q nL ck cn pc lv (ll x :: st) ws :=
  fun H locs _ hP hD hS hl => lv_lstore_n X.1 X.2.1 hdg hi hl hn hl' (fun ls hl => k H locs ls hP hD hS hl)
theorem g_astore_n (X : CX p s m args c D cl tys A cc nL Ts own) {n : Fin 4} {i x : Nat} {lv' : List (Nat × Value)} (hdg : decode cc pc = .ok (.astore_n n, 1)) (hi : (n : Nat) = i) (hn : i < nL) (hl' : (i, Value.ref x) :: lv.filter (fun q => !(q.1 == i) && !(q.1 + 1 == i && q.2.category == 2)) = lv') (k : GO p l e R s m args below meth c D cl A Q nL ck cn (pc + 1) lv' st ws) : GO p l e R s m args below meth c D cl A Q nL ck cn pc lv (.ref x :: st) ws :=
  fun H locs _ hP hD hS hl => lv_astore_n X.1 X.2.1 hdg hi hl hn hl' (fun ls hl => k H locs ls hP hD hS hl)
theorem g_astore (X : CX p s m args c D cl tys A cc nL Ts own) {i x : Nat} {lv' : List (Nat × Value)} (hdg : decode cc pc = .ok (.astore i, 2)) (hn : i < nL) (hl' : (i, Value.ref x) :: lv.filter (fun q => !(q.1 == i) && !(q.1 + 1 == i && q.2.category == 2)) = lv') (k : GO p l e R s m args below meth c D cl A Q nL ck cn (pc + 2) lv' st ws) : GO p l e R s m args below meth c D cl A Q nL ck cn pc lv (.ref x :: st) ws :=
  fun H locs _ hP hD hS hl => lv_astore X.1 X.2.1 hdg hl hn hl' (fun ls hl => k H locs ls hP hD hS hl)
theorem g_iinc (X : CX p s m args c D cl tys A cc nL Ts own) {i : Nat} {n x : Int} {lv' : List (Nat × Value)} (hdg : decode cc pc = .ok (.iinc i n, 3)) (j : Nat) (hj : lv[j]? = some (i, ii x)) (hn : i < nL) (hl' : (i, ii (x + n)) :: lv.filter (fun q => !(q.1 == i) && !(q.1 + 1 == i && q.2.category == 2)) = lv') (k : GO p l e R s m args below meth c D cl A Q nL ck cn (pc + 3) lv' st ws) : GO p l e R s m args below meth c D cl A Q nL ck cn pc lv st ws :=
  fun H locs _ hP hD hS hl => lv_iinc X.1 X.2.1 hdg hl hj (Int32.ofInt_add x n).symm hn hl' (fun ls hl => k H locs ls hP hD hS hl)
theorem g_iadd (X : CX p s m args c D cl tys A cc nL Ts own) {x y : Int} (hdg : decode cc pc = .ok (.iadd, 1)) (k : GO p l e R s m args below meth c D cl A Q nL ck cn (pc + 1) lv (ii (x + y) :: st) ws) : GO p l e R s m args below meth c D cl A Q nL ck cn pc lv (ii y :: ii x :: st) ws :=
  fun H locs ls hP hD hS hl => lv_iadd X.1 X.2.1 hdg (by rw [← Int32.ofInt_add]; exact k H locs ls hP hD hS hl)
theorem g_isub (X : CX p s m args c D cl tys A cc nL Ts own) {x y : Int} (hdg : decode cc pc = .ok (.isub, 1)) (k : GO p l e R s m args below meth c D cl A Q nL ck cn (pc + 1) lv (ii (x - y) :: st) ws) : GO p l e R s m args below meth c D cl A Q nL ck cn pc lv (ii y :: ii x :: st) ws :=
  fun H locs ls hP hD hS hl => lv_isub X.1 X.2.1 hdg (by rw [← Int32.ofInt_sub]; exact k H locs ls hP hD hS hl)
theorem g_imul (X : CX p s m args c D cl tys A cc nL Ts own) {x y : Int} (hdg : decode cc pc = .ok (.imul, 1)) (k : GO p l e R s m args below meth c D cl A Q nL ck cn (pc + 1) lv (ii (x * y) :: st) ws) : GO p l e R s m args below meth c D cl A Q nL ck cn pc lv (ii y :: ii x :: st) ws :=
  fun H locs ls hP hD hS hl => lv_imul X.1 X.2.1 hdg (by rw [← Int32.ofInt_mul]; exact k H locs ls hP hD hS hl)
theorem g_ladd (X : CX p s m args c D cl tys A cc nL Ts own) {x y : Int} (hdg : decode cc pc = .ok (.ladd, 1)) (k : GO p l e R s m args below meth c D cl A Q nL ck cn (pc + 1) lv (ll (x + y) :: st) ws) : GO p l e R s m args below meth c D cl A Q nL ck cn pc lv (ll y :: ll x :: st) ws :=
  fun H locs ls hP hD hS hl => lv_ladd X.1 X.2.1 hdg (by rw [← Int64.ofInt_add]; exact k H locs ls hP hD hS hl)
theorem g_lmul (X : CX p s m args c D cl tys A cc nL Ts own) {x y : Int} (hdg : decode cc pc = .ok (.lmul, 1)) (k : GO p l e R s m args below meth c D cl A Q nL ck cn (pc + 1) lv (ll (x * y) :: st) ws) : GO p l e R s m args below meth c D cl A Q nL ck cn pc lv (ll y :: ll x :: st) ws :=
  fun H locs ls hP hD hS hl => lv_lmul X.1 X.2.1 hdg (by rw [← Int64.ofInt_mul]; exact k H locs ls hP hD hS hl)
theorem g_dup (X : CX p s m args c D cl tys A cc nL Ts own) {v : Value} (hdg : decode cc pc = .ok (.dup, 1)) (hv : v.category = 1) (k : GO p l e R s m args below meth c D cl A Q nL ck cn (pc + 1) lv (v :: v :: st) ws) : GO p l e R s m args below meth c D cl A Q nL ck cn pc lv (v :: st) ws :=
  fun H locs ls hP hD hS hl => lv_dup X.1 X.2.1 hdg hv (k H locs ls hP hD hS hl)
theorem g_dup2 (X : CX p s m args c D cl tys A cc nL Ts own) {v w : Value} (hdg : decode cc pc = .ok (.dup2, 1)) (hv : v.category = 1) (hw : w.category = 1) (k : GO p l e R s m args below meth c D cl A Q nL ck cn (pc + 1) lv (v :: w :: v :: w :: st) ws) : GO p l e R s m args below meth c D cl A Q nL ck cn pc lv (v :: w :: st) ws :=
  fun H locs ls hP hD hS hl => lv_dup2_11 X.1 X.2.1 hdg hv hw (k H locs ls hP hD hS hl)
theorem g_pop (X : CX p s m args c D cl tys A cc nL Ts own) {v : Value} (hdg : decode cc pc = .ok (.pop, 1)) (hv : v.category = 1) (k : GO p l e R s m args below meth c D cl A Q nL ck cn (pc + 1) lv st ws) : GO p l e R s m args below meth c D cl A Q nL ck cn pc lv (v :: st) ws :=
  fun H locs ls hP hD hS hl => lv_pop X.1 X.2.1 hdg hv (k H locs ls hP hD hS hl)
theorem g_goto (X : CX p s m args c D cl tys A cc nL Ts own) {off : Int} (tgt : Nat) (hdg : decode cc pc = .ok (.goto off, 3)) (ht : (pc : Int) + off = (tgt : Int)) (k : GO p l e R s m args below meth c D cl A Q nL ck cn tgt lv st ws) : GO p l e R s m args below meth c D cl A Q nL ck cn pc lv st ws :=
  fun H locs ls hP hD hS hl => lv_goto X.1 X.2.1 hdg ht (k H locs ls hP hD hS hl)
end GoS
