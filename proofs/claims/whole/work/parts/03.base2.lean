section SomeS
variable {β : Type} {r : β} {a b d x v : Int} {n sn dn : Nat} {f g : Nat → Int} {X Y : Option β} {K : Int → Option β} {F : (Nat → Int) → Option β}
theorem brLT_some (h : brLT a b X Y = some r) : (Rg a ∧ Rg b) ∧ ((a < b ∧ X = some r) ∨ (¬ a < b ∧ Y = some r)) := by
  unfold brLT at h
  by_cases h1 : Rg a ∧ Rg b
  · rw [if_pos h1] at h
    by_cases h2 : a < b
    · rw [if_pos h2] at h; exact ⟨h1, Or.inl ⟨h2, h⟩⟩
    · rw [if_neg h2] at h; exact ⟨h1, Or.inr ⟨h2, h⟩⟩
  · rw [if_neg h1] at h; cases h
theorem brLE_some (h : brLE a b X Y = some r) : (Rg a ∧ Rg b) ∧ ((a ≤ b ∧ X = some r) ∨ (¬ a ≤ b ∧ Y = some r)) := by
  unfold brLE at h
  by_cases h1 : Rg a ∧ Rg b
  · rw [if_pos h1] at h
    by_cases h2 : a ≤ b
    · rw [if_pos h2] at h; exact ⟨h1, Or.inl ⟨h2, h⟩⟩
    · rw [if_neg h2] at h; exact ⟨h1, Or.inr ⟨h2, h⟩⟩
  · rw [if_neg h1] at h; cases h
theorem brEQ_some (h : brEQ a b X Y = some r) : (Rg a ∧ Rg b) ∧ ((a = b ∧ X = some r) ∨ (¬ a = b ∧ Y = some r)) := by
  unfold brEQ at h
  by_cases h1 : Rg a ∧ Rg b
  · rw [if_pos h1] at h
    by_cases h2 : a = b
    · rw [if_pos h2] at h; exact ⟨h1, Or.inl ⟨h2, h⟩⟩
    · rw [if_neg h2] at h; exact ⟨h1, Or.inr ⟨h2, h⟩⟩
  · rw [if_neg h1] at h; cases h
theorem rdK_some (h : rdK n f x K = some r) : (0 ≤ x ∧ x < n) ∧ K (f x.toNat) = some r := by
  unfold rdK at h
  by_cases h1 : 0 ≤ x ∧ x < n
  · rw [if_pos h1] at h; exact ⟨h1, h⟩
  · rw [if_neg h1] at h; cases h
theorem wrK_some (h : wrK n f x v F = some r) : (0 ≤ x ∧ x < n) ∧ F (upI f x.toNat v) = some r := by
  unfold wrK at h
  by_cases h1 : 0 ≤ x ∧ x < n
  · rw [if_pos h1] at h; exact ⟨h1, h⟩
  · rw [if_neg h1] at h; cases h
theorem dvK_some (h : dvK a d K = some r) : Rg a ∧ K (a.tdiv d) = some r := by
  unfold dvK at h
  by_cases h1 : Rg a
  · rw [if_pos h1] at h; exact ⟨h1, h⟩
  · rw [if_neg h1] at h; cases h
theorem rmK_some (h : rmK a d K = some r) : Rg a ∧ K (a.tmod d) = some r := by
  unfold rmK at h
  by_cases h1 : Rg a
  · rw [if_pos h1] at h; exact ⟨h1, h⟩
  · rw [if_neg h1] at h; cases h
theorem lgK_some (h : lgK a X = some r) : Rg a ∧ X = some r := by
  unfold lgK at h
  by_cases h1 : Rg a
  · rw [if_pos h1] at h; exact ⟨h1, h⟩
  · rw [if_neg h1] at h; cases h
theorem boK_some (h : boK v X = some r) : (v = 0 ∨ v = 1) ∧ X = some r := by
  unfold boK at h
  by_cases h1 : v = 0 ∨ v = 1
  · rw [if_pos h1] at h; exact ⟨h1, h⟩
  · rw [if_neg h1] at h; cases h
theorem lcK_some (h : lcK a b K = some r) : (Rl a ∧ Rl b) ∧ K (if b < a then 1 else if a = b then 0 else -1) = some r := by
  unfold lcK at h
  by_cases h1 : Rl a ∧ Rl b
  · rw [if_pos h1] at h; exact ⟨h1, h⟩
  · rw [if_neg h1] at h; cases h
theorem mxK_some (h : mxK a b K = some r) : (Rg a ∧ Rg b) ∧ K (if a < b then b else a) = some r := by
  unfold mxK at h
  by_cases h1 : Rg a ∧ Rg b
  · rw [if_pos h1] at h; exact ⟨h1, h⟩
  · rw [if_neg h1] at h; cases h
theorem mnK_some (h : mnK a b K = some r) : (Rg a ∧ Rg b) ∧ K (if b < a then b else a) = some r := by
  unfold mnK at h
  by_cases h1 : Rg a ∧ Rg b
  · rw [if_pos h1] at h; exact ⟨h1, h⟩
  · rw [if_neg h1] at h; cases h
theorem cpK_some {sp dp m : Int} (h : cpK sn dn f g sp dp m F = some r) : (0 ≤ sp ∧ 0 ≤ dp ∧ 0 ≤ m ∧ sp + m ≤ sn ∧ dp + m ≤ dn) ∧ F (cpI f g sp.toNat dp.toNat m.toNat) = some r := by
  unfold cpK at h
  by_cases h1 : 0 ≤ sp ∧ 0 ≤ dp ∧ 0 ≤ m ∧ sp + m ≤ sn ∧ dp + m ≤ dn
  · rw [if_pos h1] at h; exact ⟨h1, h⟩
  · rw [if_neg h1] at h; cases h
end SomeS
theorem i32_lt {a b : Int} (ha : Rg a) (hb : Rg b) : (Int32.ofInt a < Int32.ofInt b) ↔ a < b := by rw [Int32.lt_iff_toInt_lt, ha.to, hb.to]
theorem i32_le {a b : Int} (ha : Rg a) (hb : Rg b) : (Int32.ofInt a ≤ Int32.ofInt b) ↔ a ≤ b := by rw [Int32.le_iff_toInt_le, ha.to, hb.to]
theorem i32_eq {a b : Int} (ha : Rg a) (hb : Rg b) : (Int32.ofInt a = Int32.ofInt b) ↔ a = b := by rw [← Int32.toInt_inj, ha.to, hb.to]
theorem i32_zero : (0 : Int32) = Int32.ofInt 0 := rfl
section GoT
variable {p : Program} {l : Launch} {e : Env} {R : Room} {s : State} {m : MethodId} {args : Array Value} {below : List Frame} {meth : Method} {c : Code} {D : va_G} {cl : List vw_C} {A : Nat → Prop} {Q : State → Prop} {nL ck cn : Nat}
variable {tys : List (ClassId × FieldType)} {cc : ByteArray} {Ts : List Cond} {own : String} {pc : Nat} {lv : List (Nat × Value)} {st : List Value} {ws : va_W}
variable {β : Type} {r : β} {x y : Int} {X1 Y1 : Option β} {K : Int → Option β}
theorem g_icmp_lt (X : CX p s m args c D cl tys A cc nL Ts own) (hf : brLT x y X1 Y1 = some r) {off : Int} (tgt : Nat) (hdg : decode cc pc = .ok (.if_icmp .lt off, 3)) (ht : (pc : Int) + off = (tgt : Int)) (k1 : X1 = some r → GO p l e R s m args below meth c D cl A Q nL ck cn tgt lv st ws) (k2 : Y1 = some r → GO p l e R s m args below meth c D cl A Q nL ck cn (pc + 3) lv st ws) : GO p l e R s m args below meth c D cl A Q nL ck cn pc lv (ii y :: ii x :: st) ws := by
  intro H locs ls hP hD hS hl
  obtain ⟨⟨h1, h2⟩, h3⟩ := brLT_some hf
  refine lv_icmp_lt X.1 X.2.1 hdg ht (fun h => ?_) (fun h => ?_) <;> rw [i32_lt h1 h2] at h <;> rcases h3 with ⟨h4, h5⟩ | ⟨h4, h5⟩
  · exact k1 h5 H locs ls hP hD hS hl
  · exact absurd h h4
  · exact absurd h4 h
  · exact k2 h5 H locs ls hP hD hS hl
theorem g_icmp_ge (X : CX p s m args c D cl tys A cc nL Ts own) (hf : brLT x y X1 Y1 = some r) {off : Int} (tgt : Nat) (hdg : decode cc pc = .ok (.if_icmp .ge off, 3)) (ht : (pc : Int) + off = (tgt : Int)) (k1 : X1 = some r → GO p l e R s m args below meth c D cl A Q nL ck cn (pc + 3) lv st ws) (k2 : Y1 = some r → GO p l e R s m args below meth c D cl A Q nL ck cn tgt lv st ws) : GO p l e R s m args below meth c D cl A Q nL ck cn pc lv (ii y :: ii x :: st) ws := by
  intro H locs ls hP hD hS hl
  obtain ⟨⟨h1, h2⟩, h3⟩ := brLT_some hf
  refine lv_icmp_ge X.1 X.2.1 hdg ht (fun h => ?_) (fun h => ?_) <;> rw [i32_le h2 h1] at h <;> rcases h3 with ⟨h4, h5⟩ | ⟨h4, h5⟩
  · exact absurd h (by omega)
  · exact k2 h5 H locs ls hP hD hS hl
  · exact k1 h5 H locs ls hP hD hS hl
  · exact absurd h (by omega)
theorem g_icmp_gt (X : CX p s m args c D cl tys A cc nL Ts own) (hf : brLE x y X1 Y1 = some r) {off : Int} (tgt : Nat) (hdg : decode cc pc = .ok (.if_icmp .gt off, 3)) (ht : (pc : Int) + off = (tgt : Int)) (k1 : X1 = some r → GO p l e R s m args below meth c D cl A Q nL ck cn (pc + 3) lv st ws) (k2 : Y1 = some r → GO p l e R s m args below meth c D cl A Q nL ck cn tgt lv st ws) : GO p l e R s m args below meth c D cl A Q nL ck cn pc lv (ii y :: ii x :: st) ws := by
  intro H locs ls hP hD hS hl
  obtain ⟨⟨h1, h2⟩, h3⟩ := brLE_some hf
  refine lv_icmp_gt X.1 X.2.1 hdg ht (fun h => ?_) (fun h => ?_) <;> rw [i32_lt h2 h1] at h <;> rcases h3 with ⟨h4, h5⟩ | ⟨h4, h5⟩
  · exact absurd h (by omega)
  · exact k2 h5 H locs ls hP hD hS hl
  · exact k1 h5 H locs ls hP hD hS hl
  · exact absurd h (by omega)
theorem g_icmp_le (X : CX p s m args c D cl tys A cc nL Ts own) (hf : brLE x y X1 Y1 = some r) {off : Int} (tgt : Nat) (hdg : decode cc pc = .ok (.if_icmp .le off, 3)) (ht : (pc : Int) + off = (tgt : Int)) (k1 : X1 = some r → GO p l e R s m args below meth c D cl A Q nL ck cn tgt lv st ws) (k2 : Y1 = some r → GO p l e R s m args below meth c D cl A Q nL ck cn (pc + 3) lv st ws) : GO p l e R s m args below meth c D cl A Q nL ck cn pc lv (ii y :: ii x :: st) ws := by
  intro H locs ls hP hD hS hl
  obtain ⟨⟨h1, h2⟩, h3⟩ := brLE_some hf
  refine lv_icmp_le X.1 X.2.1 hdg ht (fun h => ?_) (fun h => ?_) <;> rw [i32_le h1 h2] at h <;> rcases h3 with ⟨h4, h5⟩ | ⟨h4, h5⟩
  · exact k1 h5 H locs ls hP hD hS hl
  · exact absurd h h4
  · exact absurd h4 h
  · exact k2 h5 H locs ls hP hD hS hl
theorem g_icmp_eq (X : CX p s m args c D cl tys A cc nL Ts own) (hf : brEQ x y X1 Y1 = some r) {off : Int} (tgt : Nat) (hdg : decode cc pc = .ok (.if_icmp .eq off, 3)) (ht : (pc : Int) + off = (tgt : Int)) (k1 : X1 = some r → GO p l e R s m args below meth c D cl A Q nL ck cn tgt lv st ws) (k2 : Y1 = some r → GO p l e R s m args below meth c D cl A Q nL ck cn (pc + 3) lv st ws) : GO p l e R s m args below meth c D cl A Q nL ck cn pc lv (ii y :: ii x :: st) ws := by
  intro H locs ls hP hD hS hl
  obtain ⟨⟨h1, h2⟩, h3⟩ := brEQ_some hf
  refine lv_icmp_eq X.1 X.2.1 hdg ht (fun h => ?_) (fun h => ?_) <;> rw [i32_eq h1 h2] at h <;> rcases h3 with ⟨h4, h5⟩ | ⟨h4, h5⟩
  · exact k1 h5 H locs ls hP hD hS hl
  · exact absurd h h4
  · exact absurd h4 h
  · exact k2 h5 H locs ls hP hD hS hl
theorem g_icmp_ne (X : CX p s m args c D cl tys A cc nL Ts own) (hf : brEQ x y X1 Y1 = some r) {off : Int} (tgt : Nat) (hdg : decode cc pc = .ok (.if_icmp .ne off, 3)) (ht : (pc : Int) + off = (tgt : Int)) (k1 : X1 = some r → GO p l e R s m args below meth c D cl A Q nL ck cn (pc + 3) lv st ws) (k2 : Y1 = some r → GO p l e R s m args below meth c D cl A Q nL ck cn tgt lv st ws) : GO p l e R s m args below meth c D cl A Q nL ck cn pc lv (ii y :: ii x :: st) ws := by
  intro H locs ls hP hD hS hl
  obtain ⟨⟨h1, h2⟩, h3⟩ := brEQ_some hf
  refine lv_icmp_ne X.1 X.2.1 hdg ht (fun h => ?_) (fun h => ?_) <;> rw [i32_eq h1 h2] at h <;> rcases h3 with ⟨h4, h5⟩ | ⟨h4, h5⟩
  · exact absurd h4 h
  · exact k2 h5 H locs ls hP hD hS hl
  · exact k1 h5 H locs ls hP hD hS hl
  · exact absurd h h4
theorem g_if_lt (X : CX p s m args c D cl tys A cc nL Ts own) (hf : brLT x 0 X1 Y1 = some r) {off : Int} (tgt : Nat) (hdg : decode cc pc = .ok (.ifCond .lt off, 3)) (ht : (pc : Int) + off = (tgt : Int)) (k1 : X1 = some r → GO p l e R s m args below meth c D cl A Q nL ck cn tgt lv st ws) (k2 : Y1 = some r → GO p l e R s m args below meth c D cl A Q nL ck cn (pc + 3) lv st ws) : GO p l e R s m args below meth c D cl A Q nL ck cn pc lv (ii x :: st) ws := by
  intro H locs ls hP hD hS hl
  obtain ⟨⟨h1, h2⟩, h3⟩ := brLT_some hf
  refine lv_if_lt X.1 X.2.1 hdg ht (fun h => ?_) (fun h => ?_) <;> rw [i32_zero, i32_lt h1 h2] at h <;> rcases h3 with ⟨h4, h5⟩ | ⟨h4, h5⟩
  · exact k1 h5 H locs ls hP hD hS hl
  · exact absurd h h4
  · exact absurd h4 h
  · exact k2 h5 H locs ls hP hD hS hl
theorem g_if_ge (X : CX p s m args c D cl tys A cc nL Ts own) (hf : brLT x 0 X1 Y1 = some r) {off : Int} (tgt : Nat) (hdg : decode cc pc = .ok (.ifCond .ge off, 3)) (ht : (pc : Int) + off = (tgt : Int)) (k1 : X1 = some r → GO p l e R s m args below meth c D cl A Q nL ck cn (pc + 3) lv st ws) (k2 : Y1 = some r → GO p l e R s m args below meth c D cl A Q nL ck cn tgt lv st ws) : GO p l e R s m args below meth c D cl A Q nL ck cn pc lv (ii x :: st) ws := by
  intro H locs ls hP hD hS hl
  obtain ⟨⟨h1, h2⟩, h3⟩ := brLT_some hf
  refine lv_if_ge X.1 X.2.1 hdg ht (fun h => ?_) (fun h => ?_) <;> rw [i32_zero, i32_le h2 h1] at h <;> rcases h3 with ⟨h4, h5⟩ | ⟨h4, h5⟩
  · exact absurd h (by omega)
  · exact k2 h5 H locs ls hP hD hS hl
  · exact k1 h5 H locs ls hP hD hS hl
  · exact absurd h (by omega)
theorem g_if_gt (X : CX p s m args c D cl tys A cc nL Ts own) (hf : brLE x 0 X1 Y1 = some r) {off : Int} (tgt : Nat) (hdg : decode cc pc = .ok (.ifCond .gt off, 3)) (ht : (pc : Int) + off = (tgt : Int)) (k1 : X1 = some r → GO p l e R s m args below meth c D cl A Q nL ck cn (pc + 3) lv st ws) (k2 : Y1 = some r → GO p l e R s m args below meth c D cl A Q nL ck cn tgt lv st ws) : GO p l e R s m args below meth c D cl A Q nL ck cn pc lv (ii x :: st) ws := by
  intro H locs ls hP hD hS hl
  obtain ⟨⟨h1, h2⟩, h3⟩ := brLE_some hf
  refine lv_if_gt X.1 X.2.1 hdg ht (fun h => ?_) (fun h => ?_) <;> rw [i32_zero, i32_lt h2 h1] at h <;> rcases h3 with ⟨h4, h5⟩ | ⟨h4, h5⟩
  · exact absurd h (by omega)
  · exact k2 h5 H locs ls hP hD hS hl
  · exact k1 h5 H locs ls hP hD hS hl
  · exact absurd h (by omega)
theorem g_if_le (X : CX p s m args c D cl tys A cc nL Ts own) (hf : brLE x 0 X1 Y1 = some r) {off : Int} (tgt : Nat) (hdg : decode cc pc = .ok (.ifCond .le off, 3)) (ht : (pc : Int) + off = (tgt : Int)) (k1 : X1 = some r → GO p l e R s m args below meth c D cl A Q nL ck cn tgt lv st ws) (k2 : Y1 = some r → GO p l e R s m args below meth c D cl A Q nL ck cn (pc + 3) lv st ws) : GO p l e R s m args below meth c D cl A Q nL ck cn pc lv (ii x :: st) ws := by
  intro H locs ls hP hD hS hl
  obtain ⟨⟨h1, h2⟩, h3⟩ := brLE_some hf
  refine lv_if_le X.1 X.2.1 hdg ht (fun h => ?_) (fun h => ?_) <;> rw [i32_zero, i32_le h1 h2] at h <;> rcases h3 with ⟨h4, h5⟩ | ⟨h4, h5⟩
  · exact k1 h5 H locs ls hP hD hS hl
  · exact absurd h h4
  · exact absurd h4 h
  · exact k2 h5 H locs ls hP hD hS hl
theorem g_if_eq (X : CX p s m args c D cl tys A cc nL Ts own) (hf : brEQ x 0 X1 Y1 = some r) {off : Int} (tgt : Nat) (hdg : decode cc pc = .ok (.ifCond .eq off, 3)) (ht : (pc : Int) + off = (tgt : Int)) (k1 : X1 = some r → GO p l e R s m args below meth c D cl A Q nL ck cn tgt lv st ws) (k2 : Y1 = some r → GO p l e R s m args below meth c D cl A Q nL ck cn (pc + 3) lv st ws) : GO p l e R s m args below meth c D cl A Q nL ck cn pc lv (ii x :: st) ws := by
  intro H locs ls hP hD hS hl
  obtain ⟨⟨h1, h2⟩, h3⟩ := brEQ_some hf
  refine lv_if_eq X.1 X.2.1 hdg ht (fun h => ?_) (fun h => ?_) <;> rw [i32_zero, i32_eq h1 h2] at h <;> rcases h3 with ⟨h4, h5⟩ | ⟨h4, h5⟩
  · exact k1 h5 H locs ls hP hD hS hl
  · exact absurd h h4
  · exact absurd h4 h
  · exact k2 h5 H locs ls hP hD hS hl
theorem g_if_ne (X : CX p s m args c D cl tys A cc nL Ts own) (hf : brEQ x 0 X1 Y1 = some r) {off : Int} (tgt : Nat) (hdg : decode cc pc = .ok (.ifCond .ne off, 3)) (ht : (pc : Int) + off = (tgt : Int)) (k1 : X1 = some r → GO p l e R s m args below meth c D cl A Q nL ck cn (pc + 3) lv st ws) (k2 : Y1 = some r → GO p l e R s m args below meth c D cl A Q nL ck cn tgt lv st ws) : GO p l e R s m args below meth c D cl A Q nL ck cn pc lv (ii x :: st) ws := by
  intro H locs ls hP hD hS hl
  obtain ⟨⟨h1, h2⟩, h3⟩ := brEQ_some hf
  refine lv_if_ne X.1 X.2.1 hdg ht (fun h => ?_) (fun h => ?_) <;> rw [i32_zero, i32_eq h1 h2] at h <;> rcases h3 with ⟨h4, h5⟩ | ⟨h4, h5⟩
  · exact absurd h4 h
  · exact k2 h5 H locs ls hP hD hS hl
  · exact k1 h5 H locs ls hP hD hS hl
  · exact absurd h h4
theorem i32_div {a d : Int} (ha : Rg a) (hd : 0 < d ∧ d ≤ 2147483647) : Int32.ofInt (a.tdiv d) = Int32.ofInt a / Int32.ofInt d := by
  have h2 : Rg d := ⟨by omega, hd.2⟩
  rw [← Int32.toInt_inj, Int32.toInt_div, ha.to, h2.to, Int32.toInt_ofInt]
theorem i32_ne0 {d : Int} (hd : 0 < d ∧ d ≤ 2147483647) : ¬ Int32.ofInt d = 0 := by
  have h2 : Rg d := ⟨by omega, hd.2⟩
  rw [i32_zero, i32_eq h2 Rg0]; omega
theorem g_idiv (X : CX p s m args c D cl tys A cc nL Ts own) (hf : dvK x y K = some r) (hd : 0 < y ∧ y ≤ 2147483647) (hdg : decode cc pc = .ok (.idiv, 1)) (kk : ∀ v, K v = some r → GO p l e R s m args below meth c D cl A Q nL ck cn (pc + 1) lv (ii v :: st) ws) : GO p l e R s m args below meth c D cl A Q nL ck cn pc lv (ii y :: ii x :: st) ws := by
  intro H locs ls hP hD hS hl
  obtain ⟨h1, h2⟩ := dvK_some hf
  refine lv_idiv X.1 X.2.1 hdg (i32_ne0 hd) ?_
  rw [← i32_div h1 hd]
  exact kk _ h2 H locs ls hP hD hS hl
theorem g_irem (X : CX p s m args c D cl tys A cc nL Ts own) (hf : rmK x y K = some r) (hd : 0 < y ∧ y ≤ 2147483647) (hdg : decode cc pc = .ok (.irem, 1)) (kk : ∀ v, K v = some r → GO p l e R s m args below meth c D cl A Q nL ck cn (pc + 1) lv (ii v :: st) ws) : GO p l e R s m args below meth c D cl A Q nL ck cn pc lv (ii y :: ii x :: st) ws := by
  intro H locs ls hP hD hS hl
  obtain ⟨h1, h2⟩ := rmK_some hf
  refine lv_irem X.1 X.2.1 hdg (i32_ne0 hd) ?_
  rw [← i32_div h1 hd, ← Int32.ofInt_mul, ← Int32.ofInt_sub, Int.mul_comm, ← Int.tmod_def]
  exact kk _ h2 H locs ls hP hD hS hl
theorem g_i2l (X : CX p s m args c D cl tys A cc nL Ts own) (hf : lgK x X1 = some r) (hdg : decode cc pc = .ok (.i2l, 1)) (kk : X1 = some r → GO p l e R s m args below meth c D cl A Q nL ck cn (pc + 1) lv (ll x :: st) ws) : GO p l e R s m args below meth c D cl A Q nL ck cn pc lv (ii x :: st) ws := by
  intro H locs ls hP hD hS hl
  obtain ⟨h1, h2⟩ := lgK_some hf
  refine lv_i2l X.1 X.2.1 hdg (v := Int64.ofInt x) ?_ (kk h2 H locs ls hP hD hS hl)
  rw [← Int64.toInt_inj, Int32.toInt_toInt64, h1.to, Rl.to ⟨by have := h1.1; omega, by have := h1.2; omega⟩]
theorem g_lcmp (X : CX p s m args c D cl tys A cc nL Ts own) (hf : lcK x y K = some r) (hdg : decode cc pc = .ok (.lcmp, 1)) (kk : ∀ v, K v = some r → GO p l e R s m args below meth c D cl A Q nL ck cn (pc + 1) lv (ii v :: st) ws) : GO p l e R s m args below meth c D cl A Q nL ck cn pc lv (ll y :: ll x :: st) ws := by
  intro H locs ls hP hD hS hl
  obtain ⟨⟨h1, h2⟩, h3⟩ := lcK_some hf
  refine W.lcmp X.1 X.2.1 hdg ?_
  have he : lg_cmp (Int64.ofInt x) (Int64.ofInt y) = Int32.ofInt (if y < x then 1 else if x = y then 0 else -1) := by
    have e1 : (Int64.ofInt x > Int64.ofInt y) ↔ y < x := by
      show (Int64.ofInt y < Int64.ofInt x) ↔ y < x
      rw [Int64.lt_iff_toInt_lt, h1.to, h2.to]
    have e2 : (Int64.ofInt x = Int64.ofInt y) ↔ x = y := by rw [← Int64.toInt_inj, h1.to, h2.to]
    unfold lg_cmp
    by_cases q1 : y < x
    · rw [if_pos (e1.mpr q1), if_pos q1]; rfl
    · rw [if_neg (fun h => q1 (e1.mp h)), if_neg q1]
      by_cases q2 : x = y
      · rw [if_pos (e2.mpr q2), if_pos q2]; rfl
      · rw [if_neg (fun h => q2 (e2.mp h)), if_neg q2]; rfl
  rw [he]
  exact kk _ h3 H locs ls hP hD hS hl
theorem g_get (X : CX p s m args c D cl tys A cc nL Ts own) {a ci idx N : Nat} {C : String} {T : u_T} {fs : List Value} {v : Value} (q0 k : Nat) (hdg : decode cc pc = .ok (.getfield idx, 3)) (he : ws[q0]? = some (a, .inr (ci, fs))) (hc : cl[ci]? = some (C, T, N)) (hin : ∀ w ∈ u_ws C T N, w ∈ Ts) (hk : k < N) (hlink : Cond.fieldLink own idx (T k).1 (T k).2.1 (T k).2.2.1 ∈ Ts) (hv : fs[k]? = some v) (kk : GO p l e R s m args below meth c D cl A Q nL ck cn (pc + 3) lv (v :: st) ws) : GO p l e R s m args below meth c D cl A Q nL ck cn pc lv (.ref a :: st) ws :=
  fun H locs ls hP hD hS hl => va_get X.1 X.2.1 X.2.2.2.2.1 hin X.2.2.2.1 X.2.2.2.2.2.1 hP q0 he hc k hk (X.2.2.2.2.1 _ hlink) (fun _ h => h) hv hdg (kk H locs ls hP hD hS hl)
theorem g_puti (X : CX p s m args c D cl tys A cc nL Ts own) {a ci idx N : Nat} {C : String} {T : u_T} {fs : List Value} {ty0 : Nat → FieldType} (q0 k : Nat) (hdg : decode cc pc = .ok (.putfield idx, 3)) (he : ws[q0]? = some (a, .inr (ci, fs))) (hc : cl[ci]? = some (C, T, N)) (hin : ∀ w ∈ u_ws C T N, w ∈ Ts) (hty : ∀ k, k < N → parseFieldDescriptor (T k).2.2.1 = some (ty0 k)) (hnm : ∀ a, a < N → ∀ b, b < N → a ≠ b → (T a).2.1 ≠ (T b).2.1) (hk : k < N) (hlink : Cond.fieldLink own idx (T k).1 (T k).2.1 (T k).2.2.1 ∈ Ts) (hfin : (T k).2.2.2 = false) (ht : ty0 k = .int) (hl0 : k < fs.length) {ws' : va_W} (hw : ws.set q0 (a, .inr (ci, fs.set k (ii x))) = ws') (kk : GO p l e R s m args below meth c D cl A Q nL ck cn (pc + 3) lv st ws') : GO p l e R s m args below meth c D cl A Q nL ck cn pc lv (ii x :: .ref a :: st) ws := by
  intro H locs ls hP hD hS hl
  refine va_put (ty := .int) X.1 X.2.1 X.2.2.2.2.1 hin ty0 hty hnm X.2.2.2.1 X.2.2.2.2.2.1 hP hD hS q0 he hc k hk (X.2.2.2.2.1 _ hlink) (fun _ h => h) hfin (by rw [hty k hk, ht]) rfl rfl hl0 hdg (fun H1 locs1 hP1 hD1 hS1 => ?_)
  rw [hw] at hP1 hD1
  exact kk H1 locs1 ls hP1 hD1 hS1 hl
theorem g_iald (X : CX p s m args c D cl tys A cc nL Ts own) {n a : Nat} {f : Nat → Int} {cI : ClassId} (hf : rdK n f x K = some r) (hn : n < 2147483648) (q0 t0 : Nat) (hdg : decode cc pc = .ok (.iaload, 1)) (he : ws[q0]? = some (a, .inl (cI, n, .inl (arI f)))) (ht : tys[t0]? = some (cI, .int)) (kk : ∀ v, K v = some r → GO p l e R s m args below meth c D cl A Q nL ck cn (pc + 1) lv (ii v :: st) ws) : GO p l e R s m args below meth c D cl A Q nL ck cn pc lv (ii x :: .ref a :: st) ws := by
  intro H locs ls hP hD hS hl
  obtain ⟨h1, h2⟩ := rdK_some hf
  refine va_iald X.1 X.2.1 X.2.2.2.2.2.1 hP q0 t0 he ht (ix_in hn h1) hdg ?_
  rw [ix_nat h1.1 (by omega)]
  exact kk _ h2 H locs ls hP hD hS hl
theorem g_zald (X : CX p s m args c D cl tys A cc nL Ts own) {n a : Nat} {f : Nat → Int} {cI : ClassId} (hf : rdK n f x K = some r) (hn : n < 2147483648) (q0 t0 : Nat) (hdg : decode cc pc = .ok (.baload, 1)) (he : ws[q0]? = some (a, .inl (cI, n, .inl (arI f)))) (ht : tys[t0]? = some (cI, .boolean)) (kk : ∀ v, K v = some r → GO p l e R s m args below meth c D cl A Q nL ck cn (pc + 1) lv (ii v :: st) ws) : GO p l e R s m args below meth c D cl A Q nL ck cn pc lv (ii x :: .ref a :: st) ws := by
  intro H locs ls hP hD hS hl
  obtain ⟨h1, h2⟩ := rdK_some hf
  refine va_zald X.1 X.2.1 X.2.2.2.2.2.1 hP q0 t0 he ht (ix_in hn h1) hdg ?_
  rw [ix_nat h1.1 (by omega)]
  exact kk _ h2 H locs ls hP hD hS hl
theorem g_iast (X : CX p s m args c D cl tys A cc nL Ts own) {n a : Nat} {f : Nat → Int} {cI : ClassId} {F : (Nat → Int) → Option β} (hf : wrK n f x y F = some r) (hn : n < 2147483648) (q0 t0 : Nat) (hdg : decode cc pc = .ok (.iastore, 1)) (he : ws[q0]? = some (a, .inl (cI, n, .inl (arI f)))) (ht : tys[t0]? = some (cI, .int)) (ws' : (Nat → Int) → va_W) (hw : ∀ f', ws.set q0 (a, .inl (cI, n, .inl (arI f'))) = ws' f') (kk : ∀ f', F f' = some r → GO p l e R s m args below meth c D cl A Q nL ck cn (pc + 1) lv st (ws' f')) : GO p l e R s m args below meth c D cl A Q nL ck cn pc lv (ii y :: ii x :: .ref a :: st) ws := by
  intro H locs ls hP hD hS hl
  obtain ⟨h1, h2⟩ := wrK_some hf
  refine va_iast X.1 X.2.1 X.2.2.2.2.2.1 hP hD hS q0 t0 he ht (ix_in hn h1) hdg (fun H1 locs1 hP1 hD1 hS1 => ?_)
  rw [ix_nat h1.1 (by omega), upd_arI, hw] at hP1 hD1
  exact kk _ h2 H1 locs1 ls hP1 hD1 hS1 hl
theorem nar_bool {v : Int} (h : v = 0 ∨ v = 1) : vp_nar .boolean (Int32.ofInt v) = Int32.ofInt v := by
  rcases h with rfl | rfl <;> decide +kernel
theorem g_zast (X : CX p s m args c D cl tys A cc nL Ts own) {n a : Nat} {f : Nat → Int} {cI : ClassId} {F : (Nat → Int) → Option β} (hf : boK y (wrK n f x y F) = some r) (hn : n < 2147483648) (q0 t0 : Nat) (hdg : decode cc pc = .ok (.bastore, 1)) (he : ws[q0]? = some (a, .inl (cI, n, .inl (arI f)))) (ht : tys[t0]? = some (cI, .boolean)) (ws' : (Nat → Int) → va_W) (hw : ∀ f', ws.set q0 (a, .inl (cI, n, .inl (arI f'))) = ws' f') (kk : ∀ f', F f' = some r → GO p l e R s m args below meth c D cl A Q nL ck cn (pc + 1) lv st (ws' f')) : GO p l e R s m args below meth c D cl A Q nL ck cn pc lv (ii y :: ii x :: .ref a :: st) ws := by
  intro H locs ls hP hD hS hl
  obtain ⟨h0, hf⟩ := boK_some hf
  obtain ⟨h1, h2⟩ := wrK_some hf
  refine va_zast X.1 X.2.1 X.2.2.2.2.2.1 hP hD hS q0 t0 he ht (ix_in hn h1) hdg (fun H1 locs1 hP1 hD1 hS1 => ?_)
  rw [ix_nat h1.1 (by omega), nar_bool h0, upd_arI, hw] at hP1 hD1
  exact kk _ h2 H1 locs1 ls hP1 hD1 hS1 hl
theorem g_alen (X : CX p s m args c D cl tys A cc nL Ts own) {n a : Nat} {f : Nat → Int32} {cI : ClassId} {ty : FieldType} (q0 t0 : Nat) (hdg : decode cc pc = .ok (.arraylength, 1)) (he : ws[q0]? = some (a, .inl (cI, n, .inl f))) (ht : tys[t0]? = some (cI, ty)) (kk : GO p l e R s m args below meth c D cl A Q nL ck cn (pc + 1) lv (ii n :: st) ws) : GO p l e R s m args below meth c D cl A Q nL ck cn pc lv (.ref a :: st) ws :=
  fun H locs ls hP hD hS hl => va_alen X.1 X.2.1 X.2.2.2.2.2.1 hP q0 t0 he ht (v := Int32.ofInt n) (by simp [Int32.ofInt_eq_ofNat]) hdg (kk H locs ls hP hD hS hl)
theorem g_mmax (X : CX p s m args c D cl tys A cc nL Ts own) {idx : Nat} (hf : mxK x y K = some r) (h1 : Cond.methodLink own idx Lib.Math.max.name ∈ Ts) (h2 : Cond.static Lib.Math.max.name ∈ Ts) (h3 : Cond.initialized "java/lang/Math" ∈ Ts) (h4 : Cond.code Lib.Math.max.name Lib.Math.max.code 2 (some .int) ∈ Ts) (hR : 1 ≤ R.frames ∧ (st.map fun v => v.category).sum + 13 ≤ R.locals ∧ ck ≤ R.cells ∧ cn ≤ R.slots) (hdg : decode cc pc = .ok (.invokestatic idx, 3)) (kk : ∀ v, K v = some r → GO p l e R s m args below meth c D cl A Q nL ck cn (pc + 3) lv (ii v :: st) ws) : GO p l e R s m args below meth c D cl A Q nL ck cn pc lv (ii y :: ii x :: st) ws := by
  intro H locs ls hP hD hS hl
  obtain ⟨⟨g1, g2⟩, g3⟩ := mxK_some hf
  have hx := X.2.2.2.2.1
  refine va_mmax X.1 X.2.1 (X.2.2.1.trans hl.1.symm) X.2.2.2.1 (hx _ h1) (hx _ h2) (hx _ h3) (hx _ h4) hR.1 hR.2.1 hR.2.2.1 hR.2.2.2 hdg ?_
  have he : (if Int32.ofInt x < Int32.ofInt y then Int32.ofInt y else Int32.ofInt x) = Int32.ofInt (if x < y then y else x) := by
    by_cases q : x < y
    · rw [if_pos ((i32_lt g1 g2).mpr q), if_pos q]
    · rw [if_neg (fun h => q ((i32_lt g1 g2).mp h)), if_neg q]
  rw [he]
  exact kk _ g3 H locs ls hP hD hS hl
theorem g_mmin (X : CX p s m args c D cl tys A cc nL Ts own) {idx : Nat} (hf : mnK x y K = some r) (h1 : Cond.methodLink own idx Lib.Math.min.name ∈ Ts) (h2 : Cond.static Lib.Math.min.name ∈ Ts) (h3 : Cond.initialized "java/lang/Math" ∈ Ts) (h4 : Cond.code Lib.Math.min.name Lib.Math.min.code 2 (some .int) ∈ Ts) (hR : 1 ≤ R.frames ∧ (st.map fun v => v.category).sum + 13 ≤ R.locals ∧ ck ≤ R.cells ∧ cn ≤ R.slots) (hdg : decode cc pc = .ok (.invokestatic idx, 3)) (kk : ∀ v, K v = some r → GO p l e R s m args below meth c D cl A Q nL ck cn (pc + 3) lv (ii v :: st) ws) : GO p l e R s m args below meth c D cl A Q nL ck cn pc lv (ii y :: ii x :: st) ws := by
  intro H locs ls hP hD hS hl
  obtain ⟨⟨g1, g2⟩, g3⟩ := mnK_some hf
  have hx := X.2.2.2.2.1
  refine va_mmin X.1 X.2.1 (X.2.2.1.trans hl.1.symm) X.2.2.2.1 (hx _ h1) (hx _ h2) (hx _ h3) (hx _ h4) hR.1 hR.2.1 hR.2.2.1 hR.2.2.2 hdg ?_
  have he : (if Int32.ofInt y < Int32.ofInt x then Int32.ofInt y else Int32.ofInt x) = Int32.ofInt (if y < x then y else x) := by
    by_cases q : y < x
    · rw [if_pos ((i32_lt g2 g1).mpr q), if_pos q]
    · rw [if_neg (fun h => q ((i32_lt g2 g1).mp h)), if_neg q]
  rw [he]
  exact kk _ g3 H locs ls hP hD hS hl
theorem g_copy (X : CX p s m args c D cl tys A cc nL Ts own) {idx a a0 n0 n1 : Nat} {c0 c1 : ClassId} {f g : Nat → Int} {sp dp n : Int} {F : (Nat → Int) → Option β} (hf : cpK n0 n1 f g sp dp n F = some r) (hn0 : n0 < 2147483648) (hn1 : n1 < 2147483648) (h1 : Cond.methodLink own idx arraycopyName ∈ Ts) (h2 : Cond.native arraycopyName ∈ Ts) (h3 : Cond.static arraycopyName ∈ Ts) (h4 : Cond.initialized "java/lang/System" ∈ Ts) (q0 q1 t0 t1 : Nat) (he0 : ws[q0]? = some (a0, .inl (c0, n0, .inl (arI f)))) (he1 : ws[q1]? = some (a, .inl (c1, n1, .inl (arI g)))) (ht0 : tys[t0]? = some (c0, .int)) (ht1 : tys[t1]? = some (c1, .int)) (hR : 1 ≤ R.frames ∧ (st.map fun v => v.category).sum + (nativeFrameWords "java/lang/System" "arraycopy" 5 + 11) ≤ R.locals) (hdg : decode cc pc = .ok (.invokestatic idx, 3)) (ws' : (Nat → Int) → va_W) (hw : ∀ f', ws.set q1 (a, .inl (c1, n1, .inl (arI f'))) = ws' f') (kk : ∀ f', F f' = some r → GO p l e R s m args below meth c D cl A Q nL ck cn (pc + 3) lv st (ws' f')) : GO p l e R s m args below meth c D cl A Q nL ck cn pc lv (ii n :: ii dp :: .ref a :: ii sp :: .ref a0 :: st) ws := by
  intro H locs ls hP hD hS hl
  obtain ⟨⟨g1, g2, g3, g4, g5⟩, g6⟩ := cpK_some hf
  have hx := X.2.2.2.2.1
  have r1 : Rg sp := ⟨by omega, by omega⟩
  have r2 : Rg dp := ⟨by omega, by omega⟩
  have r3 : Rg n := ⟨by omega, by omega⟩
  have e1 := ix_nat g1 (by omega : sp < 2147483648)
  have e2 := ix_nat g2 (by omega : dp < 2147483648)
  have e3 := ix_nat g3 (by omega : n < 2147483648)
  refine va_copyi X.1 X.2.1 (X.2.2.1.trans hl.1.symm) X.2.2.2.1 (hx _ h1) (hx _ h2) (hx _ h3) (hx _ h4) X.2.2.2.2.2.1 hP hD hS q0 q1 t0 t1 he0 he1 ht0 ht1 rfl (by rw [i32_zero, i32_lt r1 Rg0]; omega) (by rw [i32_zero, i32_lt r2 Rg0]; omega) (by rw [i32_zero, i32_lt r3 Rg0]; omega) (by rw [e1, e3]; omega) (by rw [e2, e3]; omega) (fun i _ => rfl) hR.1 hR.2 hdg (fun H1 locs1 hP1 hD1 hS1 => ?_)
  rw [e1, e2, e3, cpy_arI, hw] at hP1 hD1
  exact kk _ g6 H1 locs1 ls hP1 hD1 hS1 hl
end GoT
