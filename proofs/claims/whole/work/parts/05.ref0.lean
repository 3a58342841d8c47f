def rmX10_in : Room := { frames := 0, cells := 0, slots := 0, locals := 0 }
def X10_in (p0 : Int) (p2 : Int) (p4 : Int) : Option (Int) := lcK p0 p2 (fun v1 => brLT v1 0 (some 0) (lcK p0 p4 (fun v2 => brLE v2 0 (some 1) (some 0))))
set_option maxHeartbeats 4000000 in
set_option maxRecDepth 100000 in
theorem X10_in_go (K : KE) (l : Launch) (WC : va_W) {p : Program} {e : Env} {s : State} {m : MethodId} {args : Array Value} {below : List Frame} {meth : Method} {c : Code} (X : CX p s m args c K.1 vwCl (kT K) (va_A WC s.heap.size) cX10_in 6 wsX10_in RX10) (hr : meth.sig.returnType = (some .boolean)) (hlk : meth.locks = false) (p0 : Int) (p2 : Int) (p4 : Int) (res : Int) (hf : X10_in p0 p2 p4 = some res) : GO p l e rmX10_in s m args below meth c K.1 vwCl (va_A WC s.heap.size) (MQ below (QC K.1 vwCl (some (ii res)) WC ([]) s.heap.size) args s 0 0 (va_A WC s.heap.size)) 6 0 0 0 [(0, ll p0), (2, ll p2), (4, ll p4)] [] ([]) := by
  rw [X10_in] at hf
  refine g_lload_n X dX10_in_0 0 rfl rfl ?_
  refine g_lload_n X dX10_in_1 1 rfl rfl ?_
  refine g_lcmp X hf dX10_in_2 (fun v1 hf => ?_)
  refine g_if_lt X hf 17 dX10_in_3 (by decide) (fun hf => ?_) (fun hf => ?_)
  · refine g_iconst X dX10_in_17 ?_
    cases hf
    exact g_zret X (Or.inl rfl) hr hlk dX10_in_18
  · refine g_lload_n X dX10_in_6 0 rfl rfl ?_
    refine g_lload X dX10_in_7 2 rfl ?_
    refine g_lcmp X hf dX10_in_9 (fun v2 hf => ?_)
    refine g_if_gt X hf 17 dX10_in_10 (by decide) (fun hf => ?_) (fun hf => ?_)
    · refine g_iconst X dX10_in_13 ?_
      refine g_goto X 18 dX10_in_14 (by decide) ?_
      cases hf
      exact g_zret X (Or.inr rfl) hr hlk dX10_in_18
    · refine g_iconst X dX10_in_17 ?_
      cases hf
      exact g_zret X (Or.inl rfl) hr hlk dX10_in_18
set_option maxHeartbeats 4000000 in
set_option maxRecDepth 100000 in
theorem X10_in_ok (K : KE) (l : Launch) (p0 : Int) (p2 : Int) (p4 : Int) (res : Int) (hf : X10_in p0 p2 p4 = some res) : CT l K.1 vwCl (kT K) yX10_in wsX10_in rmX10_in [ll p0, ll p2, ll p4] (some (ii res)) ([]) ([]) :=
  CT.mk (cc := cX10_in) (maxL := 6) (ret := (some .boolean)) (by decide) rfl (Nat.le_of_ble_eq_true rfl) (fun p e s m below meth c X hr hlk => X10_in_go K l  _ X hr hlk p0 p2 p4 res hf)
theorem iw_X10_error_X10 : ∀ w ∈ u_ws RX10 TX10 23, w ∈ wsX10_error := by decide +kernel
theorem fl_X10_error_16 : Cond.fieldLink RX10 16 (TX10 3).1 (TX10 3).2.1 (TX10 3).2.2.1 ∈ wsX10_error := by decide +kernel
def rmX10_error : Room := { frames := 0, cells := 0, slots := 0, locals := 0 }
def X10_error (errors : Arr) (p1 : Int) : Option (Int × Arr) := rdK 4 errors ((-2) - p1) (fun v1 => wrK 4 errors ((-2) - p1) (v1 + 1) (fun f2 => some (p1, f2)))
set_option maxHeartbeats 4000000 in
set_option maxRecDepth 100000 in
theorem X10_error_go (K : KE) (l : Launch) (a : Nat → Nat) (WC : va_W) {p : Program} {e : Env} {s : State} {m : MethodId} {args : Array Value} {below : List Frame} {meth : Method} {c : Code} (X : CX p s m args c K.1 vwCl (kT K) (va_A WC s.heap.size) cX10_error 2 wsX10_error RX10) (hr : meth.sig.returnType = (some .int)) (hlk : meth.locks = false) (all : Arr) (saved : Arr) (savedMany : Int) (errors : Arr) (text : Arr) (textLong : Int) (rdd : Arr) (readMany : Int) (waits : Arr) (opn : Int) (place : Int) (built : Arr) (builtMany : Int) (parts : Arr) (partMany : Int) (taken : Arr) (calls : Arr) (lacks : Arr) (callMany : Int) (total : Int) (values : Arr) (told : Arr) (toldLong : Int) (p1 : Int) (res : Int × Arr) (hf : X10_error errors p1 = some res) : GO p l e rmX10_error s m args below meth c K.1 vwCl (va_A WC s.heap.size) (MQ below (QC K.1 vwCl (some (ii res.1)) WC (c10 K a all saved savedMany res.2 text textLong rdd readMany waits opn place built builtMany parts partMany taken calls lacks callMany total values told toldLong) s.heap.size) args s 0 0 (va_A WC s.heap.size)) 2 0 0 0 [(0, .ref (a 0)), (1, ii p1)] [] (c10 K a all saved savedMany errors text textLong rdd readMany waits opn place built builtMany parts partMany taken calls lacks callMany total values told toldLong) := by
  rw [X10_error] at hf
  refine g_aload_n X dX10_error_0 0 rfl rfl ?_
  refine g_get X (v := .ref (a 3)) 0 3 dX10_error_1 rfl rfl iw_X10_error_X10 (by decide) fl_X10_error_16 rfl ?_
  refine g_bipush X dX10_error_4 (by decide +kernel) ?_
  refine g_iload_n X dX10_error_6 1 rfl rfl ?_
  refine g_isub X dX10_error_7 ?_
  refine g_dup2 X dX10_error_8 rfl rfl ?_
  refine g_iald X hf (by decide) 3 0 dX10_error_9 rfl rfl (fun v1 hf => ?_)
  refine g_iconst X dX10_error_10 ?_
  refine g_iadd X dX10_error_11 ?_
  refine g_iast X hf (by decide) 3 0 dX10_error_12 rfl rfl (fun f2 => c10 K a all saved savedMany f2 text textLong rdd readMany waits opn place built builtMany parts partMany taken calls lacks callMany total values told toldLong) (fun _ => rfl) (fun f2 hf => ?_)
  refine g_iload_n X dX10_error_13 1 rfl rfl ?_
  cases hf
  exact g_iret X hr hlk dX10_error_14
set_option maxHeartbeats 4000000 in
set_option maxRecDepth 100000 in
theorem X10_error_ok (K : KE) (l : Launch) (a : Nat → Nat) (all : Arr) (saved : Arr) (savedMany : Int) (errors : Arr) (text : Arr) (textLong : Int) (rdd : Arr) (readMany : Int) (waits : Arr) (opn : Int) (place : Int) (built : Arr) (builtMany : Int) (parts : Arr) (partMany : Int) (taken : Arr) (calls : Arr) (lacks : Arr) (callMany : Int) (total : Int) (values : Arr) (told : Arr) (toldLong : Int) (p1 : Int) (res : Int × Arr) (hf : X10_error errors p1 = some res) : CT l K.1 vwCl (kT K) yX10_error wsX10_error rmX10_error [.ref (a 0), ii p1] (some (ii res.1)) (c10 K a all saved savedMany errors text textLong rdd readMany waits opn place built builtMany parts partMany taken calls lacks callMany total values told toldLong) (c10 K a all saved savedMany res.2 text textLong rdd readMany waits opn place built builtMany parts partMany taken calls lacks callMany total values told toldLong) :=
  CT.mk (cc := cX10_error) (maxL := 2) (ret := (some .int)) (by decide) rfl (Nat.le_of_ble_eq_true rfl) (fun p e s m below meth c X hr hlk => X10_error_go K l a _ X hr hlk all saved savedMany errors text textLong rdd readMany waits opn place built builtMany parts partMany taken calls lacks callMany total values told toldLong p1 res hf)
theorem iw_X10_save_X10 : ∀ w ∈ u_ws RX10 TX10 23, w ∈ wsX10_save := by decide +kernel
theorem fl_X10_save_49 : Cond.fieldLink RX10 49 (TX10 2).1 (TX10 2).2.1 (TX10 2).2.2.1 ∈ wsX10_save := by decide +kernel
theorem fl_X10_save_13 : Cond.fieldLink RX10 13 (TX10 1).1 (TX10 1).2.1 (TX10 1).2.2.1 ∈ wsX10_save := by decide +kernel
theorem fl_X10_save_7 : Cond.fieldLink RX10 7 (TX10 0).1 (TX10 0).2.1 (TX10 0).2.2.1 ∈ wsX10_save := by decide +kernel
def rmX10_save : Room := { frames := 0, cells := 0, slots := 0, locals := 0 }
def X10_save_L51 (kx : Arr → Option (Arr × Int)) (all : Arr) (savedMany : Int) : Nat → Int → Arr → Option (Arr × Int)
  | 0, _, _ => none
  | n + 1, y1, saved => brLT y1 186 (rdK 186 all y1 (fun v3 => wrK 744 saved ((186 * savedMany) + y1) v3 (fun f4 => X10_save_L51 kx all savedMany n (y1 + 1) f4))) (kx saved)
def X10_save_L10 (kx : Arr → Option (Arr × Int)) (all : Arr) (savedMany : Int) : Nat → Int → Arr → Option (Arr × Int)
  | 0, _, _ => none
  | n + 1, y1, saved => brLT y1 558 (rdK 744 saved (y1 + 186) (fun v6 => wrK 744 saved y1 v6 (fun f7 => X10_save_L10 kx all savedMany n (y1 + 1) f7))) (kx saved)
def X10_save (all : Arr) (saved : Arr) (savedMany : Int) : Option (Arr × Int) := ltK (fun q1 : Arr × Int => X10_save_L51 (fun w5 => some (w5, (q1.2 + 1))) all q1.2 FU 0 q1.1) (fun j2 => brEQ savedMany 4 (X10_save_L10 (fun w8 => j2 (w8, (savedMany - 1))) all savedMany FU 0 saved) (j2 (saved, savedMany)))
set_option maxHeartbeats 4000000 in
set_option maxRecDepth 100000 in
theorem X10_save_L51_ok (K : KE) (l : Launch) (a : Nat → Nat) (WC : va_W) {p : Program} {e : Env} {s : State} {m : MethodId} {args : Array Value} {below : List Frame} {meth : Method} {c : Code} (X : CX p s m args c K.1 vwCl (kT K) (va_A WC s.heap.size) cX10_save 2 wsX10_save RX10) (hr : meth.sig.returnType = none) (hlk : meth.locks = false) (all : Arr) (savedMany : Int) (errors : Arr) (text : Arr) (textLong : Int) (rdd : Arr) (readMany : Int) (waits : Arr) (opn : Int) (place : Int) (built : Arr) (builtMany : Int) (parts : Arr) (partMany : Int) (taken : Arr) (calls : Arr) (lacks : Arr) (callMany : Int) (total : Int) (values : Arr) (told : Arr) (toldLong : Int)  (res : Arr × Int) {kx : Arr → Option (Arr × Int)} : ∀ (n : Nat) (y1 : Int) (saved : Arr), X10_save_L51 kx all savedMany n y1 saved = some res → (∀ (savedz : Arr), kx savedz = some res → GO p l e rmX10_save s m args below meth c K.1 vwCl (va_A WC s.heap.size) (MQ below (QC K.1 vwCl none WC (c10 K a all res.1 res.2 errors text textLong rdd readMany waits opn place built builtMany parts partMany taken calls lacks callMany total values told toldLong) s.heap.size) args s 0 0 (va_A WC s.heap.size)) 2 0 0 85 [(0, .ref (a 0))] [] (c10 K a all savedz savedMany errors text textLong rdd readMany waits opn place built builtMany parts partMany taken calls lacks callMany total values told toldLong)) → GO p l e rmX10_save s m args below meth c K.1 vwCl (va_A WC s.heap.size) (MQ below (QC K.1 vwCl none WC (c10 K a all res.1 res.2 errors text textLong rdd readMany waits opn place built builtMany parts partMany taken calls lacks callMany total values told toldLong) s.heap.size) args s 0 0 (va_A WC s.heap.size)) 2 0 0 51 [(0, .ref (a 0)), (1, ii y1)] [] (c10 K a all saved savedMany errors text textLong rdd readMany waits opn place built builtMany parts partMany taken calls lacks callMany total values told toldLong) := by
  intro n
  induction n with
  | zero =>
    intro y1 saved hf _
    rw [X10_save_L51] at hf
    cases hf
  | succ n ih =>
    intro y1 saved hf hk
    rw [X10_save_L51] at hf
    refine g_iload_n X dX10_save_51 1 rfl rfl ?_
    refine g_sipush X dX10_save_52 (by decide +kernel) ?_
    refine g_icmp_ge X hf 85 dX10_save_55 (by decide) (fun hf => ?_) (fun hf => ?_)
    · refine g_aload_n X dX10_save_58 0 rfl rfl ?_
      refine g_get X (v := .ref (a 2)) 0 1 dX10_save_59 rfl rfl iw_X10_save_X10 (by decide) fl_X10_save_13 rfl ?_
      refine g_sipush X dX10_save_62 (by decide +kernel) ?_
      refine g_aload_n X dX10_save_65 0 rfl rfl ?_
      refine g_get X (v := ii savedMany) 0 2 dX10_save_66 rfl rfl iw_X10_save_X10 (by decide) fl_X10_save_49 rfl ?_
      refine g_imul X dX10_save_69 ?_
      refine g_iload_n X dX10_save_70 1 rfl rfl ?_
      refine g_iadd X dX10_save_71 ?_
      refine g_aload_n X dX10_save_72 0 rfl rfl ?_
      refine g_get X (v := .ref (a 1)) 0 0 dX10_save_73 rfl rfl iw_X10_save_X10 (by decide) fl_X10_save_7 rfl ?_
      refine g_iload_n X dX10_save_76 1 rfl rfl ?_
      refine g_iald X hf (by decide) 1 0 dX10_save_77 rfl rfl (fun v3 hf => ?_)
      refine g_iast X hf (by decide) 2 0 dX10_save_78 rfl rfl (fun f4 => c10 K a all f4 savedMany errors text textLong rdd readMany waits opn place built builtMany parts partMany taken calls lacks callMany total values told toldLong) (fun _ => rfl) (fun f4 hf => ?_)
      refine g_iinc X (lv' := [(1, ii (y1 + 1)), (0, .ref (a 0))]) dX10_save_79 1 rfl (by decide) rfl ?_
      refine g_goto X 51 dX10_save_82 (by decide) ?_
      refine g_sub (lv' := [(0, .ref (a 0)), (1, ii (y1 + 1))]) [1, 0] rfl ?_
      exact ih (y1 + 1) f4 hf hk
    · refine g_sub (lv' := [(0, .ref (a 0))]) [0] rfl ?_
      exact hk saved hf
set_option maxHeartbeats 4000000 in
set_option maxRecDepth 100000 in
theorem X10_save_L10_ok (K : KE) (l : Launch) (a : Nat → Nat) (WC : va_W) {p : Program} {e : Env} {s : State} {m : MethodId} {args : Array Value} {below : List Frame} {meth : Method} {c : Code} (X : CX p s m args c K.1 vwCl (kT K) (va_A WC s.heap.size) cX10_save 2 wsX10_save RX10) (hr : meth.sig.returnType = none) (hlk : meth.locks = false) (all : Arr) (savedMany : Int) (errors : Arr) (text : Arr) (textLong : Int) (rdd : Arr) (readMany : Int) (waits : Arr) (opn : Int) (place : Int) (built : Arr) (builtMany : Int) (parts : Arr) (partMany : Int) (taken : Arr) (calls : Arr) (lacks : Arr) (callMany : Int) (total : Int) (values : Arr) (told : Arr) (toldLong : Int)  (res : Arr × Int) {kx : Arr → Option (Arr × Int)} : ∀ (n : Nat) (y1 : Int) (saved : Arr), X10_save_L10 kx all savedMany n y1 saved = some res → (∀ (savedz : Arr), kx savedz = some res → GO p l e rmX10_save s m args below meth c K.1 vwCl (va_A WC s.heap.size) (MQ below (QC K.1 vwCl none WC (c10 K a all res.1 res.2 errors text textLong rdd readMany waits opn place built builtMany parts partMany taken calls lacks callMany total values told toldLong) s.heap.size) args s 0 0 (va_A WC s.heap.size)) 2 0 0 39 [(0, .ref (a 0))] [] (c10 K a all savedz savedMany errors text textLong rdd readMany waits opn place built builtMany parts partMany taken calls lacks callMany total values told toldLong)) → GO p l e rmX10_save s m args below meth c K.1 vwCl (va_A WC s.heap.size) (MQ below (QC K.1 vwCl none WC (c10 K a all res.1 res.2 errors text textLong rdd readMany waits opn place built builtMany parts partMany taken calls lacks callMany total values told toldLong) s.heap.size) args s 0 0 (va_A WC s.heap.size)) 2 0 0 10 [(0, .ref (a 0)), (1, ii y1)] [] (c10 K a all saved savedMany errors text textLong rdd readMany waits opn place built builtMany parts partMany taken calls lacks callMany total values told toldLong) := by
  intro n
  induction n with
  | zero =>
    intro y1 saved hf _
    rw [X10_save_L10] at hf
    cases hf
  | succ n ih =>
    intro y1 saved hf hk
    rw [X10_save_L10] at hf
    refine g_iload_n X dX10_save_10 1 rfl rfl ?_
    refine g_sipush X dX10_save_11 (by decide +kernel) ?_
    refine g_icmp_ge X hf 39 dX10_save_14 (by decide) (fun hf => ?_) (fun hf => ?_)
    · refine g_aload_n X dX10_save_17 0 rfl rfl ?_
      refine g_get X (v := .ref (a 2)) 0 1 dX10_save_18 rfl rfl iw_X10_save_X10 (by decide) fl_X10_save_13 rfl ?_
      refine g_iload_n X dX10_save_21 1 rfl rfl ?_
      refine g_aload_n X dX10_save_22 0 rfl rfl ?_
      refine g_get X (v := .ref (a 2)) 0 1 dX10_save_23 rfl rfl iw_X10_save_X10 (by decide) fl_X10_save_13 rfl ?_
      refine g_iload_n X dX10_save_26 1 rfl rfl ?_
      refine g_sipush X dX10_save_27 (by decide +kernel) ?_
      refine g_iadd X dX10_save_30 ?_
      refine g_iald X hf (by decide) 2 0 dX10_save_31 rfl rfl (fun v6 hf => ?_)
      refine g_iast X hf (by decide) 2 0 dX10_save_32 rfl rfl (fun f7 => c10 K a all f7 savedMany errors text textLong rdd readMany waits opn place built builtMany parts partMany taken calls lacks callMany total values told toldLong) (fun _ => rfl) (fun f7 hf => ?_)
      refine g_iinc X (lv' := [(1, ii (y1 + 1)), (0, .ref (a 0))]) dX10_save_33 1 rfl (by decide) rfl ?_
      refine g_goto X 10 dX10_save_36 (by decide) ?_
      refine g_sub (lv' := [(0, .ref (a 0)), (1, ii (y1 + 1))]) [1, 0] rfl ?_
      exact ih (y1 + 1) f7 hf hk
    · refine g_sub (lv' := [(0, .ref (a 0))]) [0] rfl ?_
      exact hk saved hf
set_option maxHeartbeats 4000000 in
set_option maxRecDepth 100000 in
theorem X10_save_go (K : KE) (l : Launch) (a : Nat → Nat) (WC : va_W) {p : Program} {e : Env} {s : State} {m : MethodId} {args : Array Value} {below : List Frame} {meth : Method} {c : Code} (X : CX p s m args c K.1 vwCl (kT K) (va_A WC s.heap.size) cX10_save 2 wsX10_save RX10) (hr : meth.sig.returnType = none) (hlk : meth.locks = false) (all : Arr) (saved : Arr) (savedMany : Int) (errors : Arr) (text : Arr) (textLong : Int) (rdd : Arr) (readMany : Int) (waits : Arr) (opn : Int) (place : Int) (built : Arr) (builtMany : Int) (parts : Arr) (partMany : Int) (taken : Arr) (calls : Arr) (lacks : Arr) (callMany : Int) (total : Int) (values : Arr) (told : Arr) (toldLong : Int) (res : Arr × Int) (hf : X10_save all saved savedMany = some res) : GO p l e rmX10_save s m args below meth c K.1 vwCl (va_A WC s.heap.size) (MQ below (QC K.1 vwCl none WC (c10 K a all res.1 res.2 errors text textLong rdd readMany waits opn place built builtMany parts partMany taken calls lacks callMany total values told toldLong) s.heap.size) args s 0 0 (va_A WC s.heap.size)) 2 0 0 0 [(0, .ref (a 0))] [] (c10 K a all saved savedMany errors text textLong rdd readMany waits opn place built builtMany parts partMany taken calls lacks callMany total values told toldLong) := by
  rw [X10_save] at hf
  refine g_aload_n X dX10_save_0 0 rfl rfl ?_
  refine g_get X (v := ii savedMany) 0 2 dX10_save_1 rfl rfl iw_X10_save_X10 (by decide) fl_X10_save_49 rfl ?_
  refine g_iconst X dX10_save_4 ?_
  refine g_let (G := fun q1 : Arr × Int => GO p l e rmX10_save s m args below meth c K.1 vwCl (va_A WC s.heap.size) (MQ below (QC K.1 vwCl none WC (c10 K a all res.1 res.2 errors text textLong rdd readMany waits opn place built builtMany parts partMany taken calls lacks callMany total values told toldLong) s.heap.size) args s 0 0 (va_A WC s.heap.size)) 2 0 0 49 [(0, .ref (a 0))] [] (c10 K a all q1.1 q1.2 errors text textLong rdd readMany waits opn place built builtMany parts partMany taken calls lacks callMany total values told toldLong)) hf (fun q1 hf => ?_) (fun j2 hj2 hf => ?_)
  · refine g_iconst X dX10_save_49 ?_
    refine g_istore_n X (lv' := [(1, ii 0), (0, .ref (a 0))]) dX10_save_50 rfl (by decide) rfl ?_
    refine g_sub (lv' := [(0, .ref (a 0)), (1, ii 0)]) [1, 0] rfl ?_
    refine X10_save_L51_ok K l a WC X hr hlk all q1.2 errors text textLong rdd readMany waits opn place built builtMany parts partMany taken calls lacks callMany total values told toldLong res FU 0 q1.1 hf (fun w5 hf => ?_)
    refine g_aload_n X dX10_save_85 0 rfl rfl ?_
    refine g_dup X dX10_save_86 rfl ?_
    refine g_get X (v := ii q1.2) 0 2 dX10_save_87 rfl rfl iw_X10_save_X10 (by decide) fl_X10_save_49 rfl ?_
    refine g_iconst X dX10_save_90 ?_
    refine g_iadd X dX10_save_91 ?_
    refine g_puti X 0 2 dX10_save_92 rfl rfl iw_X10_save_X10 tyX10_ok nmX10 (by decide) fl_X10_save_49 rfl rfl (Nat.le_of_ble_eq_true rfl) (ws' := c10 K a all w5 (q1.2 + 1) errors text textLong rdd readMany waits opn place built builtMany parts partMany taken calls lacks callMany total values told toldLong) rfl ?_
    cases hf
    exact g_vret X hr hlk dX10_save_95
  · refine g_icmp_ne X hf 49 dX10_save_5 (by decide) (fun hf => ?_) (fun hf => ?_)
    · refine g_iconst X dX10_save_8 ?_
      refine g_istore_n X (lv' := [(1, ii 0), (0, .ref (a 0))]) dX10_save_9 rfl (by decide) rfl ?_
      refine g_sub (lv' := [(0, .ref (a 0)), (1, ii 0)]) [1, 0] rfl ?_
      refine X10_save_L10_ok K l a WC X hr hlk all savedMany errors text textLong rdd readMany waits opn place built builtMany parts partMany taken calls lacks callMany total values told toldLong res FU 0 saved hf (fun w8 hf => ?_)
      refine g_aload_n X dX10_save_39 0 rfl rfl ?_
      refine g_dup X dX10_save_40 rfl ?_
      refine g_get X (v := ii savedMany) 0 2 dX10_save_41 rfl rfl iw_X10_save_X10 (by decide) fl_X10_save_49 rfl ?_
      refine g_iconst X dX10_save_44 ?_
      refine g_isub X dX10_save_45 ?_
      refine g_puti X 0 2 dX10_save_46 rfl rfl iw_X10_save_X10 tyX10_ok nmX10 (by decide) fl_X10_save_49 rfl rfl (Nat.le_of_ble_eq_true rfl) (ws' := c10 K a all w8 (savedMany - 1) errors text textLong rdd readMany waits opn place built builtMany parts partMany taken calls lacks callMany total values told toldLong) rfl ?_
      exact hj2 (w8, (savedMany - 1)) hf
    · exact hj2 (saved, savedMany) hf
set_option maxHeartbeats 4000000 in
set_option maxRecDepth 100000 in
theorem X10_save_ok (K : KE) (l : Launch) (a : Nat → Nat) (all : Arr) (saved : Arr) (savedMany : Int) (errors : Arr) (text : Arr) (textLong : Int) (rdd : Arr) (readMany : Int) (waits : Arr) (opn : Int) (place : Int) (built : Arr) (builtMany : Int) (parts : Arr) (partMany : Int) (taken : Arr) (calls : Arr) (lacks : Arr) (callMany : Int) (total : Int) (values : Arr) (told : Arr) (toldLong : Int) (res : Arr × Int) (hf : X10_save all saved savedMany = some res) : CT l K.1 vwCl (kT K) yX10_save wsX10_save rmX10_save [.ref (a 0)] none (c10 K a all saved savedMany errors text textLong rdd readMany waits opn place built builtMany parts partMany taken calls lacks callMany total values told toldLong) (c10 K a all res.1 res.2 errors text textLong rdd readMany waits opn place built builtMany parts partMany taken calls lacks callMany total values told toldLong) :=
  CT.mk (cc := cX10_save) (maxL := 2) (ret := none) (by decide) rfl (Nat.le_of_ble_eq_true rfl) (fun p e s m below meth c X hr hlk => X10_save_go K l a _ X hr hlk all saved savedMany errors text textLong rdd readMany waits opn place built builtMany parts partMany taken calls lacks callMany total values told toldLong res hf)
theorem wd_X10_isFunction_cl53 : Jvm.Cond.constantLong RX10 53 (5) ∈ wsX10_isFunction := by decide +kernel
def rmX10_isFunction : Room := { frames := 1, cells := 0, slots := 0, locals := 25 }
def X10_isFunction (p0 : Int) : Option (Int) := lgK p0 ((X10_in p0 0 5).bind (fun v1 => boK v1 (some v1)))
set_option maxHeartbeats 4000000 in
set_option maxRecDepth 100000 in
theorem X10_isFunction_go (K : KE) (l : Launch) (WC : va_W) {p : Program} {e : Env} {s : State} {m : MethodId} {args : Array Value} {below : List Frame} {meth : Method} {c : Code} (X : CX p s m args c K.1 vwCl (kT K) (va_A WC s.heap.size) cX10_isFunction 1 wsX10_isFunction RX10) (hr : meth.sig.returnType = (some .boolean)) (hlk : meth.locks = false) (p0 : Int) (res : Int) (hf : X10_isFunction p0 = some res) : GO p l e rmX10_isFunction s m args below meth c K.1 vwCl (va_A WC s.heap.size) (MQ below (QC K.1 vwCl (some (ii res)) WC ([]) s.heap.size) args s 0 0 (va_A WC s.heap.size)) 1 0 0 0 [(0, ii p0)] [] ([]) := by
  rw [X10_isFunction] at hf
  refine g_iload_n X dX10_isFunction_0 0 rfl rfl ?_
  refine g_i2l X hf dX10_isFunction_1 (fun hf => ?_)
  refine g_lconst X 0 dX10_isFunction_2 (by decide +kernel) ?_
  refine g_ldc2 X 5 dX10_isFunction_3 wd_X10_isFunction_cl53 (by decide +kernel) ?_
  obtain ⟨v1, hc2, hf⟩ := Option.bind_eq_some_iff.mp hf
  refine g_callS X (As := [ll p0, ll 0, ll 5]) (st := []) (st1 := [ii v1]) (ws' := []) (X10_in_ok K l p0 0 5 v1 hc2) gX10_isFunction_X10_in rfl 3 (by decide +kernel) ⟨rfl, rfl⟩ ⟨Nat.le_of_ble_eq_true rfl, Nat.le_of_ble_eq_true rfl⟩ ⟨Nat.zero_le _, Nat.zero_le _⟩ rfl rfl (Nat.le_of_ble_eq_true rfl) dX10_isFunction_6 SG.none rfl ?_
  obtain ⟨hb3, hf⟩ := boK_some hf
  cases hf
  exact g_zret X hb3 hr hlk dX10_isFunction_9
set_option maxHeartbeats 4000000 in
set_option maxRecDepth 100000 in
theorem X10_isFunction_ok (K : KE) (l : Launch) (p0 : Int) (res : Int) (hf : X10_isFunction p0 = some res) : CT l K.1 vwCl (kT K) yX10_isFunction wsX10_isFunction rmX10_isFunction [ii p0] (some (ii res)) ([]) ([]) :=
  CT.mk (cc := cX10_isFunction) (maxL := 1) (ret := (some .boolean)) (by decide) rfl (Nat.le_of_ble_eq_true rfl) (fun p e s m below meth c X hr hlk => X10_isFunction_go K l  _ X hr hlk p0 res hf)
theorem iw_X10_sets_X10 : ∀ w ∈ u_ws RX10 TX10 23, w ∈ wsX10_sets := by decide +kernel
theorem fl_X10_sets_7 : Cond.fieldLink RX10 7 (TX10 0).1 (TX10 0).2.1 (TX10 0).2.2.1 ∈ wsX10_sets := by decide +kernel
def rmX10_sets : Room := { frames := 1, cells := 0, slots := 0, locals := 21 }
def X10_sets (all : Arr) (saved : Arr) (savedMany : Int) (p1 : Int) (p2 : Int) (p3 : Int) : Option (Int × Arr × Arr × Int) := (X10_save all saved savedMany).bind (fun w1 => rdK 186 all (p1 + 0) (fun v3 => wrK 186 all (p1 + 0) p2 (fun f4 => wrK 186 f4 (p1 + 1) p3 (fun f5 => some (v3, f5, w1.1, w1.2)))))
set_option maxHeartbeats 4000000 in
set_option maxRecDepth 100000 in
theorem X10_sets_go (K : KE) (l : Launch) (a : Nat → Nat) (WC : va_W) {p : Program} {e : Env} {s : State} {m : MethodId} {args : Array Value} {below : List Frame} {meth : Method} {c : Code} (X : CX p s m args c K.1 vwCl (kT K) (va_A WC s.heap.size) cX10_sets 5 wsX10_sets RX10) (hr : meth.sig.returnType = (some .int)) (hlk : meth.locks = false) (all : Arr) (saved : Arr) (savedMany : Int) (errors : Arr) (text : Arr) (textLong : Int) (rdd : Arr) (readMany : Int) (waits : Arr) (opn : Int) (place : Int) (built : Arr) (builtMany : Int) (parts : Arr) (partMany : Int) (taken : Arr) (calls : Arr) (lacks : Arr) (callMany : Int) (total : Int) (values : Arr) (told : Arr) (toldLong : Int) (p1 : Int) (p2 : Int) (p3 : Int) (res : Int × Arr × Arr × Int) (hf : X10_sets all saved savedMany p1 p2 p3 = some res) : GO p l e rmX10_sets s m args below meth c K.1 vwCl (va_A WC s.heap.size) (MQ below (QC K.1 vwCl (some (ii res.1)) WC (c10 K a res.2.1 res.2.2.1 res.2.2.2 errors text textLong rdd readMany waits opn place built builtMany parts partMany taken calls lacks callMany total values told toldLong) s.heap.size) args s 0 0 (va_A WC s.heap.size)) 5 0 0 0 [(0, .ref (a 0)), (1, ii p1), (2, ii p2), (3, ii p3)] [] (c10 K a all saved savedMany errors text textLong rdd readMany waits opn place built builtMany parts partMany taken calls lacks callMany total values told toldLong) := by
  rw [X10_sets] at hf
  refine g_aload_n X dX10_sets_0 0 rfl rfl ?_
  obtain ⟨w1, hc2, hf⟩ := Option.bind_eq_some_iff.mp hf
  refine g_callV X (As := []) (st := []) (st1 := []) (ws' := c10 K a all w1.1 w1.2 errors text textLong rdd readMany waits opn place built builtMany parts partMany taken calls lacks callMany total values told toldLong) (X10_save_ok K l a all saved savedMany errors text textLong rdd readMany waits opn place built builtMany parts partMany taken calls lacks callMany total values told toldLong w1 hc2) gX10_sets_X10_save rfl 0 (by decide +kernel) ⟨rfl, rfl⟩ ⟨Nat.le_of_ble_eq_true rfl, Nat.le_of_ble_eq_true rfl⟩ ⟨Nat.zero_le _, Nat.zero_le _⟩ 0 rfl rfl rfl rfl (Nat.le_of_ble_eq_true rfl) dX10_sets_1 (SG.all rfl) rfl ?_
  refine g_aload_n X dX10_sets_4 0 rfl rfl ?_
  refine g_get X (v := .ref (a 1)) 0 0 dX10_sets_5 rfl rfl iw_X10_sets_X10 (by decide) fl_X10_sets_7 rfl ?_
  refine g_iload_n X dX10_sets_8 1 rfl rfl ?_
  refine g_iconst X dX10_sets_9 ?_
  refine g_iadd X dX10_sets_10 ?_
  refine g_iald X hf (by decide) 1 0 dX10_sets_11 rfl rfl (fun v3 hf => ?_)
  refine g_istore X (lv' := [(4, ii v3), (0, .ref (a 0)), (1, ii p1), (2, ii p2), (3, ii p3)]) dX10_sets_12 (by decide) rfl ?_
  refine g_aload_n X dX10_sets_14 1 rfl rfl ?_
  refine g_get X (v := .ref (a 1)) 0 0 dX10_sets_15 rfl rfl iw_X10_sets_X10 (by decide) fl_X10_sets_7 rfl ?_
  refine g_iload_n X dX10_sets_18 2 rfl rfl ?_
  refine g_iconst X dX10_sets_19 ?_
  refine g_iadd X dX10_sets_20 ?_
  refine g_iload_n X dX10_sets_21 3 rfl rfl ?_
  refine g_iast X hf (by decide) 1 0 dX10_sets_22 rfl rfl (fun f4 => c10 K a f4 w1.1 w1.2 errors text textLong rdd readMany waits opn place built builtMany parts partMany taken calls lacks callMany total values told toldLong) (fun _ => rfl) (fun f4 hf => ?_)
  refine g_aload_n X dX10_sets_23 1 rfl rfl ?_
  refine g_get X (v := .ref (a 1)) 0 0 dX10_sets_24 rfl rfl iw_X10_sets_X10 (by decide) fl_X10_sets_7 rfl ?_
  refine g_iload_n X dX10_sets_27 2 rfl rfl ?_
  refine g_iconst X dX10_sets_28 ?_
  refine g_iadd X dX10_sets_29 ?_
  refine g_iload_n X dX10_sets_30 4 rfl rfl ?_
  refine g_iast X hf (by decide) 1 0 dX10_sets_31 rfl rfl (fun f5 => c10 K a f5 w1.1 w1.2 errors text textLong rdd readMany waits opn place built builtMany parts partMany taken calls lacks callMany total values told toldLong) (fun _ => rfl) (fun f5 hf => ?_)
  refine g_iload X dX10_sets_32 0 rfl ?_
  cases hf
  exact g_iret X hr hlk dX10_sets_34
set_option maxHeartbeats 4000000 in
set_option maxRecDepth 100000 in
theorem X10_sets_ok (K : KE) (l : Launch) (a : Nat → Nat) (all : Arr) (saved : Arr) (savedMany : Int) (errors : Arr) (text : Arr) (textLong : Int) (rdd : Arr) (readMany : Int) (waits : Arr) (opn : Int) (place : Int) (built : Arr) (builtMany : Int) (parts : Arr) (partMany : Int) (taken : Arr) (calls : Arr) (lacks : Arr) (callMany : Int) (total : Int) (values : Arr) (told : Arr) (toldLong : Int) (p1 : Int) (p2 : Int) (p3 : Int) (res : Int × Arr × Arr × Int) (hf : X10_sets all saved savedMany p1 p2 p3 = some res) : CT l K.1 vwCl (kT K) yX10_sets wsX10_sets rmX10_sets [.ref (a 0), ii p1, ii p2, ii p3] (some (ii res.1)) (c10 K a all saved savedMany errors text textLong rdd readMany waits opn place built builtMany parts partMany taken calls lacks callMany total values told toldLong) (c10 K a res.2.1 res.2.2.1 res.2.2.2 errors text textLong rdd readMany waits opn place built builtMany parts partMany taken calls lacks callMany total values told toldLong) :=
  CT.mk (cc := cX10_sets) (maxL := 5) (ret := (some .int)) (by decide) rfl (Nat.le_of_ble_eq_true rfl) (fun p e s m below meth c X hr hlk => X10_sets_go K l a _ X hr hlk all saved savedMany errors text textLong rdd readMany waits opn place built builtMany parts partMany taken calls lacks callMany total values told toldLong p1 p2 p3 res hf)
theorem wd_X10_setOld_cl66 : Jvm.Cond.constantLong RX10 66 (3) ∈ wsX10_setOld := by decide +kernel
def rmX10_setOld : Room := { frames := 2, cells := 0, slots := 0, locals := 45 }
def X10_setOld (all : Arr) (saved : Arr) (savedMany : Int) (errors : Arr) (p1 : Int) (p2 : Int) (p3 : Int) : Option (Int × Arr × Arr × Int × Arr) := (X10_isFunction p1).bind (fun v1 => ltK (fun q3 : Int => brEQ q3 0 ((X10_error errors (-2)).bind (fun w5 => some (w5.1, all, saved, savedMany, w5.2))) ((X10_sets all saved savedMany (0 + (7 * p1)) p2 p3).bind (fun w7 => some (w7.1, w7.2.1, w7.2.2.1, w7.2.2.2, errors)))) (fun j4 => ltK (fun q9 : Unit => j4 0) (fun j10 => brEQ v1 0 (j10 ()) (lgK p2 ((X10_in p2 0 3).bind (fun v11 => brEQ v11 0 (j10 ()) (lgK p3 ((X10_in p3 0 1).bind (fun v13 => brEQ v13 0 (j10 ()) (j4 1))))))))))
set_option maxHeartbeats 4000000 in
set_option maxRecDepth 100000 in
theorem X10_setOld_go (K : KE) (l : Launch) (a : Nat → Nat) (WC : va_W) {p : Program} {e : Env} {s : State} {m : MethodId} {args : Array Value} {below : List Frame} {meth : Method} {c : Code} (X : CX p s m args c K.1 vwCl (kT K) (va_A WC s.heap.size) cX10_setOld 5 wsX10_setOld RX10) (hr : meth.sig.returnType = (some .int)) (hlk : meth.locks = false) (all : Arr) (saved : Arr) (savedMany : Int) (errors : Arr) (text : Arr) (textLong : Int) (rdd : Arr) (readMany : Int) (waits : Arr) (opn : Int) (place : Int) (built : Arr) (builtMany : Int) (parts : Arr) (partMany : Int) (taken : Arr) (calls : Arr) (lacks : Arr) (callMany : Int) (total : Int) (values : Arr) (told : Arr) (toldLong : Int) (p1 : Int) (p2 : Int) (p3 : Int) (res : Int × Arr × Arr × Int × Arr) (hf : X10_setOld all saved savedMany errors p1 p2 p3 = some res) : GO p l e rmX10_setOld s m args below meth c K.1 vwCl (va_A WC s.heap.size) (MQ below (QC K.1 vwCl (some (ii res.1)) WC (c10 K a res.2.1 res.2.2.1 res.2.2.2.1 res.2.2.2.2 text textLong rdd readMany waits opn place built builtMany parts partMany taken calls lacks callMany total values told toldLong) s.heap.size) args s 0 0 (va_A WC s.heap.size)) 5 0 0 0 [(0, .ref (a 0)), (1, ii p1), (2, ii p2), (3, ii p3)] [] (c10 K a all saved savedMany errors text textLong rdd readMany waits opn place built builtMany parts partMany taken calls lacks callMany total values told toldLong) := by
  rw [X10_setOld] at hf
  refine g_iload_n X dX10_setOld_0 1 rfl rfl ?_
  obtain ⟨v1, hc2, hf⟩ := Option.bind_eq_some_iff.mp hf
  refine g_callS X (As := [ii p1]) (st := []) (st1 := [ii v1]) (ws' := c10 K a all saved savedMany errors text textLong rdd readMany waits opn place built builtMany parts partMany taken calls lacks callMany total values told toldLong) (X10_isFunction_ok K l p1 v1 hc2) gX10_setOld_X10_isFunction rfl 1 (by decide +kernel) ⟨rfl, rfl⟩ ⟨Nat.le_of_ble_eq_true rfl, Nat.le_of_ble_eq_true rfl⟩ ⟨Nat.zero_le _, Nat.zero_le _⟩ rfl rfl (Nat.le_of_ble_eq_true rfl) dX10_setOld_1 SG.none rfl ?_
  refine g_let (G := fun q3 : Int => GO p l e rmX10_setOld s m args below meth c K.1 vwCl (va_A WC s.heap.size) (MQ below (QC K.1 vwCl (some (ii res.1)) WC (c10 K a res.2.1 res.2.2.1 res.2.2.2.1 res.2.2.2.2 text textLong rdd readMany waits opn place built builtMany parts partMany taken calls lacks callMany total values told toldLong) s.heap.size) args s 0 0 (va_A WC s.heap.size)) 5 0 0 34 [(0, .ref (a 0)), (1, ii p1), (2, ii p2), (3, ii p3)] [ii q3] (c10 K a all saved savedMany errors text textLong rdd readMany waits opn place built builtMany parts partMany taken calls lacks callMany total values told toldLong)) hf (fun q3 hf => ?_) (fun j4 hj4 hf => ?_)
  · refine g_istore X (lv' := [(4, ii q3), (0, .ref (a 0)), (1, ii p1), (2, ii p2), (3, ii p3)]) dX10_setOld_34 (by decide) rfl ?_
    refine g_iload X dX10_setOld_36 0 rfl ?_
    refine g_if_eq X hf 56 dX10_setOld_38 (by decide) (fun hf => ?_) (fun hf => ?_)
    · refine g_aload_n X dX10_setOld_56 1 rfl rfl ?_
      refine g_bipush X dX10_setOld_57 (by decide +kernel) ?_
      obtain ⟨w5, hc6, hf⟩ := Option.bind_eq_some_iff.mp hf
      refine g_callV X (As := [ii (-2)]) (st := []) (st1 := [ii w5.1]) (ws' := c10 K a all saved savedMany w5.2 text textLong rdd readMany waits opn place built builtMany parts partMany taken calls lacks callMany total values told toldLong) (X10_error_ok K l a all saved savedMany errors text textLong rdd readMany waits opn place built builtMany parts partMany taken calls lacks callMany total values told toldLong (-2) w5 hc6) gX10_setOld_X10_error rfl 1 (by decide +kernel) ⟨rfl, rfl⟩ ⟨Nat.le_of_ble_eq_true rfl, Nat.le_of_ble_eq_true rfl⟩ ⟨Nat.zero_le _, Nat.zero_le _⟩ 0 rfl rfl rfl rfl (Nat.le_of_ble_eq_true rfl) dX10_setOld_59 (SG.all rfl) rfl ?_
      cases hf
      exact g_iret X hr hlk dX10_setOld_62
    · refine g_aload_n X dX10_setOld_41 1 rfl rfl ?_
      refine g_iconst X dX10_setOld_42 ?_
      refine g_bipush X dX10_setOld_43 (by decide +kernel) ?_
      refine g_iload_n X dX10_setOld_45 2 rfl rfl ?_
      refine g_imul X dX10_setOld_46 ?_
      refine g_iadd X dX10_setOld_47 ?_
      refine g_iload_n X dX10_setOld_48 3 rfl rfl ?_
      refine g_iload_n X dX10_setOld_49 4 rfl rfl ?_
      obtain ⟨w7, hc8, hf⟩ := Option.bind_eq_some_iff.mp hf
      refine g_callV X (As := [ii (0 + (7 * p1)), ii p2, ii p3]) (st := []) (st1 := [ii w7.1]) (ws' := c10 K a w7.2.1 w7.2.2.1 w7.2.2.2 errors text textLong rdd readMany waits opn place built builtMany parts partMany taken calls lacks callMany total values told toldLong) (X10_sets_ok K l a all saved savedMany errors text textLong rdd readMany waits opn place built builtMany parts partMany taken calls lacks callMany total values told toldLong (0 + (7 * p1)) p2 p3 w7 hc8) gX10_setOld_X10_sets rfl 3 (by decide +kernel) ⟨rfl, rfl⟩ ⟨Nat.le_of_ble_eq_true rfl, Nat.le_of_ble_eq_true rfl⟩ ⟨Nat.zero_le _, Nat.zero_le _⟩ 0 rfl rfl rfl rfl (Nat.le_of_ble_eq_true rfl) dX10_setOld_50 (SG.all rfl) rfl ?_
      refine g_goto X 62 dX10_setOld_53 (by decide) ?_
      cases hf
      exact g_iret X hr hlk dX10_setOld_62
  · refine g_let (G := fun q9 : Unit => GO p l e rmX10_setOld s m args below meth c K.1 vwCl (va_A WC s.heap.size) (MQ below (QC K.1 vwCl (some (ii res.1)) WC (c10 K a res.2.1 res.2.2.1 res.2.2.2.1 res.2.2.2.2 text textLong rdd readMany waits opn place built builtMany parts partMany taken calls lacks callMany total values told toldLong) s.heap.size) args s 0 0 (va_A WC s.heap.size)) 5 0 0 33 [(0, .ref (a 0)), (1, ii p1), (2, ii p2), (3, ii p3)] [] (c10 K a all saved savedMany errors text textLong rdd readMany waits opn place built builtMany parts partMany taken calls lacks callMany total values told toldLong)) hf (fun q9 hf => ?_) (fun j10 hj10 hf => ?_)
    · refine g_iconst X dX10_setOld_33 ?_
      exact hj4 0 hf
    · refine g_if_eq X hf 33 dX10_setOld_4 (by decide) (fun hf => ?_) (fun hf => ?_)
      · exact hj10 () hf
      · refine g_iload_n X dX10_setOld_7 2 rfl rfl ?_
        refine g_i2l X hf dX10_setOld_8 (fun hf => ?_)
        refine g_lconst X 0 dX10_setOld_9 (by decide +kernel) ?_
        refine g_ldc2 X 3 dX10_setOld_10 wd_X10_setOld_cl66 (by decide +kernel) ?_
        obtain ⟨v11, hc12, hf⟩ := Option.bind_eq_some_iff.mp hf
        refine g_callS X (As := [ll p2, ll 0, ll 3]) (st := []) (st1 := [ii v11]) (ws' := c10 K a all saved savedMany errors text textLong rdd readMany waits opn place built builtMany parts partMany taken calls lacks callMany total values told toldLong) (X10_in_ok K l p2 0 3 v11 hc12) gX10_setOld_X10_in rfl 3 (by decide +kernel) ⟨rfl, rfl⟩ ⟨Nat.le_of_ble_eq_true rfl, Nat.le_of_ble_eq_true rfl⟩ ⟨Nat.zero_le _, Nat.zero_le _⟩ rfl rfl (Nat.le_of_ble_eq_true rfl) dX10_setOld_13 SG.none rfl ?_
        refine g_if_eq X hf 33 dX10_setOld_16 (by decide) (fun hf => ?_) (fun hf => ?_)
        · exact hj10 () hf
        · refine g_iload_n X dX10_setOld_19 3 rfl rfl ?_
          refine g_i2l X hf dX10_setOld_20 (fun hf => ?_)
          refine g_lconst X 0 dX10_setOld_21 (by decide +kernel) ?_
          refine g_lconst X 1 dX10_setOld_22 (by decide +kernel) ?_
          obtain ⟨v13, hc14, hf⟩ := Option.bind_eq_some_iff.mp hf
          refine g_callS X (As := [ll p3, ll 0, ll 1]) (st := []) (st1 := [ii v13]) (ws' := c10 K a all saved savedMany errors text textLong rdd readMany waits opn place built builtMany parts partMany taken calls lacks callMany total values told toldLong) (X10_in_ok K l p3 0 1 v13 hc14) gX10_setOld_X10_in rfl 3 (by decide +kernel) ⟨rfl, rfl⟩ ⟨Nat.le_of_ble_eq_true rfl, Nat.le_of_ble_eq_true rfl⟩ ⟨Nat.zero_le _, Nat.zero_le _⟩ rfl rfl (Nat.le_of_ble_eq_true rfl) dX10_setOld_23 SG.none rfl ?_
          refine g_if_eq X hf 33 dX10_setOld_26 (by decide) (fun hf => ?_) (fun hf => ?_)
          · exact hj10 () hf
          · refine g_iconst X dX10_setOld_29 ?_
            refine g_goto X 34 dX10_setOld_30 (by decide) ?_
            exact hj4 1 hf
set_option maxHeartbeats 4000000 in
set_option maxRecDepth 100000 in
theorem X10_setOld_ok (K : KE) (l : Launch) (a : Nat → Nat) (all : Arr) (saved : Arr) (savedMany : Int) (errors : Arr) (text : Arr) (textLong : Int) (rdd : Arr) (readMany : Int) (waits : Arr) (opn : Int) (place : Int) (built : Arr) (builtMany : Int) (parts : Arr) (partMany : Int) (taken : Arr) (calls : Arr) (lacks : Arr) (callMany : Int) (total : Int) (values : Arr) (told : Arr) (toldLong : Int) (p1 : Int) (p2 : Int) (p3 : Int) (res : Int × Arr × Arr × Int × Arr) (hf : X10_setOld all saved savedMany errors p1 p2 p3 = some res) : CT l K.1 vwCl (kT K) yX10_setOld wsX10_setOld rmX10_setOld [.ref (a 0), ii p1, ii p2, ii p3] (some (ii res.1)) (c10 K a all saved savedMany errors text textLong rdd readMany waits opn place built builtMany parts partMany taken calls lacks callMany total values told toldLong) (c10 K a res.2.1 res.2.2.1 res.2.2.2.1 res.2.2.2.2 text textLong rdd readMany waits opn place built builtMany parts partMany taken calls lacks callMany total values told toldLong) :=
  CT.mk (cc := cX10_setOld) (maxL := 5) (ret := (some .int)) (by decide) rfl (Nat.le_of_ble_eq_true rfl) (fun p e s m below meth c X hr hlk => X10_setOld_go K l a _ X hr hlk all saved savedMany errors text textLong rdd readMany waits opn place built builtMany parts partMany taken calls lacks callMany total values told toldLong p1 p2 p3 res hf)
theorem wd_X10_setNew_cl76 : Jvm.Cond.constantLong RX10 76 (4) ∈ wsX10_setNew := by decide +kernel
def rmX10_setNew : Room := { frames := 2, cells := 0, slots := 0, locals := 45 }
def X10_setNew (all : Arr) (saved : Arr) (savedMany : Int) (errors : Arr) (p1 : Int) (p2 : Int) (p3 : Int) : Option (Int × Arr × Arr × Int × Arr) := (X10_isFunction p1).bind (fun v1 => ltK (fun q3 : Int => brEQ q3 0 ((X10_error errors (-2)).bind (fun w5 => some (w5.1, all, saved, savedMany, w5.2))) ((X10_sets all saved savedMany (42 + (7 * p1)) p2 p3).bind (fun w7 => some (w7.1, w7.2.1, w7.2.2.1, w7.2.2.2, errors)))) (fun j4 => ltK (fun q9 : Unit => j4 0) (fun j10 => brEQ v1 0 (j10 ()) (lgK p2 ((X10_in p2 0 4).bind (fun v11 => brEQ v11 0 (j10 ()) (lgK p3 ((X10_in p3 0 1).bind (fun v13 => brEQ v13 0 (j10 ()) (j4 1))))))))))
set_option maxHeartbeats 4000000 in
set_option maxRecDepth 100000 in
theorem X10_setNew_go (K : KE) (l : Launch) (a : Nat → Nat) (WC : va_W) {p : Program} {e : Env} {s : State} {m : MethodId} {args : Array Value} {below : List Frame} {meth : Method} {c : Code} (X : CX p s m args c K.1 vwCl (kT K) (va_A WC s.heap.size) cX10_setNew 5 wsX10_setNew RX10) (hr : meth.sig.returnType = (some .int)) (hlk : meth.locks = false) (all : Arr) (saved : Arr) (savedMany : Int) (errors : Arr) (text : Arr) (textLong : Int) (rdd : Arr) (readMany : Int) (waits : Arr) (opn : Int) (place : Int) (built : Arr) (builtMany : Int) (parts : Arr) (partMany : Int) (taken : Arr) (calls : Arr) (lacks : Arr) (callMany : Int) (total : Int) (values : Arr) (told : Arr) (toldLong : Int) (p1 : Int) (p2 : Int) (p3 : Int) (res : Int × Arr × Arr × Int × Arr) (hf : X10_setNew all saved savedMany errors p1 p2 p3 = some res) : GO p l e rmX10_setNew s m args below meth c K.1 vwCl (va_A WC s.heap.size) (MQ below (QC K.1 vwCl (some (ii res.1)) WC (c10 K a res.2.1 res.2.2.1 res.2.2.2.1 res.2.2.2.2 text textLong rdd readMany waits opn place built builtMany parts partMany taken calls lacks callMany total values told toldLong) s.heap.size) args s 0 0 (va_A WC s.heap.size)) 5 0 0 0 [(0, .ref (a 0)), (1, ii p1), (2, ii p2), (3, ii p3)] [] (c10 K a all saved savedMany errors text textLong rdd readMany waits opn place built builtMany parts partMany taken calls lacks callMany total values told toldLong) := by
  rw [X10_setNew] at hf
  refine g_iload_n X dX10_setNew_0 1 rfl rfl ?_
  obtain ⟨v1, hc2, hf⟩ := Option.bind_eq_some_iff.mp hf
  refine g_callS X (As := [ii p1]) (st := []) (st1 := [ii v1]) (ws' := c10 K a all saved savedMany errors text textLong rdd readMany waits opn place built builtMany parts partMany taken calls lacks callMany total values told toldLong) (X10_isFunction_ok K l p1 v1 hc2) gX10_setNew_X10_isFunction rfl 1 (by decide +kernel) ⟨rfl, rfl⟩ ⟨Nat.le_of_ble_eq_true rfl, Nat.le_of_ble_eq_true rfl⟩ ⟨Nat.zero_le _, Nat.zero_le _⟩ rfl rfl (Nat.le_of_ble_eq_true rfl) dX10_setNew_1 SG.none rfl ?_
  refine g_let (G := fun q3 : Int => GO p l e rmX10_setNew s m args below meth c K.1 vwCl (va_A WC s.heap.size) (MQ below (QC K.1 vwCl (some (ii res.1)) WC (c10 K a res.2.1 res.2.2.1 res.2.2.2.1 res.2.2.2.2 text textLong rdd readMany waits opn place built builtMany parts partMany taken calls lacks callMany total values told toldLong) s.heap.size) args s 0 0 (va_A WC s.heap.size)) 5 0 0 34 [(0, .ref (a 0)), (1, ii p1), (2, ii p2), (3, ii p3)] [ii q3] (c10 K a all saved savedMany errors text textLong rdd readMany waits opn place built builtMany parts partMany taken calls lacks callMany total values told toldLong)) hf (fun q3 hf => ?_) (fun j4 hj4 hf => ?_)
  · refine g_istore X (lv' := [(4, ii q3), (0, .ref (a 0)), (1, ii p1), (2, ii p2), (3, ii p3)]) dX10_setNew_34 (by decide) rfl ?_
    refine g_iload X dX10_setNew_36 0 rfl ?_
    refine g_if_eq X hf 57 dX10_setNew_38 (by decide) (fun hf => ?_) (fun hf => ?_)
    · refine g_aload_n X dX10_setNew_57 1 rfl rfl ?_
      refine g_bipush X dX10_setNew_58 (by decide +kernel) ?_
      obtain ⟨w5, hc6, hf⟩ := Option.bind_eq_some_iff.mp hf
      refine g_callV X (As := [ii (-2)]) (st := []) (st1 := [ii w5.1]) (ws' := c10 K a all saved savedMany w5.2 text textLong rdd readMany waits opn place built builtMany parts partMany taken calls lacks callMany total values told toldLong) (X10_error_ok K l a all saved savedMany errors text textLong rdd readMany waits opn place built builtMany parts partMany taken calls lacks callMany total values told toldLong (-2) w5 hc6) gX10_setNew_X10_error rfl 1 (by decide +kernel) ⟨rfl, rfl⟩ ⟨Nat.le_of_ble_eq_true rfl, Nat.le_of_ble_eq_true rfl⟩ ⟨Nat.zero_le _, Nat.zero_le _⟩ 0 rfl rfl rfl rfl (Nat.le_of_ble_eq_true rfl) dX10_setNew_60 (SG.all rfl) rfl ?_
      cases hf
      exact g_iret X hr hlk dX10_setNew_63
    · refine g_aload_n X dX10_setNew_41 1 rfl rfl ?_
      refine g_bipush X dX10_setNew_42 (by decide +kernel) ?_
      refine g_bipush X dX10_setNew_44 (by decide +kernel) ?_
      refine g_iload_n X dX10_setNew_46 2 rfl rfl ?_
      refine g_imul X dX10_setNew_47 ?_
      refine g_iadd X dX10_setNew_48 ?_
      refine g_iload_n X dX10_setNew_49 3 rfl rfl ?_
      refine g_iload_n X dX10_setNew_50 4 rfl rfl ?_
      obtain ⟨w7, hc8, hf⟩ := Option.bind_eq_some_iff.mp hf
      refine g_callV X (As := [ii (42 + (7 * p1)), ii p2, ii p3]) (st := []) (st1 := [ii w7.1]) (ws' := c10 K a w7.2.1 w7.2.2.1 w7.2.2.2 errors text textLong rdd readMany waits opn place built builtMany parts partMany taken calls lacks callMany total values told toldLong) (X10_sets_ok K l a all saved savedMany errors text textLong rdd readMany waits opn place built builtMany parts partMany taken calls lacks callMany total values told toldLong (42 + (7 * p1)) p2 p3 w7 hc8) gX10_setNew_X10_sets rfl 3 (by decide +kernel) ⟨rfl, rfl⟩ ⟨Nat.le_of_ble_eq_true rfl, Nat.le_of_ble_eq_true rfl⟩ ⟨Nat.zero_le _, Nat.zero_le _⟩ 0 rfl rfl rfl rfl (Nat.le_of_ble_eq_true rfl) dX10_setNew_51 (SG.all rfl) rfl ?_
      refine g_goto X 63 dX10_setNew_54 (by decide) ?_
      cases hf
      exact g_iret X hr hlk dX10_setNew_63
  · refine g_let (G := fun q9 : Unit => GO p l e rmX10_setNew s m args below meth c K.1 vwCl (va_A WC s.heap.size) (MQ below (QC K.1 vwCl (some (ii res.1)) WC (c10 K a res.2.1 res.2.2.1 res.2.2.2.1 res.2.2.2.2 text textLong rdd readMany waits opn place built builtMany parts partMany taken calls lacks callMany total values told toldLong) s.heap.size) args s 0 0 (va_A WC s.heap.size)) 5 0 0 33 [(0, .ref (a 0)), (1, ii p1), (2, ii p2), (3, ii p3)] [] (c10 K a all saved savedMany errors text textLong rdd readMany waits opn place built builtMany parts partMany taken calls lacks callMany total values told toldLong)) hf (fun q9 hf => ?_) (fun j10 hj10 hf => ?_)
    · refine g_iconst X dX10_setNew_33 ?_
      exact hj4 0 hf
    · refine g_if_eq X hf 33 dX10_setNew_4 (by decide) (fun hf => ?_) (fun hf => ?_)
      · exact hj10 () hf
      · refine g_iload_n X dX10_setNew_7 2 rfl rfl ?_
        refine g_i2l X hf dX10_setNew_8 (fun hf => ?_)
        refine g_lconst X 0 dX10_setNew_9 (by decide +kernel) ?_
        refine g_ldc2 X 4 dX10_setNew_10 wd_X10_setNew_cl76 (by decide +kernel) ?_
        obtain ⟨v11, hc12, hf⟩ := Option.bind_eq_some_iff.mp hf
        refine g_callS X (As := [ll p2, ll 0, ll 4]) (st := []) (st1 := [ii v11]) (ws' := c10 K a all saved savedMany errors text textLong rdd readMany waits opn place built builtMany parts partMany taken calls lacks callMany total values told toldLong) (X10_in_ok K l p2 0 4 v11 hc12) gX10_setNew_X10_in rfl 3 (by decide +kernel) ⟨rfl, rfl⟩ ⟨Nat.le_of_ble_eq_true rfl, Nat.le_of_ble_eq_true rfl⟩ ⟨Nat.zero_le _, Nat.zero_le _⟩ rfl rfl (Nat.le_of_ble_eq_true rfl) dX10_setNew_13 SG.none rfl ?_
        refine g_if_eq X hf 33 dX10_setNew_16 (by decide) (fun hf => ?_) (fun hf => ?_)
        · exact hj10 () hf
        · refine g_iload_n X dX10_setNew_19 3 rfl rfl ?_
          refine g_i2l X hf dX10_setNew_20 (fun hf => ?_)
          refine g_lconst X 0 dX10_setNew_21 (by decide +kernel) ?_
          refine g_lconst X 1 dX10_setNew_22 (by decide +kernel) ?_
          obtain ⟨v13, hc14, hf⟩ := Option.bind_eq_some_iff.mp hf
          refine g_callS X (As := [ll p3, ll 0, ll 1]) (st := []) (st1 := [ii v13]) (ws' := c10 K a all saved savedMany errors text textLong rdd readMany waits opn place built builtMany parts partMany taken calls lacks callMany total values told toldLong) (X10_in_ok K l p3 0 1 v13 hc14) gX10_setNew_X10_in rfl 3 (by decide +kernel) ⟨rfl, rfl⟩ ⟨Nat.le_of_ble_eq_true rfl, Nat.le_of_ble_eq_true rfl⟩ ⟨Nat.zero_le _, Nat.zero_le _⟩ rfl rfl (Nat.le_of_ble_eq_true rfl) dX10_setNew_23 SG.none rfl ?_
          refine g_if_eq X hf 33 dX10_setNew_26 (by decide) (fun hf => ?_) (fun hf => ?_)
          · exact hj10 () hf
          · refine g_iconst X dX10_setNew_29 ?_
            refine g_goto X 34 dX10_setNew_30 (by decide) ?_
            exact hj4 1 hf
set_option maxHeartbeats 4000000 in
set_option maxRecDepth 100000 in
theorem X10_setNew_ok (K : KE) (l : Launch) (a : Nat → Nat) (all : Arr) (saved : Arr) (savedMany : Int) (errors : Arr) (text : Arr) (textLong : Int) (rdd : Arr) (readMany : Int) (waits : Arr) (opn : Int) (place : Int) (built : Arr) (builtMany : Int) (parts : Arr) (partMany : Int) (taken : Arr) (calls : Arr) (lacks : Arr) (callMany : Int) (total : Int) (values : Arr) (told : Arr) (toldLong : Int) (p1 : Int) (p2 : Int) (p3 : Int) (res : Int × Arr × Arr × Int × Arr) (hf : X10_setNew all saved savedMany errors p1 p2 p3 = some res) : CT l K.1 vwCl (kT K) yX10_setNew wsX10_setNew rmX10_setNew [.ref (a 0), ii p1, ii p2, ii p3] (some (ii res.1)) (c10 K a all saved savedMany errors text textLong rdd readMany waits opn place built builtMany parts partMany taken calls lacks callMany total values told toldLong) (c10 K a res.2.1 res.2.2.1 res.2.2.2.1 res.2.2.2.2 text textLong rdd readMany waits opn place built builtMany parts partMany taken calls lacks callMany total values told toldLong) :=
  CT.mk (cc := cX10_setNew) (maxL := 5) (ret := (some .int)) (by decide) rfl (Nat.le_of_ble_eq_true rfl) (fun p e s m below meth c X hr hlk => X10_setNew_go K l a _ X hr hlk all saved savedMany errors text textLong rdd readMany waits opn place built builtMany parts partMany taken calls lacks callMany total values told toldLong p1 p2 p3 res hf)
theorem wd_X10_setsTerm_cl78 : Jvm.Cond.constantLong RX10 78 (-1) ∈ wsX10_setsTerm := by decide +kernel
theorem wd_X10_setsTerm_cl66 : Jvm.Cond.constantLong RX10 66 (3) ∈ wsX10_setsTerm := by decide +kernel
theorem wd_X10_setsTerm_cl80 : Jvm.Cond.constantLong RX10 80 (99) ∈ wsX10_setsTerm := by decide +kernel
theorem iw_X10_setsTerm_X10 : ∀ w ∈ u_ws RX10 TX10 23, w ∈ wsX10_setsTerm := by decide +kernel
theorem fl_X10_setsTerm_7 : Cond.fieldLink RX10 7 (TX10 0).1 (TX10 0).2.1 (TX10 0).2.2.1 ∈ wsX10_setsTerm := by decide +kernel
def rmX10_setsTerm : Room := { frames := 2, cells := 0, slots := 0, locals := 45 }
def X10_setsTerm (all : Arr) (saved : Arr) (savedMany : Int) (errors : Arr) (p1 : Int) (p2 : Int) (p3 : Int) (p4 : Int) : Option (Int × Arr × Arr × Int × Arr) := (X10_isFunction p2).bind (fun v1 => brEQ v1 0 ((X10_error errors (-2)).bind (fun w3 => some (w3.1, all, saved, savedMany, w3.2))) (lgK p3 ((X10_in p3 (-1) 3).bind (fun v5 => brEQ v5 0 ((X10_error errors (-2)).bind (fun w7 => some (w7.1, all, saved, savedMany, w7.2))) (lgK p4 ((X10_in p4 0 99).bind (fun v9 => brEQ v9 0 ((X10_error errors (-2)).bind (fun w11 => some (w11.1, all, saved, savedMany, w11.2))) ((X10_save all saved savedMany).bind (fun w13 => rdK 186 all ((((p1 + (7 * p2)) + 2) + 1) + p3) (fun v15 => wrK 186 all ((((p1 + (7 * p2)) + 2) + 1) + p3) p4 (fun f16 => some (v15, f16, w13.1, w13.2, errors))))))))))))
set_option maxHeartbeats 4000000 in
set_option maxRecDepth 100000 in
theorem X10_setsTerm_go (K : KE) (l : Launch) (a : Nat → Nat) (WC : va_W) {p : Program} {e : Env} {s : State} {m : MethodId} {args : Array Value} {below : List Frame} {meth : Method} {c : Code} (X : CX p s m args c K.1 vwCl (kT K) (va_A WC s.heap.size) cX10_setsTerm 7 wsX10_setsTerm RX10) (hr : meth.sig.returnType = (some .int)) (hlk : meth.locks = false) (all : Arr) (saved : Arr) (savedMany : Int) (errors : Arr) (text : Arr) (textLong : Int) (rdd : Arr) (readMany : Int) (waits : Arr) (opn : Int) (place : Int) (built : Arr) (builtMany : Int) (parts : Arr) (partMany : Int) (taken : Arr) (calls : Arr) (lacks : Arr) (callMany : Int) (total : Int) (values : Arr) (told : Arr) (toldLong : Int) (p1 : Int) (p2 : Int) (p3 : Int) (p4 : Int) (res : Int × Arr × Arr × Int × Arr) (hf : X10_setsTerm all saved savedMany errors p1 p2 p3 p4 = some res) : GO p l e rmX10_setsTerm s m args below meth c K.1 vwCl (va_A WC s.heap.size) (MQ below (QC K.1 vwCl (some (ii res.1)) WC (c10 K a res.2.1 res.2.2.1 res.2.2.2.1 res.2.2.2.2 text textLong rdd readMany waits opn place built builtMany parts partMany taken calls lacks callMany total values told toldLong) s.heap.size) args s 0 0 (va_A WC s.heap.size)) 7 0 0 0 [(0, .ref (a 0)), (1, ii p1), (2, ii p2), (3, ii p3), (4, ii p4)] [] (c10 K a all saved savedMany errors text textLong rdd readMany waits opn place built builtMany parts partMany taken calls lacks callMany total values told toldLong) := by
  rw [X10_setsTerm] at hf
  refine g_iload_n X dX10_setsTerm_0 2 rfl rfl ?_
  obtain ⟨v1, hc2, hf⟩ := Option.bind_eq_some_iff.mp hf
  refine g_callS X (As := [ii p2]) (st := []) (st1 := [ii v1]) (ws' := c10 K a all saved savedMany errors text textLong rdd readMany waits opn place built builtMany parts partMany taken calls lacks callMany total values told toldLong) (X10_isFunction_ok K l p2 v1 hc2) gX10_setsTerm_X10_isFunction rfl 1 (by decide +kernel) ⟨rfl, rfl⟩ ⟨Nat.le_of_ble_eq_true rfl, Nat.le_of_ble_eq_true rfl⟩ ⟨Nat.zero_le _, Nat.zero_le _⟩ rfl rfl (Nat.le_of_ble_eq_true rfl) dX10_setsTerm_1 SG.none rfl ?_
  refine g_if_eq X hf 34 dX10_setsTerm_4 (by decide) (fun hf => ?_) (fun hf => ?_)
  · refine g_aload_n X dX10_setsTerm_34 0 rfl rfl ?_
    refine g_bipush X dX10_setsTerm_35 (by decide +kernel) ?_
    obtain ⟨w3, hc4, hf⟩ := Option.bind_eq_some_iff.mp hf
    refine g_callV X (As := [ii (-2)]) (st := []) (st1 := [ii w3.1]) (ws' := c10 K a all saved savedMany w3.2 text textLong rdd readMany waits opn place built builtMany parts partMany taken calls lacks callMany total values told toldLong) (X10_error_ok K l a all saved savedMany errors text textLong rdd readMany waits opn place built builtMany parts partMany taken calls lacks callMany total values told toldLong (-2) w3 hc4) gX10_setsTerm_X10_error rfl 1 (by decide +kernel) ⟨rfl, rfl⟩ ⟨Nat.le_of_ble_eq_true rfl, Nat.le_of_ble_eq_true rfl⟩ ⟨Nat.zero_le _, Nat.zero_le _⟩ 0 rfl rfl rfl rfl (Nat.le_of_ble_eq_true rfl) dX10_setsTerm_37 (SG.all rfl) rfl ?_
    cases hf
    exact g_iret X hr hlk dX10_setsTerm_40
  · refine g_iload_n X dX10_setsTerm_7 3 rfl rfl ?_
    refine g_i2l X hf dX10_setsTerm_8 (fun hf => ?_)
    refine g_ldc2 X (-1) dX10_setsTerm_9 wd_X10_setsTerm_cl78 (by decide +kernel) ?_
    refine g_ldc2 X 3 dX10_setsTerm_12 wd_X10_setsTerm_cl66 (by decide +kernel) ?_
    obtain ⟨v5, hc6, hf⟩ := Option.bind_eq_some_iff.mp hf
    refine g_callS X (As := [ll p3, ll (-1), ll 3]) (st := []) (st1 := [ii v5]) (ws' := c10 K a all saved savedMany errors text textLong rdd readMany waits opn place built builtMany parts partMany taken calls lacks callMany total values told toldLong) (X10_in_ok K l p3 (-1) 3 v5 hc6) gX10_setsTerm_X10_in rfl 3 (by decide +kernel) ⟨rfl, rfl⟩ ⟨Nat.le_of_ble_eq_true rfl, Nat.le_of_ble_eq_true rfl⟩ ⟨Nat.zero_le _, Nat.zero_le _⟩ rfl rfl (Nat.le_of_ble_eq_true rfl) dX10_setsTerm_15 SG.none rfl ?_
    refine g_if_eq X hf 34 dX10_setsTerm_18 (by decide) (fun hf => ?_) (fun hf => ?_)
    · refine g_aload_n X dX10_setsTerm_34 0 rfl rfl ?_
      refine g_bipush X dX10_setsTerm_35 (by decide +kernel) ?_
      obtain ⟨w7, hc8, hf⟩ := Option.bind_eq_some_iff.mp hf
      refine g_callV X (As := [ii (-2)]) (st := []) (st1 := [ii w7.1]) (ws' := c10 K a all saved savedMany w7.2 text textLong rdd readMany waits opn place built builtMany parts partMany taken calls lacks callMany total values told toldLong) (X10_error_ok K l a all saved savedMany errors text textLong rdd readMany waits opn place built builtMany parts partMany taken calls lacks callMany total values told toldLong (-2) w7 hc8) gX10_setsTerm_X10_error rfl 1 (by decide +kernel) ⟨rfl, rfl⟩ ⟨Nat.le_of_ble_eq_true rfl, Nat.le_of_ble_eq_true rfl⟩ ⟨Nat.zero_le _, Nat.zero_le _⟩ 0 rfl rfl rfl rfl (Nat.le_of_ble_eq_true rfl) dX10_setsTerm_37 (SG.all rfl) rfl ?_
      cases hf
      exact g_iret X hr hlk dX10_setsTerm_40
    · refine g_iload X dX10_setsTerm_21 4 rfl ?_
      refine g_i2l X hf dX10_setsTerm_23 (fun hf => ?_)
      refine g_lconst X 0 dX10_setsTerm_24 (by decide +kernel) ?_
      refine g_ldc2 X 99 dX10_setsTerm_25 wd_X10_setsTerm_cl80 (by decide +kernel) ?_
      obtain ⟨v9, hc10, hf⟩ := Option.bind_eq_some_iff.mp hf
      refine g_callS X (As := [ll p4, ll 0, ll 99]) (st := []) (st1 := [ii v9]) (ws' := c10 K a all saved savedMany errors text textLong rdd readMany waits opn place built builtMany parts partMany taken calls lacks callMany total values told toldLong) (X10_in_ok K l p4 0 99 v9 hc10) gX10_setsTerm_X10_in rfl 3 (by decide +kernel) ⟨rfl, rfl⟩ ⟨Nat.le_of_ble_eq_true rfl, Nat.le_of_ble_eq_true rfl⟩ ⟨Nat.zero_le _, Nat.zero_le _⟩ rfl rfl (Nat.le_of_ble_eq_true rfl) dX10_setsTerm_28 SG.none rfl ?_
      refine g_if_ne X hf 41 dX10_setsTerm_31 (by decide) (fun hf => ?_) (fun hf => ?_)
      · refine g_aload_n X dX10_setsTerm_34 0 rfl rfl ?_
        refine g_bipush X dX10_setsTerm_35 (by decide +kernel) ?_
        obtain ⟨w11, hc12, hf⟩ := Option.bind_eq_some_iff.mp hf
        refine g_callV X (As := [ii (-2)]) (st := []) (st1 := [ii w11.1]) (ws' := c10 K a all saved savedMany w11.2 text textLong rdd readMany waits opn place built builtMany parts partMany taken calls lacks callMany total values told toldLong) (X10_error_ok K l a all saved savedMany errors text textLong rdd readMany waits opn place built builtMany parts partMany taken calls lacks callMany total values told toldLong (-2) w11 hc12) gX10_setsTerm_X10_error rfl 1 (by decide +kernel) ⟨rfl, rfl⟩ ⟨Nat.le_of_ble_eq_true rfl, Nat.le_of_ble_eq_true rfl⟩ ⟨Nat.zero_le _, Nat.zero_le _⟩ 0 rfl rfl rfl rfl (Nat.le_of_ble_eq_true rfl) dX10_setsTerm_37 (SG.all rfl) rfl ?_
        cases hf
        exact g_iret X hr hlk dX10_setsTerm_40
      · refine g_aload_n X dX10_setsTerm_41 0 rfl rfl ?_
        obtain ⟨w13, hc14, hf⟩ := Option.bind_eq_some_iff.mp hf
        refine g_callV X (As := []) (st := []) (st1 := []) (ws' := c10 K a all w13.1 w13.2 errors text textLong rdd readMany waits opn place built builtMany parts partMany taken calls lacks callMany total values told toldLong) (X10_save_ok K l a all saved savedMany errors text textLong rdd readMany waits opn place built builtMany parts partMany taken calls lacks callMany total values told toldLong w13 hc14) gX10_setsTerm_X10_save rfl 0 (by decide +kernel) ⟨rfl, rfl⟩ ⟨Nat.le_of_ble_eq_true rfl, Nat.le_of_ble_eq_true rfl⟩ ⟨Nat.zero_le _, Nat.zero_le _⟩ 0 rfl rfl rfl rfl (Nat.le_of_ble_eq_true rfl) dX10_setsTerm_42 (SG.all rfl) rfl ?_
        refine g_iload_n X dX10_setsTerm_45 1 rfl rfl ?_
        refine g_bipush X dX10_setsTerm_46 (by decide +kernel) ?_
        refine g_iload_n X dX10_setsTerm_48 2 rfl rfl ?_
        refine g_imul X dX10_setsTerm_49 ?_
        refine g_iadd X dX10_setsTerm_50 ?_
        refine g_iconst X dX10_setsTerm_51 ?_
        refine g_iadd X dX10_setsTerm_52 ?_
        refine g_iconst X dX10_setsTerm_53 ?_
        refine g_iadd X dX10_setsTerm_54 ?_
        refine g_iload_n X dX10_setsTerm_55 3 rfl rfl ?_
        refine g_iadd X dX10_setsTerm_56 ?_
        refine g_istore X (lv' := [(5, ii ((((p1 + (7 * p2)) + 2) + 1) + p3)), (0, .ref (a 0)), (1, ii p1), (2, ii p2), (3, ii p3), (4, ii p4)]) dX10_setsTerm_57 (by decide) rfl ?_
        refine g_aload_n X dX10_setsTerm_59 1 rfl rfl ?_
        refine g_get X (v := .ref (a 1)) 0 0 dX10_setsTerm_60 rfl rfl iw_X10_setsTerm_X10 (by decide) fl_X10_setsTerm_7 rfl ?_
        refine g_iload X dX10_setsTerm_63 0 rfl ?_
        refine g_iald X hf (by decide) 1 0 dX10_setsTerm_65 rfl rfl (fun v15 hf => ?_)
        refine g_istore X (lv' := [(6, ii v15), (5, ii ((((p1 + (7 * p2)) + 2) + 1) + p3)), (0, .ref (a 0)), (1, ii p1), (2, ii p2), (3, ii p3), (4, ii p4)]) dX10_setsTerm_66 (by decide) rfl ?_
        refine g_aload_n X dX10_setsTerm_68 2 rfl rfl ?_
        refine g_get X (v := .ref (a 1)) 0 0 dX10_setsTerm_69 rfl rfl iw_X10_setsTerm_X10 (by decide) fl_X10_setsTerm_7 rfl ?_
        refine g_iload X dX10_setsTerm_72 1 rfl ?_
        refine g_iload X dX10_setsTerm_74 6 rfl ?_
        refine g_iast X hf (by decide) 1 0 dX10_setsTerm_76 rfl rfl (fun f16 => c10 K a f16 w13.1 w13.2 errors text textLong rdd readMany waits opn place built builtMany parts partMany taken calls lacks callMany total values told toldLong) (fun _ => rfl) (fun f16 hf => ?_)
        refine g_iload X dX10_setsTerm_77 0 rfl ?_
        cases hf
        exact g_iret X hr hlk dX10_setsTerm_79
set_option maxHeartbeats 4000000 in
set_option maxRecDepth 100000 in
theorem X10_setsTerm_ok (K : KE) (l : Launch) (a : Nat → Nat) (all : Arr) (saved : Arr) (savedMany : Int) (errors : Arr) (text : Arr) (textLong : Int) (rdd : Arr) (readMany : Int) (waits : Arr) (opn : Int) (place : Int) (built : Arr) (builtMany : Int) (parts : Arr) (partMany : Int) (taken : Arr) (calls : Arr) (lacks : Arr) (callMany : Int) (total : Int) (values : Arr) (told : Arr) (toldLong : Int) (p1 : Int) (p2 : Int) (p3 : Int) (p4 : Int) (res : Int × Arr × Arr × Int × Arr) (hf : X10_setsTerm all saved savedMany errors p1 p2 p3 p4 = some res) : CT l K.1 vwCl (kT K) yX10_setsTerm wsX10_setsTerm rmX10_setsTerm [.ref (a 0), ii p1, ii p2, ii p3, ii p4] (some (ii res.1)) (c10 K a all saved savedMany errors text textLong rdd readMany waits opn place built builtMany parts partMany taken calls lacks callMany total values told toldLong) (c10 K a res.2.1 res.2.2.1 res.2.2.2.1 res.2.2.2.2 text textLong rdd readMany waits opn place built builtMany parts partMany taken calls lacks callMany total values told toldLong) :=
  CT.mk (cc := cX10_setsTerm) (maxL := 7) (ret := (some .int)) (by decide) rfl (Nat.le_of_ble_eq_true rfl) (fun p e s m below meth c X hr hlk => X10_setsTerm_go K l a _ X hr hlk all saved savedMany errors text textLong rdd readMany waits opn place built builtMany parts partMany taken calls lacks callMany total values told toldLong p1 p2 p3 p4 res hf)
def rmX10_setOldTerm : Room := { frames := 3, cells := 0, slots := 0, locals := 71 }
def X10_setOldTerm (all : Arr) (saved : Arr) (savedMany : Int) (errors : Arr) (p1 : Int) (p2 : Int) (p3 : Int) : Option (Int × Arr × Arr × Int × Arr) := (X10_setsTerm all saved savedMany errors 0 p1 p2 p3).bind (fun w1 => some (w1.1, w1.2.1, w1.2.2.1, w1.2.2.2.1, w1.2.2.2.2))
set_option maxHeartbeats 4000000 in
set_option maxRecDepth 100000 in
theorem X10_setOldTerm_go (K : KE) (l : Launch) (a : Nat → Nat) (WC : va_W) {p : Program} {e : Env} {s : State} {m : MethodId} {args : Array Value} {below : List Frame} {meth : Method} {c : Code} (X : CX p s m args c K.1 vwCl (kT K) (va_A WC s.heap.size) cX10_setOldTerm 4 wsX10_setOldTerm RX10) (hr : meth.sig.returnType = (some .int)) (hlk : meth.locks = false) (all : Arr) (saved : Arr) (savedMany : Int) (errors : Arr) (text : Arr) (textLong : Int) (rdd : Arr) (readMany : Int) (waits : Arr) (opn : Int) (place : Int) (built : Arr) (builtMany : Int) (parts : Arr) (partMany : Int) (taken : Arr) (calls : Arr) (lacks : Arr) (callMany : Int) (total : Int) (values : Arr) (told : Arr) (toldLong : Int) (p1 : Int) (p2 : Int) (p3 : Int) (res : Int × Arr × Arr × Int × Arr) (hf : X10_setOldTerm all saved savedMany errors p1 p2 p3 = some res) : GO p l e rmX10_setOldTerm s m args below meth c K.1 vwCl (va_A WC s.heap.size) (MQ below (QC K.1 vwCl (some (ii res.1)) WC (c10 K a res.2.1 res.2.2.1 res.2.2.2.1 res.2.2.2.2 text textLong rdd readMany waits opn place built builtMany parts partMany taken calls lacks callMany total values told toldLong) s.heap.size) args s 0 0 (va_A WC s.heap.size)) 4 0 0 0 [(0, .ref (a 0)), (1, ii p1), (2, ii p2), (3, ii p3)] [] (c10 K a all saved savedMany errors text textLong rdd readMany waits opn place built builtMany parts partMany taken calls lacks callMany total values told toldLong) := by
  rw [X10_setOldTerm] at hf
  refine g_aload_n X dX10_setOldTerm_0 0 rfl rfl ?_
  refine g_iconst X dX10_setOldTerm_1 ?_
  refine g_iload_n X dX10_setOldTerm_2 1 rfl rfl ?_
  refine g_iload_n X dX10_setOldTerm_3 2 rfl rfl ?_
  refine g_iload_n X dX10_setOldTerm_4 3 rfl rfl ?_
  obtain ⟨w1, hc2, hf⟩ := Option.bind_eq_some_iff.mp hf
  refine g_callV X (As := [ii 0, ii p1, ii p2, ii p3]) (st := []) (st1 := [ii w1.1]) (ws' := c10 K a w1.2.1 w1.2.2.1 w1.2.2.2.1 w1.2.2.2.2 text textLong rdd readMany waits opn place built builtMany parts partMany taken calls lacks callMany total values told toldLong) (X10_setsTerm_ok K l a all saved savedMany errors text textLong rdd readMany waits opn place built builtMany parts partMany taken calls lacks callMany total values told toldLong 0 p1 p2 p3 w1 hc2) gX10_setOldTerm_X10_setsTerm rfl 4 (by decide +kernel) ⟨rfl, rfl⟩ ⟨Nat.le_of_ble_eq_true rfl, Nat.le_of_ble_eq_true rfl⟩ ⟨Nat.zero_le _, Nat.zero_le _⟩ 0 rfl rfl rfl rfl (Nat.le_of_ble_eq_true rfl) dX10_setOldTerm_5 (SG.all rfl) rfl ?_
  cases hf
  exact g_iret X hr hlk dX10_setOldTerm_8
set_option maxHeartbeats 4000000 in
set_option maxRecDepth 100000 in
theorem X10_setOldTerm_ok (K : KE) (l : Launch) (a : Nat → Nat) (all : Arr) (saved : Arr) (savedMany : Int) (errors : Arr) (text : Arr) (textLong : Int) (rdd : Arr) (readMany : Int) (waits : Arr) (opn : Int) (place : Int) (built : Arr) (builtMany : Int) (parts : Arr) (partMany : Int) (taken : Arr) (calls : Arr) (lacks : Arr) (callMany : Int) (total : Int) (values : Arr) (told : Arr) (toldLong : Int) (p1 : Int) (p2 : Int) (p3 : Int) (res : Int × Arr × Arr × Int × Arr) (hf : X10_setOldTerm all saved savedMany errors p1 p2 p3 = some res) : CT l K.1 vwCl (kT K) yX10_setOldTerm wsX10_setOldTerm rmX10_setOldTerm [.ref (a 0), ii p1, ii p2, ii p3] (some (ii res.1)) (c10 K a all saved savedMany errors text textLong rdd readMany waits opn place built builtMany parts partMany taken calls lacks callMany total values told toldLong) (c10 K a res.2.1 res.2.2.1 res.2.2.2.1 res.2.2.2.2 text textLong rdd readMany waits opn place built builtMany parts partMany taken calls lacks callMany total values told toldLong) :=
  CT.mk (cc := cX10_setOldTerm) (maxL := 4) (ret := (some .int)) (by decide) rfl (Nat.le_of_ble_eq_true rfl) (fun p e s m below meth c X hr hlk => X10_setOldTerm_go K l a _ X hr hlk all saved savedMany errors text textLong rdd readMany waits opn place built builtMany parts partMany taken calls lacks callMany total values told toldLong p1 p2 p3 res hf)
def rmX10_setNewTerm : Room := { frames := 3, cells := 0, slots := 0, locals := 71 }
def X10_setNewTerm (all : Arr) (saved : Arr) (savedMany : Int) (errors : Arr) (p1 : Int) (p2 : Int) (p3 : Int) : Option (Int × Arr × Arr × Int × Arr) := (X10_setsTerm all saved savedMany errors 42 p1 p2 p3).bind (fun w1 => some (w1.1, w1.2.1, w1.2.2.1, w1.2.2.2.1, w1.2.2.2.2))
set_option maxHeartbeats 4000000 in
set_option maxRecDepth 100000 in
theorem X10_setNewTerm_go (K : KE) (l : Launch) (a : Nat → Nat) (WC : va_W) {p : Program} {e : Env} {s : State} {m : MethodId} {args : Array Value} {below : List Frame} {meth : Method} {c : Code} (X : CX p s m args c K.1 vwCl (kT K) (va_A WC s.heap.size) cX10_setNewTerm 4 wsX10_setNewTerm RX10) (hr : meth.sig.returnType = (some .int)) (hlk : meth.locks = false) (all : Arr) (saved : Arr) (savedMany : Int) (errors : Arr) (text : Arr) (textLong : Int) (rdd : Arr) (readMany : Int) (waits : Arr) (opn : Int) (place : Int) (built : Arr) (builtMany : Int) (parts : Arr) (partMany : Int) (taken : Arr) (calls : Arr) (lacks : Arr) (callMany : Int) (total : Int) (values : Arr) (told : Arr) (toldLong : Int) (p1 : Int) (p2 : Int) (p3 : Int) (res : Int × Arr × Arr × Int × Arr) (hf : X10_setNewTerm all saved savedMany errors p1 p2 p3 = some res) : GO p l e rmX10_setNewTerm s m args below meth c K.1 vwCl (va_A WC s.heap.size) (MQ below (QC K.1 vwCl (some (ii res.1)) WC (c10 K a res.2.1 res.2.2.1 res.2.2.2.1 res.2.2.2.2 text textLong rdd readMany waits opn place built builtMany parts partMany taken calls lacks callMany total values told toldLong) s.heap.size) args s 0 0 (va_A WC s.heap.size)) 4 0 0 0 [(0, .ref (a 0)), (1, ii p1), (2, ii p2), (3, ii p3)] [] (c10 K a all saved savedMany errors text textLong rdd readMany waits opn place built builtMany parts partMany taken calls lacks callMany total values told toldLong) := by
  rw [X10_setNewTerm] at hf
  refine g_aload_n X dX10_setNewTerm_0 0 rfl rfl ?_
  refine g_bipush X dX10_setNewTerm_1 (by decide +kernel) ?_
  refine g_iload_n X dX10_setNewTerm_3 1 rfl rfl ?_
  refine g_iload_n X dX10_setNewTerm_4 2 rfl rfl ?_
  refine g_iload_n X dX10_setNewTerm_5 3 rfl rfl ?_
  obtain ⟨w1, hc2, hf⟩ := Option.bind_eq_some_iff.mp hf
  refine g_callV X (As := [ii 42, ii p1, ii p2, ii p3]) (st := []) (st1 := [ii w1.1]) (ws' := c10 K a w1.2.1 w1.2.2.1 w1.2.2.2.1 w1.2.2.2.2 text textLong rdd readMany waits opn place built builtMany parts partMany taken calls lacks callMany total values told toldLong) (X10_setsTerm_ok K l a all saved savedMany errors text textLong rdd readMany waits opn place built builtMany parts partMany taken calls lacks callMany total values told toldLong 42 p1 p2 p3 w1 hc2) gX10_setNewTerm_X10_setsTerm rfl 4 (by decide +kernel) ⟨rfl, rfl⟩ ⟨Nat.le_of_ble_eq_true rfl, Nat.le_of_ble_eq_true rfl⟩ ⟨Nat.zero_le _, Nat.zero_le _⟩ 0 rfl rfl rfl rfl (Nat.le_of_ble_eq_true rfl) dX10_setNewTerm_6 (SG.all rfl) rfl ?_
  cases hf
  exact g_iret X hr hlk dX10_setNewTerm_9
set_option maxHeartbeats 4000000 in
set_option maxRecDepth 100000 in
theorem X10_setNewTerm_ok (K : KE) (l : Launch) (a : Nat → Nat) (all : Arr) (saved : Arr) (savedMany : Int) (errors : Arr) (text : Arr) (textLong : Int) (rdd : Arr) (readMany : Int) (waits : Arr) (opn : Int) (place : Int) (built : Arr) (builtMany : Int) (parts : Arr) (partMany : Int) (taken : Arr) (calls : Arr) (lacks : Arr) (callMany : Int) (total : Int) (values : Arr) (told : Arr) (toldLong : Int) (p1 : Int) (p2 : Int) (p3 : Int) (res : Int × Arr × Arr × Int × Arr) (hf : X10_setNewTerm all saved savedMany errors p1 p2 p3 = some res) : CT l K.1 vwCl (kT K) yX10_setNewTerm wsX10_setNewTerm rmX10_setNewTerm [.ref (a 0), ii p1, ii p2, ii p3] (some (ii res.1)) (c10 K a all saved savedMany errors text textLong rdd readMany waits opn place built builtMany parts partMany taken calls lacks callMany total values told toldLong) (c10 K a res.2.1 res.2.2.1 res.2.2.2.1 res.2.2.2.2 text textLong rdd readMany waits opn place built builtMany parts partMany taken calls lacks callMany total values told toldLong) :=
  CT.mk (cc := cX10_setNewTerm) (maxL := 4) (ret := (some .int)) (by decide) rfl (Nat.le_of_ble_eq_true rfl) (fun p e s m below meth c X hr hlk => X10_setNewTerm_go K l a _ X hr hlk all saved savedMany errors text textLong rdd readMany waits opn place built builtMany parts partMany taken calls lacks callMany total values told toldLong p1 p2 p3 res hf)
theorem iw_X10_newOf_X10 : ∀ w ∈ u_ws RX10 TX10 23, w ∈ wsX10_newOf := by decide +kernel
theorem fl_X10_newOf_7 : Cond.fieldLink RX10 7 (TX10 0).1 (TX10 0).2.1 (TX10 0).2.2.1 ∈ wsX10_newOf := by decide +kernel
def rmX10_newOf : Room := { frames := 0, cells := 0, slots := 0, locals := 0 }
def X10_newOf (all : Arr) (p1 : Int) : Option (Int) := rdK 186 all (117 + (5 * p1)) (fun v1 => some v1)
set_option maxHeartbeats 4000000 in
set_option maxRecDepth 100000 in
theorem X10_newOf_go (K : KE) (l : Launch) (a : Nat → Nat) (WC : va_W) {p : Program} {e : Env} {s : State} {m : MethodId} {args : Array Value} {below : List Frame} {meth : Method} {c : Code} (X : CX p s m args c K.1 vwCl (kT K) (va_A WC s.heap.size) cX10_newOf 2 wsX10_newOf RX10) (hr : meth.sig.returnType = (some .int)) (hlk : meth.locks = false) (all : Arr) (saved : Arr) (savedMany : Int) (errors : Arr) (text : Arr) (textLong : Int) (rdd : Arr) (readMany : Int) (waits : Arr) (opn : Int) (place : Int) (built : Arr) (builtMany : Int) (parts : Arr) (partMany : Int) (taken : Arr) (calls : Arr) (lacks : Arr) (callMany : Int) (total : Int) (values : Arr) (told : Arr) (toldLong : Int) (p1 : Int) (res : Int) (hf : X10_newOf all p1 = some res) : GO p l e rmX10_newOf s m args below meth c K.1 vwCl (va_A WC s.heap.size) (MQ below (QC K.1 vwCl (some (ii res)) WC (c10 K a all saved savedMany errors text textLong rdd readMany waits opn place built builtMany parts partMany taken calls lacks callMany total values told toldLong) s.heap.size) args s 0 0 (va_A WC s.heap.size)) 2 0 0 0 [(0, .ref (a 0)), (1, ii p1)] [] (c10 K a all saved savedMany errors text textLong rdd readMany waits opn place built builtMany parts partMany taken calls lacks callMany total values told toldLong) := by
  rw [X10_newOf] at hf
  refine g_aload_n X dX10_newOf_0 0 rfl rfl ?_
  refine g_get X (v := .ref (a 1)) 0 0 dX10_newOf_1 rfl rfl iw_X10_newOf_X10 (by decide) fl_X10_newOf_7 rfl ?_
  refine g_bipush X dX10_newOf_4 (by decide +kernel) ?_
  refine g_iconst X dX10_newOf_6 ?_
  refine g_iload_n X dX10_newOf_7 1 rfl rfl ?_
  refine g_imul X dX10_newOf_8 ?_
  refine g_iadd X dX10_newOf_9 ?_
  refine g_iald X hf (by decide) 1 0 dX10_newOf_10 rfl rfl (fun v1 hf => ?_)
  cases hf
  exact g_iret X hr hlk dX10_newOf_11
set_option maxHeartbeats 4000000 in
set_option maxRecDepth 100000 in
theorem X10_newOf_ok (K : KE) (l : Launch) (a : Nat → Nat) (all : Arr) (saved : Arr) (savedMany : Int) (errors : Arr) (text : Arr) (textLong : Int) (rdd : Arr) (readMany : Int) (waits : Arr) (opn : Int) (place : Int) (built : Arr) (builtMany : Int) (parts : Arr) (partMany : Int) (taken : Arr) (calls : Arr) (lacks : Arr) (callMany : Int) (total : Int) (values : Arr) (told : Arr) (toldLong : Int) (p1 : Int) (res : Int) (hf : X10_newOf all p1 = some res) : CT l K.1 vwCl (kT K) yX10_newOf wsX10_newOf rmX10_newOf [.ref (a 0), ii p1] (some (ii res)) (c10 K a all saved savedMany errors text textLong rdd readMany waits opn place built builtMany parts partMany taken calls lacks callMany total values told toldLong) (c10 K a all saved savedMany errors text textLong rdd readMany waits opn place built builtMany parts partMany taken calls lacks callMany total values told toldLong) :=
  CT.mk (cc := cX10_newOf) (maxL := 2) (ret := (some .int)) (by decide) rfl (Nat.le_of_ble_eq_true rfl) (fun p e s m below meth c X hr hlk => X10_newOf_go K l a _ X hr hlk all saved savedMany errors text textLong rdd readMany waits opn place built builtMany parts partMany taken calls lacks callMany total values told toldLong p1 res hf)
theorem iw_X10_entry_X10 : ∀ w ∈ u_ws RX10 TX10 23, w ∈ wsX10_entry := by decide +kernel
theorem fl_X10_entry_7 : Cond.fieldLink RX10 7 (TX10 0).1 (TX10 0).2.1 (TX10 0).2.2.1 ∈ wsX10_entry := by decide +kernel
def rmX10_entry : Room := { frames := 0, cells := 0, slots := 0, locals := 0 }
def X10_entry (all : Arr) (p1 : Int) (p2 : Int) : Option (Int) := rdK 186 all (((117 + (5 * p1)) + 1) + p2) (fun v1 => some v1)
set_option maxHeartbeats 4000000 in
set_option maxRecDepth 100000 in
theorem X10_entry_go (K : KE) (l : Launch) (a : Nat → Nat) (WC : va_W) {p : Program} {e : Env} {s : State} {m : MethodId} {args : Array Value} {below : List Frame} {meth : Method} {c : Code} (X : CX p s m args c K.1 vwCl (kT K) (va_A WC s.heap.size) cX10_entry 3 wsX10_entry RX10) (hr : meth.sig.returnType = (some .int)) (hlk : meth.locks = false) (all : Arr) (saved : Arr) (savedMany : Int) (errors : Arr) (text : Arr) (textLong : Int) (rdd : Arr) (readMany : Int) (waits : Arr) (opn : Int) (place : Int) (built : Arr) (builtMany : Int) (parts : Arr) (partMany : Int) (taken : Arr) (calls : Arr) (lacks : Arr) (callMany : Int) (total : Int) (values : Arr) (told : Arr) (toldLong : Int) (p1 : Int) (p2 : Int) (res : Int) (hf : X10_entry all p1 p2 = some res) : GO p l e rmX10_entry s m args below meth c K.1 vwCl (va_A WC s.heap.size) (MQ below (QC K.1 vwCl (some (ii res)) WC (c10 K a all saved savedMany errors text textLong rdd readMany waits opn place built builtMany parts partMany taken calls lacks callMany total values told toldLong) s.heap.size) args s 0 0 (va_A WC s.heap.size)) 3 0 0 0 [(0, .ref (a 0)), (1, ii p1), (2, ii p2)] [] (c10 K a all saved savedMany errors text textLong rdd readMany waits opn place built builtMany parts partMany taken calls lacks callMany total values told toldLong) := by
  rw [X10_entry] at hf
  refine g_aload_n X dX10_entry_0 0 rfl rfl ?_
  refine g_get X (v := .ref (a 1)) 0 0 dX10_entry_1 rfl rfl iw_X10_entry_X10 (by decide) fl_X10_entry_7 rfl ?_
  refine g_bipush X dX10_entry_4 (by decide +kernel) ?_
  refine g_iconst X dX10_entry_6 ?_
  refine g_iload_n X dX10_entry_7 1 rfl rfl ?_
  refine g_imul X dX10_entry_8 ?_
  refine g_iadd X dX10_entry_9 ?_
  refine g_iconst X dX10_entry_10 ?_
  refine g_iadd X dX10_entry_11 ?_
  refine g_iload_n X dX10_entry_12 2 rfl rfl ?_
  refine g_iadd X dX10_entry_13 ?_
  refine g_iald X hf (by decide) 1 0 dX10_entry_14 rfl rfl (fun v1 hf => ?_)
  cases hf
  exact g_iret X hr hlk dX10_entry_15
set_option maxHeartbeats 4000000 in
set_option maxRecDepth 100000 in
theorem X10_entry_ok (K : KE) (l : Launch) (a : Nat → Nat) (all : Arr) (saved : Arr) (savedMany : Int) (errors : Arr) (text : Arr) (textLong : Int) (rdd : Arr) (readMany : Int) (waits : Arr) (opn : Int) (place : Int) (built : Arr) (builtMany : Int) (parts : Arr) (partMany : Int) (taken : Arr) (calls : Arr) (lacks : Arr) (callMany : Int) (total : Int) (values : Arr) (told : Arr) (toldLong : Int) (p1 : Int) (p2 : Int) (res : Int) (hf : X10_entry all p1 p2 = some res) : CT l K.1 vwCl (kT K) yX10_entry wsX10_entry rmX10_entry [.ref (a 0), ii p1, ii p2] (some (ii res)) (c10 K a all saved savedMany errors text textLong rdd readMany waits opn place built builtMany parts partMany taken calls lacks callMany total values told toldLong) (c10 K a all saved savedMany errors text textLong rdd readMany waits opn place built builtMany parts partMany taken calls lacks callMany total values told toldLong) :=
  CT.mk (cc := cX10_entry) (maxL := 3) (ret := (some .int)) (by decide) rfl (Nat.le_of_ble_eq_true rfl) (fun p e s m below meth c X hr hlk => X10_entry_go K l a _ X hr hlk all saved savedMany errors text textLong rdd readMany waits opn place built builtMany parts partMany taken calls lacks callMany total values told toldLong p1 p2 res hf)
theorem iw_X10_used_X10 : ∀ w ∈ u_ws RX10 TX10 23, w ∈ wsX10_used := by decide +kernel
theorem fl_X10_used_7 : Cond.fieldLink RX10 7 (TX10 0).1 (TX10 0).2.1 (TX10 0).2.2.1 ∈ wsX10_used := by decide +kernel
def rmX10_used : Room := { frames := 1, cells := 0, slots := 0, locals := 21 }
def X10_used (all : Arr) (p1 : Int) : Option (Int) := (X10_newOf all p1).bind (fun v1 => rdK 186 all ((42 + (7 * v1)) + 0) (fun v3 => some v3))
set_option maxHeartbeats 4000000 in
set_option maxRecDepth 100000 in
theorem X10_used_go (K : KE) (l : Launch) (a : Nat → Nat) (WC : va_W) {p : Program} {e : Env} {s : State} {m : MethodId} {args : Array Value} {below : List Frame} {meth : Method} {c : Code} (X : CX p s m args c K.1 vwCl (kT K) (va_A WC s.heap.size) cX10_used 2 wsX10_used RX10) (hr : meth.sig.returnType = (some .int)) (hlk : meth.locks = false) (all : Arr) (saved : Arr) (savedMany : Int) (errors : Arr) (text : Arr) (textLong : Int) (rdd : Arr) (readMany : Int) (waits : Arr) (opn : Int) (place : Int) (built : Arr) (builtMany : Int) (parts : Arr) (partMany : Int) (taken : Arr) (calls : Arr) (lacks : Arr) (callMany : Int) (total : Int) (values : Arr) (told : Arr) (toldLong : Int) (p1 : Int) (res : Int) (hf : X10_used all p1 = some res) : GO p l e rmX10_used s m args below meth c K.1 vwCl (va_A WC s.heap.size) (MQ below (QC K.1 vwCl (some (ii res)) WC (c10 K a all saved savedMany errors text textLong rdd readMany waits opn place built builtMany parts partMany taken calls lacks callMany total values told toldLong) s.heap.size) args s 0 0 (va_A WC s.heap.size)) 2 0 0 0 [(0, .ref (a 0)), (1, ii p1)] [] (c10 K a all saved savedMany errors text textLong rdd readMany waits opn place built builtMany parts partMany taken calls lacks callMany total values told toldLong) := by
  rw [X10_used] at hf
  refine g_aload_n X dX10_used_0 0 rfl rfl ?_
  refine g_get X (v := .ref (a 1)) 0 0 dX10_used_1 rfl rfl iw_X10_used_X10 (by decide) fl_X10_used_7 rfl ?_
  refine g_bipush X dX10_used_4 (by decide +kernel) ?_
  refine g_bipush X dX10_used_6 (by decide +kernel) ?_
  refine g_aload_n X dX10_used_8 0 rfl rfl ?_
  refine g_iload_n X dX10_used_9 1 rfl rfl ?_
  obtain ⟨v1, hc2, hf⟩ := Option.bind_eq_some_iff.mp hf
  refine g_callV X (As := [ii p1]) (st := [ii 7, ii 42, .ref (a 1)]) (st1 := [ii v1, ii 7, ii 42, .ref (a 1)]) (ws' := c10 K a all saved savedMany errors text textLong rdd readMany waits opn place built builtMany parts partMany taken calls lacks callMany total values told toldLong) (X10_newOf_ok K l a all saved savedMany errors text textLong rdd readMany waits opn place built builtMany parts partMany taken calls lacks callMany total values told toldLong p1 v1 hc2) gX10_used_X10_newOf rfl 1 (by decide +kernel) ⟨rfl, rfl⟩ ⟨Nat.le_of_ble_eq_true rfl, Nat.le_of_ble_eq_true rfl⟩ ⟨Nat.zero_le _, Nat.zero_le _⟩ 0 rfl rfl rfl rfl (Nat.le_of_ble_eq_true rfl) dX10_used_10 (SG.all rfl) rfl ?_
  refine g_imul X dX10_used_13 ?_
  refine g_iadd X dX10_used_14 ?_
  refine g_iconst X dX10_used_15 ?_
  refine g_iadd X dX10_used_16 ?_
  refine g_iald X hf (by decide) 1 0 dX10_used_17 rfl rfl (fun v3 hf => ?_)
  cases hf
  exact g_iret X hr hlk dX10_used_18
set_option maxHeartbeats 4000000 in
set_option maxRecDepth 100000 in
theorem X10_used_ok (K : KE) (l : Launch) (a : Nat → Nat) (all : Arr) (saved : Arr) (savedMany : Int) (errors : Arr) (text : Arr) (textLong : Int) (rdd : Arr) (readMany : Int) (waits : Arr) (opn : Int) (place : Int) (built : Arr) (builtMany : Int) (parts : Arr) (partMany : Int) (taken : Arr) (calls : Arr) (lacks : Arr) (callMany : Int) (total : Int) (values : Arr) (told : Arr) (toldLong : Int) (p1 : Int) (res : Int) (hf : X10_used all p1 = some res) : CT l K.1 vwCl (kT K) yX10_used wsX10_used rmX10_used [.ref (a 0), ii p1] (some (ii res)) (c10 K a all saved savedMany errors text textLong rdd readMany waits opn place built builtMany parts partMany taken calls lacks callMany total values told toldLong) (c10 K a all saved savedMany errors text textLong rdd readMany waits opn place built builtMany parts partMany taken calls lacks callMany total values told toldLong) :=
  CT.mk (cc := cX10_used) (maxL := 2) (ret := (some .int)) (by decide) rfl (Nat.le_of_ble_eq_true rfl) (fun p e s m below meth c X hr hlk => X10_used_go K l a _ X hr hlk all saved savedMany errors text textLong rdd readMany waits opn place built builtMany parts partMany taken calls lacks callMany total values told toldLong p1 res hf)
theorem iw_X10_isTrue_X10 : ∀ w ∈ u_ws RX10 TX10 23, w ∈ wsX10_isTrue := by decide +kernel
theorem fl_X10_isTrue_7 : Cond.fieldLink RX10 7 (TX10 0).1 (TX10 0).2.1 (TX10 0).2.2.1 ∈ wsX10_isTrue := by decide +kernel
def rmX10_isTrue : Room := { frames := 2, cells := 0, slots := 0, locals := 42 }
def X10_isTrue_L31 (kx : Int → Option (Int)) (all : Arr) (x1 : Int) (x2 : Int) (x4 : Int) : Nat → Int → Int → Option (Int)
  | 0, _, _ => none
  | n + 1, y3, y5 => brLT y5 x4 ((X10_entry all x1 y5).bind (fun v6 => ltK (fun q8 : Unit => ltK (fun q10 : Int => X10_isTrue_L31 kx all x1 x2 x4 n (y3 + q10) (y5 + 1)) (fun j11 => brLT v6 100 (j11 0) (rdK 186 all (((x2 + 2) + 1) + y5) (fun v12 => j11 (v12 * (v6 - 100)))))) (fun j9 => brLT v6 100 (rdK 186 all ((0 + (7 * x1)) + 0) (fun v13 => brLT v6 v13 (j9 ()) (some 0))) (j9 ())))) (kx y3)
def X10_isTrue_L168 (kx : Int → Option (Int)) (all : Arr) (x1 : Int) (x2 : Int) (x4 : Int) (x5 : Int) (x6 : Int) : Nat → Int → Int → Option (Int)
  | 0, _, _ => none
  | n + 1, y7, y8 => brLT y8 x4 ((X10_entry all x1 y8).bind (fun v20 => ltK (fun q22 : Int => X10_isTrue_L168 kx all x1 x2 x4 x5 x6 n (y7 + q22) (y8 + 1)) (fun j23 => brEQ v20 x6 (rdK 186 all (((x2 + 2) + 1) + y8) (fun v24 => j23 v24)) (j23 0)))) (kx y7)
def X10_isTrue_L144 (kx : Int → Option (Int)) (all : Arr) (x1 : Int) (x2 : Int) (x4 : Int) : Nat → Int → Int → Option (Int)
  | 0, _, _ => none
  | n + 1, y5, y6 => rdK 186 all ((0 + (7 * x1)) + 0) (fun v19 => brLT y6 v19 (X10_isTrue_L168 (fun w25 => ltK (fun q26 : Int => X10_isTrue_L144 kx all x1 x2 x4 n q26 (y6 + 1)) (fun j27 => ltK (fun q28 : Unit => j27 0) (fun j29 => brEQ y5 0 (j29 ()) (rdK 186 all ((((0 + (7 * x1)) + 2) + 1) + y6) (fun v30 => brEQ w25 v30 (j27 1) (j29 ())))))) all x1 x2 x4 y5 y6 FU 0 0) (kx y5))
def X10_isTrue (all : Arr) (p1 : Int) : Option (Int) := (X10_newOf all p1).bind (fun v1 => rdK 186 all ((42 + (7 * v1)) + 2) (fun v3 => (X10_used all p1).bind (fun v4 => X10_isTrue_L31 (fun w14 => rmK w14 1000 (fun v15 => rdK 186 all ((0 + (7 * p1)) + 2) (fun v16 => ltK (fun q17 : Int => X10_isTrue_L144 (fun w31 => boK w31 (some w31)) all p1 (42 + (7 * v1)) v4 FU q17 0) (fun j18 => brEQ v15 v16 (j18 1) (j18 0))))) all p1 (42 + (7 * v1)) v4 FU v3 0)))
set_option maxHeartbeats 4000000 in
set_option maxRecDepth 100000 in
theorem X10_isTrue_L31_ok (K : KE) (l : Launch) (a : Nat → Nat) (WC : va_W) {p : Program} {e : Env} {s : State} {m : MethodId} {args : Array Value} {below : List Frame} {meth : Method} {c : Code} (X : CX p s m args c K.1 vwCl (kT K) (va_A WC s.heap.size) cX10_isTrue 9 wsX10_isTrue RX10) (hr : meth.sig.returnType = (some .boolean)) (hlk : meth.locks = false) (all : Arr) (saved : Arr) (savedMany : Int) (errors : Arr) (text : Arr) (textLong : Int) (rdd : Arr) (readMany : Int) (waits : Arr) (opn : Int) (place : Int) (built : Arr) (builtMany : Int) (parts : Arr) (partMany : Int) (taken : Arr) (calls : Arr) (lacks : Arr) (callMany : Int) (total : Int) (values : Arr) (told : Arr) (toldLong : Int) (x1 : Int) (x2 : Int) (x4 : Int) (res : Int) {kx : Int → Option (Int)} : ∀ (n : Nat) (y3 : Int) (y5 : Int), X10_isTrue_L31 kx all x1 x2 x4 n y3 y5 = some res → (∀ (z3 : Int), kx z3 = some res → GO p l e rmX10_isTrue s m args below meth c K.1 vwCl (va_A WC s.heap.size) (MQ below (QC K.1 vwCl (some (ii res)) WC (c10 K a all saved savedMany errors text textLong rdd readMany waits opn place built builtMany parts partMany taken calls lacks callMany total values told toldLong) s.heap.size) args s 0 0 (va_A WC s.heap.size)) 9 0 0 113 [(0, .ref (a 0)), (1, ii x1), (2, ii x2), (3, ii z3), (4, ii x4)] [] (c10 K a all saved savedMany errors text textLong rdd readMany waits opn place built builtMany parts partMany taken calls lacks callMany total values told toldLong)) → GO p l e rmX10_isTrue s m args below meth c K.1 vwCl (va_A WC s.heap.size) (MQ below (QC K.1 vwCl (some (ii res)) WC (c10 K a all saved savedMany errors text textLong rdd readMany waits opn place built builtMany parts partMany taken calls lacks callMany total values told toldLong) s.heap.size) args s 0 0 (va_A WC s.heap.size)) 9 0 0 31 [(0, .ref (a 0)), (1, ii x1), (2, ii x2), (3, ii y3), (4, ii x4), (5, ii y5)] [] (c10 K a all saved savedMany errors text textLong rdd readMany waits opn place built builtMany parts partMany taken calls lacks callMany total values told toldLong) := by
  intro n
  induction n with
  | zero =>
    intro y3 y5 hf _
    rw [X10_isTrue_L31] at hf
    cases hf
  | succ n ih =>
    intro y3 y5 hf hk
    rw [X10_isTrue_L31] at hf
    refine g_iload X dX10_isTrue_31 5 rfl ?_
    refine g_iload X dX10_isTrue_33 4 rfl ?_
    refine g_icmp_ge X hf 113 dX10_isTrue_35 (by decide) (fun hf => ?_) (fun hf => ?_)
    · refine g_aload_n X dX10_isTrue_38 0 rfl rfl ?_
      refine g_iload_n X dX10_isTrue_39 1 rfl rfl ?_
      refine g_iload X dX10_isTrue_40 5 rfl ?_
      obtain ⟨v6, hc7, hf⟩ := Option.bind_eq_some_iff.mp hf
      refine g_callV X (As := [ii x1, ii y5]) (st := []) (st1 := [ii v6]) (ws' := c10 K a all saved savedMany errors text textLong rdd readMany waits opn place built builtMany parts partMany taken calls lacks callMany total values told toldLong) (X10_entry_ok K l a all saved savedMany errors text textLong rdd readMany waits opn place built builtMany parts partMany taken calls lacks callMany total values told toldLong x1 y5 v6 hc7) gX10_isTrue_X10_entry rfl 2 (by decide +kernel) ⟨rfl, rfl⟩ ⟨Nat.le_of_ble_eq_true rfl, Nat.le_of_ble_eq_true rfl⟩ ⟨Nat.zero_le _, Nat.zero_le _⟩ 0 rfl rfl rfl rfl (Nat.le_of_ble_eq_true rfl) dX10_isTrue_42 (SG.all rfl) rfl ?_
      refine g_istore X (lv' := [(6, ii v6), (0, .ref (a 0)), (1, ii x1), (2, ii x2), (3, ii y3), (4, ii x4), (5, ii y5)]) dX10_isTrue_45 (by decide) rfl ?_
      refine g_iload X dX10_isTrue_47 0 rfl ?_
      refine g_bipush X dX10_isTrue_49 (by decide +kernel) ?_
      refine g_let (G := fun q8 : Unit => GO p l e rmX10_isTrue s m args below meth c K.1 vwCl (va_A WC s.heap.size) (MQ below (QC K.1 vwCl (some (ii res)) WC (c10 K a all saved savedMany errors text textLong rdd readMany waits opn place built builtMany parts partMany taken calls lacks callMany total values told toldLong) s.heap.size) args s 0 0 (va_A WC s.heap.size)) 9 0 0 74 [(0, .ref (a 0)), (1, ii x1), (2, ii x2), (3, ii y3), (4, ii x4), (5, ii y5), (6, ii v6)] [] (c10 K a all saved savedMany errors text textLong rdd readMany waits opn place built builtMany parts partMany taken calls lacks callMany total values told toldLong)) hf (fun q8 hf => ?_) (fun j9 hj9 hf => ?_)
      · refine g_iload_n X dX10_isTrue_74 3 rfl rfl ?_
        refine g_iload X dX10_isTrue_75 6 rfl ?_
        refine g_bipush X dX10_isTrue_77 (by decide +kernel) ?_
        refine g_let (G := fun q10 : Int => GO p l e rmX10_isTrue s m args below meth c K.1 vwCl (va_A WC s.heap.size) (MQ below (QC K.1 vwCl (some (ii res)) WC (c10 K a all saved savedMany errors text textLong rdd readMany waits opn place built builtMany parts partMany taken calls lacks callMany total values told toldLong) s.heap.size) args s 0 0 (va_A WC s.heap.size)) 9 0 0 105 [(0, .ref (a 0)), (1, ii x1), (2, ii x2), (4, ii x4), (5, ii y5)] [ii q10, ii y3] (c10 K a all saved savedMany errors text textLong rdd readMany waits opn place built builtMany parts partMany taken calls lacks callMany total values told toldLong)) hf (fun q10 hf => ?_) (fun j11 hj11 hf => ?_)
        · refine g_iadd X dX10_isTrue_105 ?_
          refine g_istore_n X (lv' := [(3, ii (y3 + q10)), (0, .ref (a 0)), (1, ii x1), (2, ii x2), (4, ii x4), (5, ii y5)]) dX10_isTrue_106 rfl (by decide) rfl ?_
          refine g_iinc X (lv' := [(5, ii (y5 + 1)), (3, ii (y3 + q10)), (0, .ref (a 0)), (1, ii x1), (2, ii x2), (4, ii x4)]) dX10_isTrue_107 5 rfl (by decide) rfl ?_
          refine g_goto X 31 dX10_isTrue_110 (by decide) ?_
          refine g_sub (lv' := [(0, .ref (a 0)), (1, ii x1), (2, ii x2), (3, ii (y3 + q10)), (4, ii x4), (5, ii (y5 + 1))]) [2, 3, 4, 1, 5, 0] rfl ?_
          exact ih (y3 + q10) (y5 + 1) hf hk
        · refine g_icmp_ge X hf 86 dX10_isTrue_79 (by decide) (fun hf => ?_) (fun hf => ?_)
          · refine g_iconst X dX10_isTrue_82 ?_
            refine g_goto X 105 dX10_isTrue_83 (by decide) ?_
            refine g_sub (lv' := [(0, .ref (a 0)), (1, ii x1), (2, ii x2), (4, ii x4), (5, ii y5)]) [0, 1, 2, 4, 5] rfl ?_
            exact hj11 0 hf
          · refine g_aload_n X dX10_isTrue_86 0 rfl rfl ?_
            refine g_get X (v := .ref (a 1)) 0 0 dX10_isTrue_87 rfl rfl iw_X10_isTrue_X10 (by decide) fl_X10_isTrue_7 rfl ?_
            refine g_iload_n X dX10_isTrue_90 2 rfl rfl ?_
            refine g_iconst X dX10_isTrue_91 ?_
            refine g_iadd X dX10_isTrue_92 ?_
            refine g_iconst X dX10_isTrue_93 ?_
            refine g_iadd X dX10_isTrue_94 ?_
            refine g_iload X dX10_isTrue_95 5 rfl ?_
            refine g_iadd X dX10_isTrue_97 ?_
            refine g_iald X hf (by decide) 1 0 dX10_isTrue_98 rfl rfl (fun v12 hf => ?_)
            refine g_iload X dX10_isTrue_99 6 rfl ?_
            refine g_bipush X dX10_isTrue_101 (by decide +kernel) ?_
            refine g_isub X dX10_isTrue_103 ?_
            refine g_imul X dX10_isTrue_104 ?_
            refine g_sub (lv' := [(0, .ref (a 0)), (1, ii x1), (2, ii x2), (4, ii x4), (5, ii y5)]) [0, 1, 2, 4, 5] rfl ?_
            exact hj11 (v12 * (v6 - 100)) hf
      · refine g_icmp_ge X hf 74 dX10_isTrue_51 (by decide) (fun hf => ?_) (fun hf => ?_)
        · refine g_iload X dX10_isTrue_54 0 rfl ?_
          refine g_aload_n X dX10_isTrue_56 1 rfl rfl ?_
          refine g_get X (v := .ref (a 1)) 0 0 dX10_isTrue_57 rfl rfl iw_X10_isTrue_X10 (by decide) fl_X10_isTrue_7 rfl ?_
          refine g_iconst X dX10_isTrue_60 ?_
          refine g_bipush X dX10_isTrue_61 (by decide +kernel) ?_
          refine g_iload_n X dX10_isTrue_63 2 rfl rfl ?_
          refine g_imul X dX10_isTrue_64 ?_
          refine g_iadd X dX10_isTrue_65 ?_
          refine g_iconst X dX10_isTrue_66 ?_
          refine g_iadd X dX10_isTrue_67 ?_
          refine g_iald X hf (by decide) 1 0 dX10_isTrue_68 rfl rfl (fun v13 hf => ?_)
          refine g_icmp_lt X hf 74 dX10_isTrue_69 (by decide) (fun hf => ?_) (fun hf => ?_)
          · refine g_sub (lv' := [(0, .ref (a 0)), (1, ii x1), (2, ii x2), (3, ii y3), (4, ii x4), (5, ii y5), (6, ii v6)]) [1, 2, 3, 4, 5, 6, 0] rfl ?_
            exact hj9 () hf
          · refine g_iconst X dX10_isTrue_72 ?_
            cases hf
            exact g_zret X (Or.inl rfl) hr hlk dX10_isTrue_73
        · refine g_sub (lv' := [(0, .ref (a 0)), (1, ii x1), (2, ii x2), (3, ii y3), (4, ii x4), (5, ii y5), (6, ii v6)]) [1, 2, 3, 4, 5, 6, 0] rfl ?_
          exact hj9 () hf
    · refine g_sub (lv' := [(0, .ref (a 0)), (1, ii x1), (2, ii x2), (3, ii y3), (4, ii x4)]) [0, 1, 2, 3, 4] rfl ?_
      exact hk y3 hf
set_option maxHeartbeats 4000000 in
set_option maxRecDepth 100000 in
theorem X10_isTrue_L168_ok (K : KE) (l : Launch) (a : Nat → Nat) (WC : va_W) {p : Program} {e : Env} {s : State} {m : MethodId} {args : Array Value} {below : List Frame} {meth : Method} {c : Code} (X : CX p s m args c K.1 vwCl (kT K) (va_A WC s.heap.size) cX10_isTrue 9 wsX10_isTrue RX10) (hr : meth.sig.returnType = (some .boolean)) (hlk : meth.locks = false) (all : Arr) (saved : Arr) (savedMany : Int) (errors : Arr) (text : Arr) (textLong : Int) (rdd : Arr) (readMany : Int) (waits : Arr) (opn : Int) (place : Int) (built : Arr) (builtMany : Int) (parts : Arr) (partMany : Int) (taken : Arr) (calls : Arr) (lacks : Arr) (callMany : Int) (total : Int) (values : Arr) (told : Arr) (toldLong : Int) (x1 : Int) (x2 : Int) (x4 : Int) (x5 : Int) (x6 : Int) (res : Int) {kx : Int → Option (Int)} : ∀ (n : Nat) (y7 : Int) (y8 : Int), X10_isTrue_L168 kx all x1 x2 x4 x5 x6 n y7 y8 = some res → (∀ (z7 : Int), kx z7 = some res → GO p l e rmX10_isTrue s m args below meth c K.1 vwCl (va_A WC s.heap.size) (MQ below (QC K.1 vwCl (some (ii res)) WC (c10 K a all saved savedMany errors text textLong rdd readMany waits opn place built builtMany parts partMany taken calls lacks callMany total values told toldLong) s.heap.size) args s 0 0 (va_A WC s.heap.size)) 9 0 0 215 [(0, .ref (a 0)), (1, ii x1), (2, ii x2), (4, ii x4), (5, ii x5), (6, ii x6), (7, ii z7)] [] (c10 K a all saved savedMany errors text textLong rdd readMany waits opn place built builtMany parts partMany taken calls lacks callMany total values told toldLong)) → GO p l e rmX10_isTrue s m args below meth c K.1 vwCl (va_A WC s.heap.size) (MQ below (QC K.1 vwCl (some (ii res)) WC (c10 K a all saved savedMany errors text textLong rdd readMany waits opn place built builtMany parts partMany taken calls lacks callMany total values told toldLong) s.heap.size) args s 0 0 (va_A WC s.heap.size)) 9 0 0 168 [(0, .ref (a 0)), (1, ii x1), (2, ii x2), (4, ii x4), (5, ii x5), (6, ii x6), (7, ii y7), (8, ii y8)] [] (c10 K a all saved savedMany errors text textLong rdd readMany waits opn place built builtMany parts partMany taken calls lacks callMany total values told toldLong) := by
  intro n
  induction n with
  | zero =>
    intro y7 y8 hf _
    rw [X10_isTrue_L168] at hf
    cases hf
  | succ n ih =>
    intro y7 y8 hf hk
    rw [X10_isTrue_L168] at hf
    refine g_iload X dX10_isTrue_168 7 rfl ?_
    refine g_iload X dX10_isTrue_170 3 rfl ?_
    refine g_icmp_ge X hf 215 dX10_isTrue_172 (by decide) (fun hf => ?_) (fun hf => ?_)
    · refine g_iload X dX10_isTrue_175 6 rfl ?_
      refine g_aload_n X dX10_isTrue_177 0 rfl rfl ?_
      refine g_iload_n X dX10_isTrue_178 1 rfl rfl ?_
      refine g_iload X dX10_isTrue_179 7 rfl ?_
      obtain ⟨v20, hc21, hf⟩ := Option.bind_eq_some_iff.mp hf
      refine g_callV X (As := [ii x1, ii y8]) (st := [ii y7]) (st1 := [ii v20, ii y7]) (ws' := c10 K a all saved savedMany errors text textLong rdd readMany waits opn place built builtMany parts partMany taken calls lacks callMany total values told toldLong) (X10_entry_ok K l a all saved savedMany errors text textLong rdd readMany waits opn place built builtMany parts partMany taken calls lacks callMany total values told toldLong x1 y8 v20 hc21) gX10_isTrue_X10_entry rfl 2 (by decide +kernel) ⟨rfl, rfl⟩ ⟨Nat.le_of_ble_eq_true rfl, Nat.le_of_ble_eq_true rfl⟩ ⟨Nat.zero_le _, Nat.zero_le _⟩ 0 rfl rfl rfl rfl (Nat.le_of_ble_eq_true rfl) dX10_isTrue_181 (SG.all rfl) rfl ?_
      refine g_iload X dX10_isTrue_184 5 rfl ?_
      refine g_let (G := fun q22 : Int => GO p l e rmX10_isTrue s m args below meth c K.1 vwCl (va_A WC s.heap.size) (MQ below (QC K.1 vwCl (some (ii res)) WC (c10 K a all saved savedMany errors text textLong rdd readMany waits opn place built builtMany parts partMany taken calls lacks callMany total values told toldLong) s.heap.size) args s 0 0 (va_A WC s.heap.size)) 9 0 0 206 [(0, .ref (a 0)), (1, ii x1), (2, ii x2), (4, ii x4), (5, ii x5), (6, ii x6), (8, ii y8)] [ii q22, ii y7] (c10 K a all saved savedMany errors text textLong rdd readMany waits opn place built builtMany parts partMany taken calls lacks callMany total values told toldLong)) hf (fun q22 hf => ?_) (fun j23 hj23 hf => ?_)
      · refine g_iadd X dX10_isTrue_206 ?_
        refine g_istore X (lv' := [(7, ii (y7 + q22)), (0, .ref (a 0)), (1, ii x1), (2, ii x2), (4, ii x4), (5, ii x5), (6, ii x6), (8, ii y8)]) dX10_isTrue_207 (by decide) rfl ?_
        refine g_iinc X (lv' := [(8, ii (y8 + 1)), (7, ii (y7 + q22)), (0, .ref (a 0)), (1, ii x1), (2, ii x2), (4, ii x4), (5, ii x5), (6, ii x6)]) dX10_isTrue_209 7 rfl (by decide) rfl ?_
        refine g_goto X 168 dX10_isTrue_212 (by decide) ?_
        refine g_sub (lv' := [(0, .ref (a 0)), (1, ii x1), (2, ii x2), (4, ii x4), (5, ii x5), (6, ii x6), (7, ii (y7 + q22)), (8, ii (y8 + 1))]) [2, 3, 4, 5, 6, 7, 1, 0] rfl ?_
        exact ih (y7 + q22) (y8 + 1) hf hk
      · refine g_icmp_ne X hf 205 dX10_isTrue_186 (by decide) (fun hf => ?_) (fun hf => ?_)
        · refine g_aload_n X dX10_isTrue_189 0 rfl rfl ?_
          refine g_get X (v := .ref (a 1)) 0 0 dX10_isTrue_190 rfl rfl iw_X10_isTrue_X10 (by decide) fl_X10_isTrue_7 rfl ?_
          refine g_iload_n X dX10_isTrue_193 2 rfl rfl ?_
          refine g_iconst X dX10_isTrue_194 ?_
          refine g_iadd X dX10_isTrue_195 ?_
          refine g_iconst X dX10_isTrue_196 ?_
          refine g_iadd X dX10_isTrue_197 ?_
          refine g_iload X dX10_isTrue_198 7 rfl ?_
          refine g_iadd X dX10_isTrue_200 ?_
          refine g_iald X hf (by decide) 1 0 dX10_isTrue_201 rfl rfl (fun v24 hf => ?_)
          refine g_goto X 206 dX10_isTrue_202 (by decide) ?_
          refine g_sub (lv' := [(0, .ref (a 0)), (1, ii x1), (2, ii x2), (4, ii x4), (5, ii x5), (6, ii x6), (8, ii y8)]) [0, 1, 2, 3, 4, 5, 7] rfl ?_
          exact hj23 v24 hf
        · refine g_iconst X dX10_isTrue_205 ?_
          refine g_sub (lv' := [(0, .ref (a 0)), (1, ii x1), (2, ii x2), (4, ii x4), (5, ii x5), (6, ii x6), (8, ii y8)]) [0, 1, 2, 3, 4, 5, 7] rfl ?_
          exact hj23 0 hf
    · refine g_sub (lv' := [(0, .ref (a 0)), (1, ii x1), (2, ii x2), (4, ii x4), (5, ii x5), (6, ii x6), (7, ii y7)]) [0, 1, 2, 3, 4, 5, 6] rfl ?_
      exact hk y7 hf
set_option maxHeartbeats 4000000 in
set_option maxRecDepth 100000 in
theorem X10_isTrue_L144_ok (K : KE) (l : Launch) (a : Nat → Nat) (WC : va_W) {p : Program} {e : Env} {s : State} {m : MethodId} {args : Array Value} {below : List Frame} {meth : Method} {c : Code} (X : CX p s m args c K.1 vwCl (kT K) (va_A WC s.heap.size) cX10_isTrue 9 wsX10_isTrue RX10) (hr : meth.sig.returnType = (some .boolean)) (hlk : meth.locks = false) (all : Arr) (saved : Arr) (savedMany : Int) (errors : Arr) (text : Arr) (textLong : Int) (rdd : Arr) (readMany : Int) (waits : Arr) (opn : Int) (place : Int) (built : Arr) (builtMany : Int) (parts : Arr) (partMany : Int) (taken : Arr) (calls : Arr) (lacks : Arr) (callMany : Int) (total : Int) (values : Arr) (told : Arr) (toldLong : Int) (x1 : Int) (x2 : Int) (x4 : Int) (res : Int) {kx : Int → Option (Int)} : ∀ (n : Nat) (y5 : Int) (y6 : Int), X10_isTrue_L144 kx all x1 x2 x4 n y5 y6 = some res → (∀ (z5 : Int), kx z5 = some res → GO p l e rmX10_isTrue s m args below meth c K.1 vwCl (va_A WC s.heap.size) (MQ below (QC K.1 vwCl (some (ii res)) WC (c10 K a all saved savedMany errors text textLong rdd readMany waits opn place built builtMany parts partMany taken calls lacks callMany total values told toldLong) s.heap.size) args s 0 0 (va_A WC s.heap.size)) 9 0 0 256 [(5, ii z5)] [] (c10 K a all saved savedMany errors text textLong rdd readMany waits opn place built builtMany parts partMany taken calls lacks callMany total values told toldLong)) → GO p l e rmX10_isTrue s m args below meth c K.1 vwCl (va_A WC s.heap.size) (MQ below (QC K.1 vwCl (some (ii res)) WC (c10 K a all saved savedMany errors text textLong rdd readMany waits opn place built builtMany parts partMany taken calls lacks callMany total values told toldLong) s.heap.size) args s 0 0 (va_A WC s.heap.size)) 9 0 0 144 [(0, .ref (a 0)), (1, ii x1), (2, ii x2), (4, ii x4), (5, ii y5), (6, ii y6)] [] (c10 K a all saved savedMany errors text textLong rdd readMany waits opn place built builtMany parts partMany taken calls lacks callMany total values told toldLong) := by
  intro n
  induction n with
  | zero =>
    intro y5 y6 hf _
    rw [X10_isTrue_L144] at hf
    cases hf
  | succ n ih =>
    intro y5 y6 hf hk
    rw [X10_isTrue_L144] at hf
    refine g_iload X dX10_isTrue_144 5 rfl ?_
    refine g_aload_n X dX10_isTrue_146 0 rfl rfl ?_
    refine g_get X (v := .ref (a 1)) 0 0 dX10_isTrue_147 rfl rfl iw_X10_isTrue_X10 (by decide) fl_X10_isTrue_7 rfl ?_
    refine g_iconst X dX10_isTrue_150 ?_
    refine g_bipush X dX10_isTrue_151 (by decide +kernel) ?_
    refine g_iload_n X dX10_isTrue_153 1 rfl rfl ?_
    refine g_imul X dX10_isTrue_154 ?_
    refine g_iadd X dX10_isTrue_155 ?_
    refine g_iconst X dX10_isTrue_156 ?_
    refine g_iadd X dX10_isTrue_157 ?_
    refine g_iald X hf (by decide) 1 0 dX10_isTrue_158 rfl rfl (fun v19 hf => ?_)
    refine g_icmp_ge X hf 256 dX10_isTrue_159 (by decide) (fun hf => ?_) (fun hf => ?_)
    · refine g_iconst X dX10_isTrue_162 ?_
      refine g_istore X (lv' := [(7, ii 0), (0, .ref (a 0)), (1, ii x1), (2, ii x2), (4, ii x4), (5, ii y5), (6, ii y6)]) dX10_isTrue_163 (by decide) rfl ?_
      refine g_iconst X dX10_isTrue_165 ?_
      refine g_istore X (lv' := [(8, ii 0), (7, ii 0), (0, .ref (a 0)), (1, ii x1), (2, ii x2), (4, ii x4), (5, ii y5), (6, ii y6)]) dX10_isTrue_166 (by decide) rfl ?_
      refine g_sub (lv' := [(0, .ref (a 0)), (1, ii x1), (2, ii x2), (4, ii x4), (5, ii y5), (6, ii y6), (7, ii 0), (8, ii 0)]) [2, 3, 4, 5, 6, 7, 1, 0] rfl ?_
      refine X10_isTrue_L168_ok K l a WC X hr hlk all saved savedMany errors text textLong rdd readMany waits opn place built builtMany parts partMany taken calls lacks callMany total values told toldLong x1 x2 x4 y5 y6 res FU 0 0 hf (fun w25 hf => ?_)
      refine g_iload X dX10_isTrue_215 4 rfl ?_
      refine g_let (G := fun q26 : Int => GO p l e rmX10_isTrue s m args below meth c K.1 vwCl (va_A WC s.heap.size) (MQ below (QC K.1 vwCl (some (ii res)) WC (c10 K a all saved savedMany errors text textLong rdd readMany waits opn place built builtMany parts partMany taken calls lacks callMany total values told toldLong) s.heap.size) args s 0 0 (va_A WC s.heap.size)) 9 0 0 248 [(0, .ref (a 0)), (1, ii x1), (2, ii x2), (4, ii x4), (6, ii y6)] [ii q26] (c10 K a all saved savedMany errors text textLong rdd readMany waits opn place built builtMany parts partMany taken calls lacks callMany total values told toldLong)) hf (fun q26 hf => ?_) (fun j27 hj27 hf => ?_)
      · refine g_istore X (lv' := [(5, ii q26), (0, .ref (a 0)), (1, ii x1), (2, ii x2), (4, ii x4), (6, ii y6)]) dX10_isTrue_248 (by decide) rfl ?_
        refine g_iinc X (lv' := [(6, ii (y6 + 1)), (5, ii q26), (0, .ref (a 0)), (1, ii x1), (2, ii x2), (4, ii x4)]) dX10_isTrue_250 5 rfl (by decide) rfl ?_
        refine g_goto X 144 dX10_isTrue_253 (by decide) ?_
        refine g_sub (lv' := [(0, .ref (a 0)), (1, ii x1), (2, ii x2), (4, ii x4), (5, ii q26), (6, ii (y6 + 1))]) [2, 3, 4, 5, 1, 0] rfl ?_
        exact ih q26 (y6 + 1) hf hk
      · refine g_let (G := fun q28 : Unit => GO p l e rmX10_isTrue s m args below meth c K.1 vwCl (va_A WC s.heap.size) (MQ below (QC K.1 vwCl (some (ii res)) WC (c10 K a all saved savedMany errors text textLong rdd readMany waits opn place built builtMany parts partMany taken calls lacks callMany total values told toldLong) s.heap.size) args s 0 0 (va_A WC s.heap.size)) 9 0 0 247 [(0, .ref (a 0)), (1, ii x1), (2, ii x2), (4, ii x4), (6, ii y6)] [] (c10 K a all saved savedMany errors text textLong rdd readMany waits opn place built builtMany parts partMany taken calls lacks callMany total values told toldLong)) hf (fun q28 hf => ?_) (fun j29 hj29 hf => ?_)
        · refine g_iconst X dX10_isTrue_247 ?_
          exact hj27 0 hf
        · refine g_if_eq X hf 247 dX10_isTrue_217 (by decide) (fun hf => ?_) (fun hf => ?_)
          · refine g_sub (lv' := [(0, .ref (a 0)), (1, ii x1), (2, ii x2), (4, ii x4), (6, ii y6)]) [0, 1, 2, 3, 5] rfl ?_
            exact hj29 () hf
          · refine g_iload X dX10_isTrue_220 6 rfl ?_
            refine g_aload_n X dX10_isTrue_222 0 rfl rfl ?_
            refine g_get X (v := .ref (a 1)) 0 0 dX10_isTrue_223 rfl rfl iw_X10_isTrue_X10 (by decide) fl_X10_isTrue_7 rfl ?_
            refine g_iconst X dX10_isTrue_226 ?_
            refine g_bipush X dX10_isTrue_227 (by decide +kernel) ?_
            refine g_iload_n X dX10_isTrue_229 1 rfl rfl ?_
            refine g_imul X dX10_isTrue_230 ?_
            refine g_iadd X dX10_isTrue_231 ?_
            refine g_iconst X dX10_isTrue_232 ?_
            refine g_iadd X dX10_isTrue_233 ?_
            refine g_iconst X dX10_isTrue_234 ?_
            refine g_iadd X dX10_isTrue_235 ?_
            refine g_iload X dX10_isTrue_236 5 rfl ?_
            refine g_iadd X dX10_isTrue_238 ?_
            refine g_iald X hf (by decide) 1 0 dX10_isTrue_239 rfl rfl (fun v30 hf => ?_)
            refine g_icmp_ne X hf 247 dX10_isTrue_240 (by decide) (fun hf => ?_) (fun hf => ?_)
            · refine g_iconst X dX10_isTrue_243 ?_
              refine g_goto X 248 dX10_isTrue_244 (by decide) ?_
              refine g_sub (lv' := [(0, .ref (a 0)), (1, ii x1), (2, ii x2), (4, ii x4), (6, ii y6)]) [0, 1, 2, 3, 5] rfl ?_
              exact hj27 1 hf
            · refine g_sub (lv' := [(0, .ref (a 0)), (1, ii x1), (2, ii x2), (4, ii x4), (6, ii y6)]) [0, 1, 2, 3, 5] rfl ?_
              exact hj29 () hf
    · refine g_sub (lv' := [(5, ii y5)]) [4] rfl ?_
      exact hk y5 hf
set_option maxHeartbeats 4000000 in
set_option maxRecDepth 100000 in
theorem X10_isTrue_go (K : KE) (l : Launch) (a : Nat → Nat) (WC : va_W) {p : Program} {e : Env} {s : State} {m : MethodId} {args : Array Value} {below : List Frame} {meth : Method} {c : Code} (X : CX p s m args c K.1 vwCl (kT K) (va_A WC s.heap.size) cX10_isTrue 9 wsX10_isTrue RX10) (hr : meth.sig.returnType = (some .boolean)) (hlk : meth.locks = false) (all : Arr) (saved : Arr) (savedMany : Int) (errors : Arr) (text : Arr) (textLong : Int) (rdd : Arr) (readMany : Int) (waits : Arr) (opn : Int) (place : Int) (built : Arr) (builtMany : Int) (parts : Arr) (partMany : Int) (taken : Arr) (calls : Arr) (lacks : Arr) (callMany : Int) (total : Int) (values : Arr) (told : Arr) (toldLong : Int) (p1 : Int) (res : Int) (hf : X10_isTrue all p1 = some res) : GO p l e rmX10_isTrue s m args below meth c K.1 vwCl (va_A WC s.heap.size) (MQ below (QC K.1 vwCl (some (ii res)) WC (c10 K a all saved savedMany errors text textLong rdd readMany waits opn place built builtMany parts partMany taken calls lacks callMany total values told toldLong) s.heap.size) args s 0 0 (va_A WC s.heap.size)) 9 0 0 0 [(0, .ref (a 0)), (1, ii p1)] [] (c10 K a all saved savedMany errors text textLong rdd readMany waits opn place built builtMany parts partMany taken calls lacks callMany total values told toldLong) := by
  rw [X10_isTrue] at hf
  refine g_bipush X dX10_isTrue_0 (by decide +kernel) ?_
  refine g_bipush X dX10_isTrue_2 (by decide +kernel) ?_
  refine g_aload_n X dX10_isTrue_4 0 rfl rfl ?_
  refine g_iload_n X dX10_isTrue_5 1 rfl rfl ?_
  obtain ⟨v1, hc2, hf⟩ := Option.bind_eq_some_iff.mp hf
  refine g_callV X (As := [ii p1]) (st := [ii 7, ii 42]) (st1 := [ii v1, ii 7, ii 42]) (ws' := c10 K a all saved savedMany errors text textLong rdd readMany waits opn place built builtMany parts partMany taken calls lacks callMany total values told toldLong) (X10_newOf_ok K l a all saved savedMany errors text textLong rdd readMany waits opn place built builtMany parts partMany taken calls lacks callMany total values told toldLong p1 v1 hc2) gX10_isTrue_X10_newOf rfl 1 (by decide +kernel) ⟨rfl, rfl⟩ ⟨Nat.le_of_ble_eq_true rfl, Nat.le_of_ble_eq_true rfl⟩ ⟨Nat.zero_le _, Nat.zero_le _⟩ 0 rfl rfl rfl rfl (Nat.le_of_ble_eq_true rfl) dX10_isTrue_6 (SG.all rfl) rfl ?_
  refine g_imul X dX10_isTrue_9 ?_
  refine g_iadd X dX10_isTrue_10 ?_
  refine g_istore_n X (lv' := [(2, ii (42 + (7 * v1))), (0, .ref (a 0)), (1, ii p1)]) dX10_isTrue_11 rfl (by decide) rfl ?_
  refine g_aload_n X dX10_isTrue_12 1 rfl rfl ?_
  refine g_get X (v := .ref (a 1)) 0 0 dX10_isTrue_13 rfl rfl iw_X10_isTrue_X10 (by decide) fl_X10_isTrue_7 rfl ?_
  refine g_iload_n X dX10_isTrue_16 0 rfl rfl ?_
  refine g_iconst X dX10_isTrue_17 ?_
  refine g_iadd X dX10_isTrue_18 ?_
  refine g_iald X hf (by decide) 1 0 dX10_isTrue_19 rfl rfl (fun v3 hf => ?_)
  refine g_istore_n X (lv' := [(3, ii v3), (2, ii (42 + (7 * v1))), (0, .ref (a 0)), (1, ii p1)]) dX10_isTrue_20 rfl (by decide) rfl ?_
  refine g_aload_n X dX10_isTrue_21 2 rfl rfl ?_
  refine g_iload_n X dX10_isTrue_22 3 rfl rfl ?_
  obtain ⟨v4, hc5, hf⟩ := Option.bind_eq_some_iff.mp hf
  refine g_callV X (As := [ii p1]) (st := []) (st1 := [ii v4]) (ws' := c10 K a all saved savedMany errors text textLong rdd readMany waits opn place built builtMany parts partMany taken calls lacks callMany total values told toldLong) (X10_used_ok K l a all saved savedMany errors text textLong rdd readMany waits opn place built builtMany parts partMany taken calls lacks callMany total values told toldLong p1 v4 hc5) gX10_isTrue_X10_used rfl 1 (by decide +kernel) ⟨rfl, rfl⟩ ⟨Nat.le_of_ble_eq_true rfl, Nat.le_of_ble_eq_true rfl⟩ ⟨Nat.zero_le _, Nat.zero_le _⟩ 0 rfl rfl rfl rfl (Nat.le_of_ble_eq_true rfl) dX10_isTrue_23 (SG.all rfl) rfl ?_
  refine g_istore X (lv' := [(4, ii v4), (3, ii v3), (2, ii (42 + (7 * v1))), (0, .ref (a 0)), (1, ii p1)]) dX10_isTrue_26 (by decide) rfl ?_
  refine g_iconst X dX10_isTrue_28 ?_
  refine g_istore X (lv' := [(5, ii 0), (4, ii v4), (3, ii v3), (2, ii (42 + (7 * v1))), (0, .ref (a 0)), (1, ii p1)]) dX10_isTrue_29 (by decide) rfl ?_
  refine g_sub (lv' := [(0, .ref (a 0)), (1, ii p1), (2, ii (42 + (7 * v1))), (3, ii v3), (4, ii v4), (5, ii 0)]) [4, 5, 3, 2, 1, 0] rfl ?_
  refine X10_isTrue_L31_ok K l a WC X hr hlk all saved savedMany errors text textLong rdd readMany waits opn place built builtMany parts partMany taken calls lacks callMany total values told toldLong p1 (42 + (7 * v1)) v4 res FU v3 0 hf (fun w14 hf => ?_)
  refine g_iload_n X dX10_isTrue_113 3 rfl rfl ?_
  refine g_sipush X dX10_isTrue_114 (by decide +kernel) ?_
  refine g_irem X hf (by decide) dX10_isTrue_117 (fun v15 hf => ?_)
  refine g_aload_n X dX10_isTrue_118 0 rfl rfl ?_
  refine g_get X (v := .ref (a 1)) 0 0 dX10_isTrue_119 rfl rfl iw_X10_isTrue_X10 (by decide) fl_X10_isTrue_7 rfl ?_
  refine g_iconst X dX10_isTrue_122 ?_
  refine g_bipush X dX10_isTrue_123 (by decide +kernel) ?_
  refine g_iload_n X dX10_isTrue_125 1 rfl rfl ?_
  refine g_imul X dX10_isTrue_126 ?_
  refine g_iadd X dX10_isTrue_127 ?_
  refine g_iconst X dX10_isTrue_128 ?_
  refine g_iadd X dX10_isTrue_129 ?_
  refine g_iald X hf (by decide) 1 0 dX10_isTrue_130 rfl rfl (fun v16 hf => ?_)
  refine g_let (G := fun q17 : Int => GO p l e rmX10_isTrue s m args below meth c K.1 vwCl (va_A WC s.heap.size) (MQ below (QC K.1 vwCl (some (ii res)) WC (c10 K a all saved savedMany errors text textLong rdd readMany waits opn place built builtMany parts partMany taken calls lacks callMany total values told toldLong) s.heap.size) args s 0 0 (va_A WC s.heap.size)) 9 0 0 139 [(0, .ref (a 0)), (1, ii p1), (2, ii (42 + (7 * v1))), (4, ii v4)] [ii q17] (c10 K a all saved savedMany errors text textLong rdd readMany waits opn place built builtMany parts partMany taken calls lacks callMany total values told toldLong)) hf (fun q17 hf => ?_) (fun j18 hj18 hf => ?_)
  · refine g_istore X (lv' := [(5, ii q17), (0, .ref (a 0)), (1, ii p1), (2, ii (42 + (7 * v1))), (4, ii v4)]) dX10_isTrue_139 (by decide) rfl ?_
    refine g_iconst X dX10_isTrue_141 ?_
    refine g_istore X (lv' := [(6, ii 0), (5, ii q17), (0, .ref (a 0)), (1, ii p1), (2, ii (42 + (7 * v1))), (4, ii v4)]) dX10_isTrue_142 (by decide) rfl ?_
    refine g_sub (lv' := [(0, .ref (a 0)), (1, ii p1), (2, ii (42 + (7 * v1))), (4, ii v4), (5, ii q17), (6, ii 0)]) [2, 3, 4, 5, 1, 0] rfl ?_
    refine X10_isTrue_L144_ok K l a WC X hr hlk all saved savedMany errors text textLong rdd readMany waits opn place built builtMany parts partMany taken calls lacks callMany total values told toldLong p1 (42 + (7 * v1)) v4 res FU q17 0 hf (fun w31 hf => ?_)
    refine g_iload X dX10_isTrue_256 0 rfl ?_
    obtain ⟨hb32, hf⟩ := boK_some hf
    cases hf
    exact g_zret X hb32 hr hlk dX10_isTrue_258
  · refine g_icmp_ne X hf 138 dX10_isTrue_131 (by decide) (fun hf => ?_) (fun hf => ?_)
    · refine g_iconst X dX10_isTrue_134 ?_
      refine g_goto X 139 dX10_isTrue_135 (by decide) ?_
      refine g_sub (lv' := [(0, .ref (a 0)), (1, ii p1), (2, ii (42 + (7 * v1))), (4, ii v4)]) [0, 1, 2, 4] rfl ?_
      exact hj18 1 hf
    · refine g_iconst X dX10_isTrue_138 ?_
      refine g_sub (lv' := [(0, .ref (a 0)), (1, ii p1), (2, ii (42 + (7 * v1))), (4, ii v4)]) [0, 1, 2, 4] rfl ?_
      exact hj18 0 hf
set_option maxHeartbeats 4000000 in
set_option maxRecDepth 100000 in
theorem X10_isTrue_ok (K : KE) (l : Launch) (a : Nat → Nat) (all : Arr) (saved : Arr) (savedMany : Int) (errors : Arr) (text : Arr) (textLong : Int) (rdd : Arr) (readMany : Int) (waits : Arr) (opn : Int) (place : Int) (built : Arr) (builtMany : Int) (parts : Arr) (partMany : Int) (taken : Arr) (calls : Arr) (lacks : Arr) (callMany : Int) (total : Int) (values : Arr) (told : Arr) (toldLong : Int) (p1 : Int) (res : Int) (hf : X10_isTrue all p1 = some res) : CT l K.1 vwCl (kT K) yX10_isTrue wsX10_isTrue rmX10_isTrue [.ref (a 0), ii p1] (some (ii res)) (c10 K a all saved savedMany errors text textLong rdd readMany waits opn place built builtMany parts partMany taken calls lacks callMany total values told toldLong) (c10 K a all saved savedMany errors text textLong rdd readMany waits opn place built builtMany parts partMany taken calls lacks callMany total values told toldLong) :=
  CT.mk (cc := cX10_isTrue) (maxL := 9) (ret := (some .boolean)) (by decide) rfl (Nat.le_of_ble_eq_true rfl) (fun p e s m below meth c X hr hlk => X10_isTrue_go K l a _ X hr hlk all saved savedMany errors text textLong rdd readMany waits opn place built builtMany parts partMany taken calls lacks callMany total values told toldLong p1 res hf)
def rmX10_faithful : Room := { frames := 3, cells := 0, slots := 0, locals := 70 }
def X10_faithful (all : Arr) (p1 : Int) : Option (Int) := (X10_isTrue all p1).bind (fun v1 => brEQ v1 0 (some 0) (some 1))
set_option maxHeartbeats 4000000 in
set_option maxRecDepth 100000 in
theorem X10_faithful_go (K : KE) (l : Launch) (a : Nat → Nat) (WC : va_W) {p : Program} {e : Env} {s : State} {m : MethodId} {args : Array Value} {below : List Frame} {meth : Method} {c : Code} (X : CX p s m args c K.1 vwCl (kT K) (va_A WC s.heap.size) cX10_faithful 2 wsX10_faithful RX10) (hr : meth.sig.returnType = (some .int)) (hlk : meth.locks = false) (all : Arr) (saved : Arr) (savedMany : Int) (errors : Arr) (text : Arr) (textLong : Int) (rdd : Arr) (readMany : Int) (waits : Arr) (opn : Int) (place : Int) (built : Arr) (builtMany : Int) (parts : Arr) (partMany : Int) (taken : Arr) (calls : Arr) (lacks : Arr) (callMany : Int) (total : Int) (values : Arr) (told : Arr) (toldLong : Int) (p1 : Int) (res : Int) (hf : X10_faithful all p1 = some res) : GO p l e rmX10_faithful s m args below meth c K.1 vwCl (va_A WC s.heap.size) (MQ below (QC K.1 vwCl (some (ii res)) WC (c10 K a all saved savedMany errors text textLong rdd readMany waits opn place built builtMany parts partMany taken calls lacks callMany total values told toldLong) s.heap.size) args s 0 0 (va_A WC s.heap.size)) 2 0 0 0 [(0, .ref (a 0)), (1, ii p1)] [] (c10 K a all saved savedMany errors text textLong rdd readMany waits opn place built builtMany parts partMany taken calls lacks callMany total values told toldLong) := by
  rw [X10_faithful] at hf
  refine g_aload_n X dX10_faithful_0 0 rfl rfl ?_
  refine g_iload_n X dX10_faithful_1 1 rfl rfl ?_
  obtain ⟨v1, hc2, hf⟩ := Option.bind_eq_some_iff.mp hf
  refine g_callV X (As := [ii p1]) (st := []) (st1 := [ii v1]) (ws' := c10 K a all saved savedMany errors text textLong rdd readMany waits opn place built builtMany parts partMany taken calls lacks callMany total values told toldLong) (X10_isTrue_ok K l a all saved savedMany errors text textLong rdd readMany waits opn place built builtMany parts partMany taken calls lacks callMany total values told toldLong p1 v1 hc2) gX10_faithful_X10_isTrue rfl 1 (by decide +kernel) ⟨rfl, rfl⟩ ⟨Nat.le_of_ble_eq_true rfl, Nat.le_of_ble_eq_true rfl⟩ ⟨Nat.zero_le _, Nat.zero_le _⟩ 0 rfl rfl rfl rfl (Nat.le_of_ble_eq_true rfl) dX10_faithful_2 (SG.all rfl) rfl ?_
  refine g_if_eq X hf 12 dX10_faithful_5 (by decide) (fun hf => ?_) (fun hf => ?_)
  · refine g_iconst X dX10_faithful_12 ?_
    cases hf
    exact g_iret X hr hlk dX10_faithful_13
  · refine g_iconst X dX10_faithful_8 ?_
    refine g_goto X 13 dX10_faithful_9 (by decide) ?_
    cases hf
    exact g_iret X hr hlk dX10_faithful_13
set_option maxHeartbeats 4000000 in
set_option maxRecDepth 100000 in
theorem X10_faithful_ok (K : KE) (l : Launch) (a : Nat → Nat) (all : Arr) (saved : Arr) (savedMany : Int) (errors : Arr) (text : Arr) (textLong : Int) (rdd : Arr) (readMany : Int) (waits : Arr) (opn : Int) (place : Int) (built : Arr) (builtMany : Int) (parts : Arr) (partMany : Int) (taken : Arr) (calls : Arr) (lacks : Arr) (callMany : Int) (total : Int) (values : Arr) (told : Arr) (toldLong : Int) (p1 : Int) (res : Int) (hf : X10_faithful all p1 = some res) : CT l K.1 vwCl (kT K) yX10_faithful wsX10_faithful rmX10_faithful [.ref (a 0), ii p1] (some (ii res)) (c10 K a all saved savedMany errors text textLong rdd readMany waits opn place built builtMany parts partMany taken calls lacks callMany total values told toldLong) (c10 K a all saved savedMany errors text textLong rdd readMany waits opn place built builtMany parts partMany taken calls lacks callMany total values told toldLong) :=
  CT.mk (cc := cX10_faithful) (maxL := 2) (ret := (some .int)) (by decide) rfl (Nat.le_of_ble_eq_true rfl) (fun p e s m below meth c X hr hlk => X10_faithful_go K l a _ X hr hlk all saved savedMany errors text textLong rdd readMany waits opn place built builtMany parts partMany taken calls lacks callMany total values told toldLong p1 res hf)
theorem iw_X10_map_X10 : ∀ w ∈ u_ws RX10 TX10 23, w ∈ wsX10_map := by decide +kernel
theorem fl_X10_map_7 : Cond.fieldLink RX10 7 (TX10 0).1 (TX10 0).2.1 (TX10 0).2.2.1 ∈ wsX10_map := by decide +kernel
def rmX10_map : Room := { frames := 4, cells := 0, slots := 0, locals := 91 }
def X10_map (all : Arr) (saved : Arr) (savedMany : Int) (errors : Arr) (p1 : Int) (p2 : Int) : Option (Int × Arr × Arr × Int × Arr) := (X10_isFunction p1).bind (fun v1 => brEQ v1 0 ((X10_error errors (-2)).bind (fun w3 => some (w3.1, all, saved, savedMany, w3.2))) ((X10_isFunction p2).bind (fun v5 => brEQ v5 0 ((X10_error errors (-2)).bind (fun w7 => some (w7.1, all, saved, savedMany, w7.2))) ((X10_save all saved savedMany).bind (fun w9 => rdK 186 all (117 + (5 * p1)) (fun v11 => brEQ v11 (-1) (wrK 186 all ((117 + (5 * p1)) + 1) 0 (fun f12 => wrK 186 f12 ((117 + (5 * p1)) + 2) 1 (fun f13 => wrK 186 f13 ((117 + (5 * p1)) + 3) 2 (fun f14 => wrK 186 f14 ((117 + (5 * p1)) + 4) 100 (fun f15 => wrK 186 f15 (117 + (5 * p1)) p2 (fun f16 => (X10_faithful f16 p1).bind (fun v17 => some (v17, f16, w9.1, w9.2, errors)))))))) (wrK 186 all (117 + (5 * p1)) p2 (fun f19 => (X10_faithful f19 p1).bind (fun v20 => some (v20, f19, w9.1, w9.2, errors))))))))))
set_option maxHeartbeats 4000000 in
set_option maxRecDepth 100000 in
theorem X10_map_go (K : KE) (l : Launch) (a : Nat → Nat) (WC : va_W) {p : Program} {e : Env} {s : State} {m : MethodId} {args : Array Value} {below : List Frame} {meth : Method} {c : Code} (X : CX p s m args c K.1 vwCl (kT K) (va_A WC s.heap.size) cX10_map 4 wsX10_map RX10) (hr : meth.sig.returnType = (some .int)) (hlk : meth.locks = false) (all : Arr) (saved : Arr) (savedMany : Int) (errors : Arr) (text : Arr) (textLong : Int) (rdd : Arr) (readMany : Int) (waits : Arr) (opn : Int) (place : Int) (built : Arr) (builtMany : Int) (parts : Arr) (partMany : Int) (taken : Arr) (calls : Arr) (lacks : Arr) (callMany : Int) (total : Int) (values : Arr) (told : Arr) (toldLong : Int) (p1 : Int) (p2 : Int) (res : Int × Arr × Arr × Int × Arr) (hf : X10_map all saved savedMany errors p1 p2 = some res) : GO p l e rmX10_map s m args below meth c K.1 vwCl (va_A WC s.heap.size) (MQ below (QC K.1 vwCl (some (ii res.1)) WC (c10 K a res.2.1 res.2.2.1 res.2.2.2.1 res.2.2.2.2 text textLong rdd readMany waits opn place built builtMany parts partMany taken calls lacks callMany total values told toldLong) s.heap.size) args s 0 0 (va_A WC s.heap.size)) 4 0 0 0 [(0, .ref (a 0)), (1, ii p1), (2, ii p2)] [] (c10 K a all saved savedMany errors text textLong rdd readMany waits opn place built builtMany parts partMany taken calls lacks callMany total values told toldLong) := by
  rw [X10_map] at hf
  refine g_iload_n X dX10_map_0 1 rfl rfl ?_
  obtain ⟨v1, hc2, hf⟩ := Option.bind_eq_some_iff.mp hf
  refine g_callS X (As := [ii p1]) (st := []) (st1 := [ii v1]) (ws' := c10 K a all saved savedMany errors text textLong rdd readMany waits opn place built builtMany parts partMany taken calls lacks callMany total values told toldLong) (X10_isFunction_ok K l p1 v1 hc2) gX10_map_X10_isFunction rfl 1 (by decide +kernel) ⟨rfl, rfl⟩ ⟨Nat.le_of_ble_eq_true rfl, Nat.le_of_ble_eq_true rfl⟩ ⟨Nat.zero_le _, Nat.zero_le _⟩ rfl rfl (Nat.le_of_ble_eq_true rfl) dX10_map_1 SG.none rfl ?_
  refine g_if_eq X hf 14 dX10_map_4 (by decide) (fun hf => ?_) (fun hf => ?_)
  · refine g_aload_n X dX10_map_14 0 rfl rfl ?_
    refine g_bipush X dX10_map_15 (by decide +kernel) ?_
    obtain ⟨w3, hc4, hf⟩ := Option.bind_eq_some_iff.mp hf
    refine g_callV X (As := [ii (-2)]) (st := []) (st1 := [ii w3.1]) (ws' := c10 K a all saved savedMany w3.2 text textLong rdd readMany waits opn place built builtMany parts partMany taken calls lacks callMany total values told toldLong) (X10_error_ok K l a all saved savedMany errors text textLong rdd readMany waits opn place built builtMany parts partMany taken calls lacks callMany total values told toldLong (-2) w3 hc4) gX10_map_X10_error rfl 1 (by decide +kernel) ⟨rfl, rfl⟩ ⟨Nat.le_of_ble_eq_true rfl, Nat.le_of_ble_eq_true rfl⟩ ⟨Nat.zero_le _, Nat.zero_le _⟩ 0 rfl rfl rfl rfl (Nat.le_of_ble_eq_true rfl) dX10_map_17 (SG.all rfl) rfl ?_
    cases hf
    exact g_iret X hr hlk dX10_map_20
  · refine g_iload_n X dX10_map_7 2 rfl rfl ?_
    obtain ⟨v5, hc6, hf⟩ := Option.bind_eq_some_iff.mp hf
    refine g_callS X (As := [ii p2]) (st := []) (st1 := [ii v5]) (ws' := c10 K a all saved savedMany errors text textLong rdd readMany waits opn place built builtMany parts partMany taken calls lacks callMany total values told toldLong) (X10_isFunction_ok K l p2 v5 hc6) gX10_map_X10_isFunction rfl 1 (by decide +kernel) ⟨rfl, rfl⟩ ⟨Nat.le_of_ble_eq_true rfl, Nat.le_of_ble_eq_true rfl⟩ ⟨Nat.zero_le _, Nat.zero_le _⟩ rfl rfl (Nat.le_of_ble_eq_true rfl) dX10_map_8 SG.none rfl ?_
    refine g_if_ne X hf 21 dX10_map_11 (by decide) (fun hf => ?_) (fun hf => ?_)
    · refine g_aload_n X dX10_map_14 0 rfl rfl ?_
      refine g_bipush X dX10_map_15 (by decide +kernel) ?_
      obtain ⟨w7, hc8, hf⟩ := Option.bind_eq_some_iff.mp hf
      refine g_callV X (As := [ii (-2)]) (st := []) (st1 := [ii w7.1]) (ws' := c10 K a all saved savedMany w7.2 text textLong rdd readMany waits opn place built builtMany parts partMany taken calls lacks callMany total values told toldLong) (X10_error_ok K l a all saved savedMany errors text textLong rdd readMany waits opn place built builtMany parts partMany taken calls lacks callMany total values told toldLong (-2) w7 hc8) gX10_map_X10_error rfl 1 (by decide +kernel) ⟨rfl, rfl⟩ ⟨Nat.le_of_ble_eq_true rfl, Nat.le_of_ble_eq_true rfl⟩ ⟨Nat.zero_le _, Nat.zero_le _⟩ 0 rfl rfl rfl rfl (Nat.le_of_ble_eq_true rfl) dX10_map_17 (SG.all rfl) rfl ?_
      cases hf
      exact g_iret X hr hlk dX10_map_20
    · refine g_aload_n X dX10_map_21 0 rfl rfl ?_
      obtain ⟨w9, hc10, hf⟩ := Option.bind_eq_some_iff.mp hf
      refine g_callV X (As := []) (st := []) (st1 := []) (ws' := c10 K a all w9.1 w9.2 errors text textLong rdd readMany waits opn place built builtMany parts partMany taken calls lacks callMany total values told toldLong) (X10_save_ok K l a all saved savedMany errors text textLong rdd readMany waits opn place built builtMany parts partMany taken calls lacks callMany total values told toldLong w9 hc10) gX10_map_X10_save rfl 0 (by decide +kernel) ⟨rfl, rfl⟩ ⟨Nat.le_of_ble_eq_true rfl, Nat.le_of_ble_eq_true rfl⟩ ⟨Nat.zero_le _, Nat.zero_le _⟩ 0 rfl rfl rfl rfl (Nat.le_of_ble_eq_true rfl) dX10_map_22 (SG.all rfl) rfl ?_
      refine g_bipush X dX10_map_25 (by decide +kernel) ?_
      refine g_iconst X dX10_map_27 ?_
      refine g_iload_n X dX10_map_28 1 rfl rfl ?_
      refine g_imul X dX10_map_29 ?_
      refine g_iadd X dX10_map_30 ?_
      refine g_istore_n X (lv' := [(3, ii (117 + (5 * p1))), (0, .ref (a 0)), (1, ii p1), (2, ii p2)]) dX10_map_31 rfl (by decide) rfl ?_
      refine g_aload_n X dX10_map_32 1 rfl rfl ?_
      refine g_get X (v := .ref (a 1)) 0 0 dX10_map_33 rfl rfl iw_X10_map_X10 (by decide) fl_X10_map_7 rfl ?_
      refine g_iload_n X dX10_map_36 0 rfl rfl ?_
      refine g_iald X hf (by decide) 1 0 dX10_map_37 rfl rfl (fun v11 hf => ?_)
      refine g_iconst X dX10_map_38 ?_
      refine g_icmp_ne X hf 79 dX10_map_39 (by decide) (fun hf => ?_) (fun hf => ?_)
      · refine g_aload_n X dX10_map_42 1 rfl rfl ?_
        refine g_get X (v := .ref (a 1)) 0 0 dX10_map_43 rfl rfl iw_X10_map_X10 (by decide) fl_X10_map_7 rfl ?_
        refine g_iload_n X dX10_map_46 0 rfl rfl ?_
        refine g_iconst X dX10_map_47 ?_
        refine g_iadd X dX10_map_48 ?_
        refine g_iconst X dX10_map_49 ?_
        refine g_iast X hf (by decide) 1 0 dX10_map_50 rfl rfl (fun f12 => c10 K a f12 w9.1 w9.2 errors text textLong rdd readMany waits opn place built builtMany parts partMany taken calls lacks callMany total values told toldLong) (fun _ => rfl) (fun f12 hf => ?_)
        refine g_aload_n X dX10_map_51 1 rfl rfl ?_
        refine g_get X (v := .ref (a 1)) 0 0 dX10_map_52 rfl rfl iw_X10_map_X10 (by decide) fl_X10_map_7 rfl ?_
        refine g_iload_n X dX10_map_55 0 rfl rfl ?_
        refine g_iconst X dX10_map_56 ?_
        refine g_iadd X dX10_map_57 ?_
        refine g_iconst X dX10_map_58 ?_
        refine g_iast X hf (by decide) 1 0 dX10_map_59 rfl rfl (fun f13 => c10 K a f13 w9.1 w9.2 errors text textLong rdd readMany waits opn place built builtMany parts partMany taken calls lacks callMany total values told toldLong) (fun _ => rfl) (fun f13 hf => ?_)
        refine g_aload_n X dX10_map_60 1 rfl rfl ?_
        refine g_get X (v := .ref (a 1)) 0 0 dX10_map_61 rfl rfl iw_X10_map_X10 (by decide) fl_X10_map_7 rfl ?_
        refine g_iload_n X dX10_map_64 0 rfl rfl ?_
        refine g_iconst X dX10_map_65 ?_
        refine g_iadd X dX10_map_66 ?_
        refine g_iconst X dX10_map_67 ?_
        refine g_iast X hf (by decide) 1 0 dX10_map_68 rfl rfl (fun f14 => c10 K a f14 w9.1 w9.2 errors text textLong rdd readMany waits opn place built builtMany parts partMany taken calls lacks callMany total values told toldLong) (fun _ => rfl) (fun f14 hf => ?_)
        refine g_aload_n X dX10_map_69 1 rfl rfl ?_
        refine g_get X (v := .ref (a 1)) 0 0 dX10_map_70 rfl rfl iw_X10_map_X10 (by decide) fl_X10_map_7 rfl ?_
        refine g_iload_n X dX10_map_73 0 rfl rfl ?_
        refine g_iconst X dX10_map_74 ?_
        refine g_iadd X dX10_map_75 ?_
        refine g_bipush X dX10_map_76 (by decide +kernel) ?_
        refine g_iast X hf (by decide) 1 0 dX10_map_78 rfl rfl (fun f15 => c10 K a f15 w9.1 w9.2 errors text textLong rdd readMany waits opn place built builtMany parts partMany taken calls lacks callMany total values told toldLong) (fun _ => rfl) (fun f15 hf => ?_)
        refine g_aload_n X dX10_map_79 1 rfl rfl ?_
        refine g_get X (v := .ref (a 1)) 0 0 dX10_map_80 rfl rfl iw_X10_map_X10 (by decide) fl_X10_map_7 rfl ?_
        refine g_iload_n X dX10_map_83 0 rfl rfl ?_
        refine g_iload_n X dX10_map_84 3 rfl rfl ?_
        refine g_iast X hf (by decide) 1 0 dX10_map_85 rfl rfl (fun f16 => c10 K a f16 w9.1 w9.2 errors text textLong rdd readMany waits opn place built builtMany parts partMany taken calls lacks callMany total values told toldLong) (fun _ => rfl) (fun f16 hf => ?_)
        refine g_aload_n X dX10_map_86 1 rfl rfl ?_
        refine g_iload_n X dX10_map_87 2 rfl rfl ?_
        obtain ⟨v17, hc18, hf⟩ := Option.bind_eq_some_iff.mp hf
        refine g_callV X (As := [ii p1]) (st := []) (st1 := [ii v17]) (ws' := c10 K a f16 w9.1 w9.2 errors text textLong rdd readMany waits opn place built builtMany parts partMany taken calls lacks callMany total values told toldLong) (X10_faithful_ok K l a f16 w9.1 w9.2 errors text textLong rdd readMany waits opn place built builtMany parts partMany taken calls lacks callMany total values told toldLong p1 v17 hc18) gX10_map_X10_faithful rfl 1 (by decide +kernel) ⟨rfl, rfl⟩ ⟨Nat.le_of_ble_eq_true rfl, Nat.le_of_ble_eq_true rfl⟩ ⟨Nat.zero_le _, Nat.zero_le _⟩ 0 rfl rfl rfl rfl (Nat.le_of_ble_eq_true rfl) dX10_map_88 (SG.all rfl) rfl ?_
        cases hf
        exact g_iret X hr hlk dX10_map_91
      · refine g_aload_n X dX10_map_79 1 rfl rfl ?_
        refine g_get X (v := .ref (a 1)) 0 0 dX10_map_80 rfl rfl iw_X10_map_X10 (by decide) fl_X10_map_7 rfl ?_
        refine g_iload_n X dX10_map_83 0 rfl rfl ?_
        refine g_iload_n X dX10_map_84 3 rfl rfl ?_
        refine g_iast X hf (by decide) 1 0 dX10_map_85 rfl rfl (fun f19 => c10 K a f19 w9.1 w9.2 errors text textLong rdd readMany waits opn place built builtMany parts partMany taken calls lacks callMany total values told toldLong) (fun _ => rfl) (fun f19 hf => ?_)
        refine g_aload_n X dX10_map_86 1 rfl rfl ?_
        refine g_iload_n X dX10_map_87 2 rfl rfl ?_
        obtain ⟨v20, hc21, hf⟩ := Option.bind_eq_some_iff.mp hf
        refine g_callV X (As := [ii p1]) (st := []) (st1 := [ii v20]) (ws' := c10 K a f19 w9.1 w9.2 errors text textLong rdd readMany waits opn place built builtMany parts partMany taken calls lacks callMany total values told toldLong) (X10_faithful_ok K l a f19 w9.1 w9.2 errors text textLong rdd readMany waits opn place built builtMany parts partMany taken calls lacks callMany total values told toldLong p1 v20 hc21) gX10_map_X10_faithful rfl 1 (by decide +kernel) ⟨rfl, rfl⟩ ⟨Nat.le_of_ble_eq_true rfl, Nat.le_of_ble_eq_true rfl⟩ ⟨Nat.zero_le _, Nat.zero_le _⟩ 0 rfl rfl rfl rfl (Nat.le_of_ble_eq_true rfl) dX10_map_88 (SG.all rfl) rfl ?_
        cases hf
        exact g_iret X hr hlk dX10_map_91
set_option maxHeartbeats 4000000 in
set_option maxRecDepth 100000 in
theorem X10_map_ok (K : KE) (l : Launch) (a : Nat → Nat) (all : Arr) (saved : Arr) (savedMany : Int) (errors : Arr) (text : Arr) (textLong : Int) (rdd : Arr) (readMany : Int) (waits : Arr) (opn : Int) (place : Int) (built : Arr) (builtMany : Int) (parts : Arr) (partMany : Int) (taken : Arr) (calls : Arr) (lacks : Arr) (callMany : Int) (total : Int) (values : Arr) (told : Arr) (toldLong : Int) (p1 : Int) (p2 : Int) (res : Int × Arr × Arr × Int × Arr) (hf : X10_map all saved savedMany errors p1 p2 = some res) : CT l K.1 vwCl (kT K) yX10_map wsX10_map rmX10_map [.ref (a 0), ii p1, ii p2] (some (ii res.1)) (c10 K a all saved savedMany errors text textLong rdd readMany waits opn place built builtMany parts partMany taken calls lacks callMany total values told toldLong) (c10 K a res.2.1 res.2.2.1 res.2.2.2.1 res.2.2.2.2 text textLong rdd readMany waits opn place built builtMany parts partMany taken calls lacks callMany total values told toldLong) :=
  CT.mk (cc := cX10_map) (maxL := 4) (ret := (some .int)) (by decide) rfl (Nat.le_of_ble_eq_true rfl) (fun p e s m below meth c X hr hlk => X10_map_go K l a _ X hr hlk all saved savedMany errors text textLong rdd readMany waits opn place built builtMany parts partMany taken calls lacks callMany total values told toldLong p1 p2 res hf)
theorem iw_X10_unmap_X10 : ∀ w ∈ u_ws RX10 TX10 23, w ∈ wsX10_unmap := by decide +kernel
theorem fl_X10_unmap_7 : Cond.fieldLink RX10 7 (TX10 0).1 (TX10 0).2.1 (TX10 0).2.2.1 ∈ wsX10_unmap := by decide +kernel
def rmX10_unmap : Room := { frames := 2, cells := 0, slots := 0, locals := 45 }
def X10_unmap (all : Arr) (saved : Arr) (savedMany : Int) (errors : Arr) (p1 : Int) : Option (Int × Arr × Arr × Int × Arr) := (X10_isFunction p1).bind (fun v1 => brEQ v1 0 ((X10_error errors (-2)).bind (fun w3 => some (w3.1, all, saved, savedMany, w3.2))) ((X10_newOf all p1).bind (fun v5 => brEQ v5 (-1) ((X10_error errors (-3)).bind (fun w7 => some (w7.1, all, saved, savedMany, w7.2))) ((X10_save all saved savedMany).bind (fun w9 => wrK 186 all (117 + (5 * p1)) (-1) (fun f11 => some (v5, f11, w9.1, w9.2, errors)))))))
set_option maxHeartbeats 4000000 in
set_option maxRecDepth 100000 in
theorem X10_unmap_go (K : KE) (l : Launch) (a : Nat → Nat) (WC : va_W) {p : Program} {e : Env} {s : State} {m : MethodId} {args : Array Value} {below : List Frame} {meth : Method} {c : Code} (X : CX p s m args c K.1 vwCl (kT K) (va_A WC s.heap.size) cX10_unmap 3 wsX10_unmap RX10) (hr : meth.sig.returnType = (some .int)) (hlk : meth.locks = false) (all : Arr) (saved : Arr) (savedMany : Int) (errors : Arr) (text : Arr) (textLong : Int) (rdd : Arr) (readMany : Int) (waits : Arr) (opn : Int) (place : Int) (built : Arr) (builtMany : Int) (parts : Arr) (partMany : Int) (taken : Arr) (calls : Arr) (lacks : Arr) (callMany : Int) (total : Int) (values : Arr) (told : Arr) (toldLong : Int) (p1 : Int) (res : Int × Arr × Arr × Int × Arr) (hf : X10_unmap all saved savedMany errors p1 = some res) : GO p l e rmX10_unmap s m args below meth c K.1 vwCl (va_A WC s.heap.size) (MQ below (QC K.1 vwCl (some (ii res.1)) WC (c10 K a res.2.1 res.2.2.1 res.2.2.2.1 res.2.2.2.2 text textLong rdd readMany waits opn place built builtMany parts partMany taken calls lacks callMany total values told toldLong) s.heap.size) args s 0 0 (va_A WC s.heap.size)) 3 0 0 0 [(0, .ref (a 0)), (1, ii p1)] [] (c10 K a all saved savedMany errors text textLong rdd readMany waits opn place built builtMany parts partMany taken calls lacks callMany total values told toldLong) := by
  rw [X10_unmap] at hf
  refine g_iload_n X dX10_unmap_0 1 rfl rfl ?_
  obtain ⟨v1, hc2, hf⟩ := Option.bind_eq_some_iff.mp hf
  refine g_callS X (As := [ii p1]) (st := []) (st1 := [ii v1]) (ws' := c10 K a all saved savedMany errors text textLong rdd readMany waits opn place built builtMany parts partMany taken calls lacks callMany total values told toldLong) (X10_isFunction_ok K l p1 v1 hc2) gX10_unmap_X10_isFunction rfl 1 (by decide +kernel) ⟨rfl, rfl⟩ ⟨Nat.le_of_ble_eq_true rfl, Nat.le_of_ble_eq_true rfl⟩ ⟨Nat.zero_le _, Nat.zero_le _⟩ rfl rfl (Nat.le_of_ble_eq_true rfl) dX10_unmap_1 SG.none rfl ?_
  refine g_if_ne X hf 14 dX10_unmap_4 (by decide) (fun hf => ?_) (fun hf => ?_)
  · refine g_aload_n X dX10_unmap_7 0 rfl rfl ?_
    refine g_bipush X dX10_unmap_8 (by decide +kernel) ?_
    obtain ⟨w3, hc4, hf⟩ := Option.bind_eq_some_iff.mp hf
    refine g_callV X (As := [ii (-2)]) (st := []) (st1 := [ii w3.1]) (ws' := c10 K a all saved savedMany w3.2 text textLong rdd readMany waits opn place built builtMany parts partMany taken calls lacks callMany total values told toldLong) (X10_error_ok K l a all saved savedMany errors text textLong rdd readMany waits opn place built builtMany parts partMany taken calls lacks callMany total values told toldLong (-2) w3 hc4) gX10_unmap_X10_error rfl 1 (by decide +kernel) ⟨rfl, rfl⟩ ⟨Nat.le_of_ble_eq_true rfl, Nat.le_of_ble_eq_true rfl⟩ ⟨Nat.zero_le _, Nat.zero_le _⟩ 0 rfl rfl rfl rfl (Nat.le_of_ble_eq_true rfl) dX10_unmap_10 (SG.all rfl) rfl ?_
    cases hf
    exact g_iret X hr hlk dX10_unmap_13
  · refine g_aload_n X dX10_unmap_14 0 rfl rfl ?_
    refine g_iload_n X dX10_unmap_15 1 rfl rfl ?_
    obtain ⟨v5, hc6, hf⟩ := Option.bind_eq_some_iff.mp hf
    refine g_callV X (As := [ii p1]) (st := []) (st1 := [ii v5]) (ws' := c10 K a all saved savedMany errors text textLong rdd readMany waits opn place built builtMany parts partMany taken calls lacks callMany total values told toldLong) (X10_newOf_ok K l a all saved savedMany errors text textLong rdd readMany waits opn place built builtMany parts partMany taken calls lacks callMany total values told toldLong p1 v5 hc6) gX10_unmap_X10_newOf rfl 1 (by decide +kernel) ⟨rfl, rfl⟩ ⟨Nat.le_of_ble_eq_true rfl, Nat.le_of_ble_eq_true rfl⟩ ⟨Nat.zero_le _, Nat.zero_le _⟩ 0 rfl rfl rfl rfl (Nat.le_of_ble_eq_true rfl) dX10_unmap_16 (SG.all rfl) rfl ?_
    refine g_istore_n X (lv' := [(2, ii v5), (0, .ref (a 0)), (1, ii p1)]) dX10_unmap_19 rfl (by decide) rfl ?_
    refine g_iload_n X dX10_unmap_20 0 rfl rfl ?_
    refine g_iconst X dX10_unmap_21 ?_
    refine g_icmp_ne X hf 32 dX10_unmap_22 (by decide) (fun hf => ?_) (fun hf => ?_)
    · refine g_aload_n X dX10_unmap_25 1 rfl rfl ?_
      refine g_bipush X dX10_unmap_26 (by decide +kernel) ?_
      obtain ⟨w7, hc8, hf⟩ := Option.bind_eq_some_iff.mp hf
      refine g_callV X (As := [ii (-3)]) (st := []) (st1 := [ii w7.1]) (ws' := c10 K a all saved savedMany w7.2 text textLong rdd readMany waits opn place built builtMany parts partMany taken calls lacks callMany total values told toldLong) (X10_error_ok K l a all saved savedMany errors text textLong rdd readMany waits opn place built builtMany parts partMany taken calls lacks callMany total values told toldLong (-3) w7 hc8) gX10_unmap_X10_error rfl 1 (by decide +kernel) ⟨rfl, rfl⟩ ⟨Nat.le_of_ble_eq_true rfl, Nat.le_of_ble_eq_true rfl⟩ ⟨Nat.zero_le _, Nat.zero_le _⟩ 0 rfl rfl rfl rfl (Nat.le_of_ble_eq_true rfl) dX10_unmap_28 (SG.all rfl) rfl ?_
      cases hf
      exact g_iret X hr hlk dX10_unmap_31
    · refine g_aload_n X dX10_unmap_32 1 rfl rfl ?_
      obtain ⟨w9, hc10, hf⟩ := Option.bind_eq_some_iff.mp hf
      refine g_callV X (As := []) (st := []) (st1 := []) (ws' := c10 K a all w9.1 w9.2 errors text textLong rdd readMany waits opn place built builtMany parts partMany taken calls lacks callMany total values told toldLong) (X10_save_ok K l a all saved savedMany errors text textLong rdd readMany waits opn place built builtMany parts partMany taken calls lacks callMany total values told toldLong w9 hc10) gX10_unmap_X10_save rfl 0 (by decide +kernel) ⟨rfl, rfl⟩ ⟨Nat.le_of_ble_eq_true rfl, Nat.le_of_ble_eq_true rfl⟩ ⟨Nat.zero_le _, Nat.zero_le _⟩ 0 rfl rfl rfl rfl (Nat.le_of_ble_eq_true rfl) dX10_unmap_33 (SG.all rfl) rfl ?_
      refine g_aload_n X dX10_unmap_36 1 rfl rfl ?_
      refine g_get X (v := .ref (a 1)) 0 0 dX10_unmap_37 rfl rfl iw_X10_unmap_X10 (by decide) fl_X10_unmap_7 rfl ?_
      refine g_bipush X dX10_unmap_40 (by decide +kernel) ?_
      refine g_iconst X dX10_unmap_42 ?_
      refine g_iload_n X dX10_unmap_43 2 rfl rfl ?_
      refine g_imul X dX10_unmap_44 ?_
      refine g_iadd X dX10_unmap_45 ?_
      refine g_iconst X dX10_unmap_46 ?_
      refine g_iast X hf (by decide) 1 0 dX10_unmap_47 rfl rfl (fun f11 => c10 K a f11 w9.1 w9.2 errors text textLong rdd readMany waits opn place built builtMany parts partMany taken calls lacks callMany total values told toldLong) (fun _ => rfl) (fun f11 hf => ?_)
      refine g_iload_n X dX10_unmap_48 0 rfl rfl ?_
      cases hf
      exact g_iret X hr hlk dX10_unmap_49
set_option maxHeartbeats 4000000 in
set_option maxRecDepth 100000 in
theorem X10_unmap_ok (K : KE) (l : Launch) (a : Nat → Nat) (all : Arr) (saved : Arr) (savedMany : Int) (errors : Arr) (text : Arr) (textLong : Int) (rdd : Arr) (readMany : Int) (waits : Arr) (opn : Int) (place : Int) (built : Arr) (builtMany : Int) (parts : Arr) (partMany : Int) (taken : Arr) (calls : Arr) (lacks : Arr) (callMany : Int) (total : Int) (values : Arr) (told : Arr) (toldLong : Int) (p1 : Int) (res : Int × Arr × Arr × Int × Arr) (hf : X10_unmap all saved savedMany errors p1 = some res) : CT l K.1 vwCl (kT K) yX10_unmap wsX10_unmap rmX10_unmap [.ref (a 0), ii p1] (some (ii res.1)) (c10 K a all saved savedMany errors text textLong rdd readMany waits opn place built builtMany parts partMany taken calls lacks callMany total values told toldLong) (c10 K a res.2.1 res.2.2.1 res.2.2.2.1 res.2.2.2.2 text textLong rdd readMany waits opn place built builtMany parts partMany taken calls lacks callMany total values told toldLong) :=
  CT.mk (cc := cX10_unmap) (maxL := 3) (ret := (some .int)) (by decide) rfl (Nat.le_of_ble_eq_true rfl) (fun p e s m below meth c X hr hlk => X10_unmap_go K l a _ X hr hlk all saved savedMany errors text textLong rdd readMany waits opn place built builtMany parts partMany taken calls lacks callMany total values told toldLong p1 res hf)
