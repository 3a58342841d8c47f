theorem iw_X10_adapterFor_X10 : ∀ w ∈ u_ws RX10 TX10 23, w ∈ wsX10_adapterFor := by decide +kernel
theorem fl_X10_adapterFor_7 : Cond.fieldLink RX10 7 (TX10 0).1 (TX10 0).2.1 (TX10 0).2.2.1 ∈ wsX10_adapterFor := by decide +kernel
def rmX10_adapterFor : Room := { frames := 1, cells := 0, slots := 0, locals := 23 }
def X10_adapterFor_L59 (kx : Arr → Option (Int × Arr)) (x1 : Int) (x3 : Int) : Nat → Int → Arr → Option (Int × Arr)
  | 0, _, _ => none
  | n + 1, y4, all => brLT y4 7 (rdK 186 all ((0 + (7 * x1)) + y4) (fun v7 => wrK 186 all (x3 + y4) v7 (fun f8 => X10_adapterFor_L59 kx x1 x3 n (y4 + 1) f8))) (kx all)
def X10_adapterFor (all : Arr) (p1 : Int) : Option (Int × Arr) := (X10_adapter all p1).bind (fun v1 => rdK 186 all 147 (fun v3 => brEQ v3 0 (some ((-1), all)) (ltK (fun q4 : Unit => brEQ v1 (-1) (rdK 186 all 116 (fun v6 => X10_adapterFor_L59 (fun w9 => wrK 186 w9 ((84 + (8 * v6)) + 7) p1 (fun f10 => rdK 186 f10 116 (fun v11 => wrK 186 f10 116 (v11 + 1) (fun f12 => rdK 186 f12 116 (fun v13 => some ((v13 - 1), f12)))))) p1 (84 + (8 * v6)) FU 0 all)) (some (v1, all))) (fun j5 => brEQ v1 (-1) (rdK 186 all 116 (fun v14 => brEQ v14 4 (some ((-1), all)) (j5 ()))) (j5 ())))))
set_option maxHeartbeats 4000000 in
set_option maxRecDepth 100000 in
theorem X10_adapterFor_L59_ok (K : KE) (l : Launch) (a : Nat → Nat) (WC : va_W) {p : Program} {e : Env} {s : State} {m : MethodId} {args : Array Value} {below : List Frame} {meth : Method} {c : Code} (X : CX p s m args c K.1 vwCl (kT K) (va_A WC s.heap.size) cX10_adapterFor 5 wsX10_adapterFor RX10) (hr : meth.sig.returnType = (some .int)) (hlk : meth.locks = false) (saved : Arr) (savedMany : Int) (errors : Arr) (text : Arr) (textLong : Int) (rdd : Arr) (readMany : Int) (waits : Arr) (opn : Int) (place : Int) (built : Arr) (builtMany : Int) (parts : Arr) (partMany : Int) (taken : Arr) (calls : Arr) (lacks : Arr) (callMany : Int) (total : Int) (values : Arr) (told : Arr) (toldLong : Int) (x1 : Int) (x3 : Int) (res : Int × Arr) {kx : Arr → Option (Int × Arr)} : ∀ (n : Nat) (y4 : Int) (all : Arr), X10_adapterFor_L59 kx x1 x3 n y4 all = some res → (∀ (allz : Arr), kx allz = some res → GO p l e rmX10_adapterFor s m args below meth c K.1 vwCl (va_A WC s.heap.size) (MQ below (QC K.1 vwCl (some (ii res.1)) WC (c10 K a res.2 saved savedMany errors text textLong rdd readMany waits opn place built builtMany parts partMany taken calls lacks callMany total values told toldLong) s.heap.size) args s 0 0 (va_A WC s.heap.size)) 5 0 0 95 [(0, .ref (a 0)), (1, ii x1), (3, ii x3)] [] (c10 K a allz saved savedMany errors text textLong rdd readMany waits opn place built builtMany parts partMany taken calls lacks callMany total values told toldLong)) → GO p l e rmX10_adapterFor s m args below meth c K.1 vwCl (va_A WC s.heap.size) (MQ below (QC K.1 vwCl (some (ii res.1)) WC (c10 K a res.2 saved savedMany errors text textLong rdd readMany waits opn place built builtMany parts partMany taken calls lacks callMany total values told toldLong) s.heap.size) args s 0 0 (va_A WC s.heap.size)) 5 0 0 59 [(0, .ref (a 0)), (1, ii x1), (3, ii x3), (4, ii y4)] [] (c10 K a all saved savedMany errors text textLong rdd readMany waits opn place built builtMany parts partMany taken calls lacks callMany total values told toldLong) := by
  intro n
  induction n with
  | zero =>
    intro y4 all hf _
    rw [X10_adapterFor_L59] at hf
    cases hf
  | succ n ih =>
    intro y4 all hf hk
    rw [X10_adapterFor_L59] at hf
    refine g_iload X dX10_adapterFor_59 3 rfl ?_
    refine g_bipush X dX10_adapterFor_61 (by decide +kernel) ?_
    refine g_icmp_ge X hf 95 dX10_adapterFor_63 (by decide) (fun hf => ?_) (fun hf => ?_)
    · refine g_aload_n X dX10_adapterFor_66 0 rfl rfl ?_
      refine g_get X (v := .ref (a 1)) 0 0 dX10_adapterFor_67 rfl rfl iw_X10_adapterFor_X10 (by decide) fl_X10_adapterFor_7 rfl ?_
      refine g_iload_n X dX10_adapterFor_70 2 rfl rfl ?_
      refine g_iload X dX10_adapterFor_71 3 rfl ?_
      refine g_iadd X dX10_adapterFor_73 ?_
      refine g_aload_n X dX10_adapterFor_74 0 rfl rfl ?_
      refine g_get X (v := .ref (a 1)) 0 0 dX10_adapterFor_75 rfl rfl iw_X10_adapterFor_X10 (by decide) fl_X10_adapterFor_7 rfl ?_
      refine g_iconst X dX10_adapterFor_78 ?_
      refine g_bipush X dX10_adapterFor_79 (by decide +kernel) ?_
      refine g_iload_n X dX10_adapterFor_81 1 rfl rfl ?_
      refine g_imul X dX10_adapterFor_82 ?_
      refine g_iadd X dX10_adapterFor_83 ?_
      refine g_iload X dX10_adapterFor_84 3 rfl ?_
      refine g_iadd X dX10_adapterFor_86 ?_
      refine g_iald X hf (by decide) 1 0 dX10_adapterFor_87 rfl rfl (fun v7 hf => ?_)
      refine g_iast X hf (by decide) 1 0 dX10_adapterFor_88 rfl rfl (fun f8 => c10 K a f8 saved savedMany errors text textLong rdd readMany waits opn place built builtMany parts partMany taken calls lacks callMany total values told toldLong) (fun _ => rfl) (fun f8 hf => ?_)
      refine g_iinc X (lv' := [(4, ii (y4 + 1)), (0, .ref (a 0)), (1, ii x1), (3, ii x3)]) dX10_adapterFor_89 3 rfl (by decide) rfl ?_
      refine g_goto X 59 dX10_adapterFor_92 (by decide) ?_
      refine g_sub (lv' := [(0, .ref (a 0)), (1, ii x1), (3, ii x3), (4, ii (y4 + 1))]) [1, 2, 3, 0] rfl ?_
      exact ih (y4 + 1) f8 hf hk
    · refine g_sub (lv' := [(0, .ref (a 0)), (1, ii x1), (3, ii x3)]) [0, 1, 2] rfl ?_
      exact hk all hf
set_option maxHeartbeats 4000000 in
set_option maxRecDepth 100000 in
theorem X10_adapterFor_go (K : KE) (l : Launch) (a : Nat → Nat) (WC : va_W) {p : Program} {e : Env} {s : State} {m : MethodId} {args : Array Value} {below : List Frame} {meth : Method} {c : Code} (X : CX p s m args c K.1 vwCl (kT K) (va_A WC s.heap.size) cX10_adapterFor 5 wsX10_adapterFor RX10) (hr : meth.sig.returnType = (some .int)) (hlk : meth.locks = false) (all : Arr) (saved : Arr) (savedMany : Int) (errors : Arr) (text : Arr) (textLong : Int) (rdd : Arr) (readMany : Int) (waits : Arr) (opn : Int) (place : Int) (built : Arr) (builtMany : Int) (parts : Arr) (partMany : Int) (taken : Arr) (calls : Arr) (lacks : Arr) (callMany : Int) (total : Int) (values : Arr) (told : Arr) (toldLong : Int) (p1 : Int) (res : Int × Arr) (hf : X10_adapterFor all p1 = some res) : GO p l e rmX10_adapterFor s m args below meth c K.1 vwCl (va_A WC s.heap.size) (MQ below (QC K.1 vwCl (some (ii res.1)) WC (c10 K a res.2 saved savedMany errors text textLong rdd readMany waits opn place built builtMany parts partMany taken calls lacks callMany total values told toldLong) s.heap.size) args s 0 0 (va_A WC s.heap.size)) 5 0 0 0 [(0, .ref (a 0)), (1, ii p1)] [] (c10 K a all saved savedMany errors text textLong rdd readMany waits opn place built builtMany parts partMany taken calls lacks callMany total values told toldLong) := by
  rw [X10_adapterFor] at hf
  refine g_aload_n X dX10_adapterFor_0 0 rfl rfl ?_
  refine g_iload_n X dX10_adapterFor_1 1 rfl rfl ?_
  obtain ⟨v1, hc2, hf⟩ := Option.bind_eq_some_iff.mp hf
  refine g_callV X (As := [ii p1]) (st := []) (st1 := [ii v1]) (ws' := c10 K a all saved savedMany errors text textLong rdd readMany waits opn place built builtMany parts partMany taken calls lacks callMany total values told toldLong) (X10_adapter_ok K l a all saved savedMany errors text textLong rdd readMany waits opn place built builtMany parts partMany taken calls lacks callMany total values told toldLong p1 v1 hc2) gX10_adapterFor_X10_adapter rfl 1 (by decide +kernel) ⟨rfl, rfl⟩ ⟨Nat.le_of_ble_eq_true rfl, Nat.le_of_ble_eq_true rfl⟩ ⟨Nat.zero_le _, Nat.zero_le _⟩ 0 rfl rfl rfl rfl (Nat.le_of_ble_eq_true rfl) dX10_adapterFor_2 (SG.all rfl) rfl ?_
  refine g_istore_n X (lv' := [(2, ii v1), (0, .ref (a 0)), (1, ii p1)]) dX10_adapterFor_5 rfl (by decide) rfl ?_
  refine g_aload_n X dX10_adapterFor_6 1 rfl rfl ?_
  refine g_get X (v := .ref (a 1)) 0 0 dX10_adapterFor_7 rfl rfl iw_X10_adapterFor_X10 (by decide) fl_X10_adapterFor_7 rfl ?_
  refine g_sipush X dX10_adapterFor_10 (by decide +kernel) ?_
  refine g_iald X hf (by decide) 1 0 dX10_adapterFor_13 rfl rfl (fun v3 hf => ?_)
  refine g_if_eq X hf 33 dX10_adapterFor_14 (by decide) (fun hf => ?_) (fun hf => ?_)
  · refine g_iconst X dX10_adapterFor_33 ?_
    cases hf
    exact g_iret X hr hlk dX10_adapterFor_34
  · refine g_iload_n X dX10_adapterFor_17 0 rfl rfl ?_
    refine g_iconst X dX10_adapterFor_18 ?_
    refine g_let (G := fun q4 : Unit => GO p l e rmX10_adapterFor s m args below meth c K.1 vwCl (va_A WC s.heap.size) (MQ below (QC K.1 vwCl (some (ii res.1)) WC (c10 K a res.2 saved savedMany errors text textLong rdd readMany waits opn place built builtMany parts partMany taken calls lacks callMany total values told toldLong) s.heap.size) args s 0 0 (va_A WC s.heap.size)) 5 0 0 35 [(0, .ref (a 0)), (1, ii p1), (2, ii v1)] [] (c10 K a all saved savedMany errors text textLong rdd readMany waits opn place built builtMany parts partMany taken calls lacks callMany total values told toldLong)) hf (fun q4 hf => ?_) (fun j5 hj5 hf => ?_)
    · refine g_iload_n X dX10_adapterFor_35 2 rfl rfl ?_
      refine g_iconst X dX10_adapterFor_36 ?_
      refine g_icmp_eq X hf 42 dX10_adapterFor_37 (by decide) (fun hf => ?_) (fun hf => ?_)
      · refine g_bipush X dX10_adapterFor_42 (by decide +kernel) ?_
        refine g_bipush X dX10_adapterFor_44 (by decide +kernel) ?_
        refine g_aload_n X dX10_adapterFor_46 0 rfl rfl ?_
        refine g_get X (v := .ref (a 1)) 0 0 dX10_adapterFor_47 rfl rfl iw_X10_adapterFor_X10 (by decide) fl_X10_adapterFor_7 rfl ?_
        refine g_bipush X dX10_adapterFor_50 (by decide +kernel) ?_
        refine g_iald X hf (by decide) 1 0 dX10_adapterFor_52 rfl rfl (fun v6 hf => ?_)
        refine g_imul X dX10_adapterFor_53 ?_
        refine g_iadd X dX10_adapterFor_54 ?_
        refine g_istore_n X (lv' := [(3, ii (84 + (8 * v6))), (0, .ref (a 0)), (1, ii p1), (2, ii v1)]) dX10_adapterFor_55 rfl (by decide) rfl ?_
        refine g_iconst X dX10_adapterFor_56 ?_
        refine g_istore X (lv' := [(4, ii 0), (3, ii (84 + (8 * v6))), (0, .ref (a 0)), (1, ii p1), (2, ii v1)]) dX10_adapterFor_57 (by decide) rfl ?_
        refine g_sub (lv' := [(0, .ref (a 0)), (1, ii p1), (3, ii (84 + (8 * v6))), (4, ii 0)]) [2, 3, 1, 0] rfl ?_
        refine X10_adapterFor_L59_ok K l a WC X hr hlk saved savedMany errors text textLong rdd readMany waits opn place built builtMany parts partMany taken calls lacks callMany total values told toldLong p1 (84 + (8 * v6)) res FU 0 all hf (fun w9 hf => ?_)
        refine g_aload_n X dX10_adapterFor_95 0 rfl rfl ?_
        refine g_get X (v := .ref (a 1)) 0 0 dX10_adapterFor_96 rfl rfl iw_X10_adapterFor_X10 (by decide) fl_X10_adapterFor_7 rfl ?_
        refine g_iload_n X dX10_adapterFor_99 2 rfl rfl ?_
        refine g_bipush X dX10_adapterFor_100 (by decide +kernel) ?_
        refine g_iadd X dX10_adapterFor_102 ?_
        refine g_iload_n X dX10_adapterFor_103 1 rfl rfl ?_
        refine g_iast X hf (by decide) 1 0 dX10_adapterFor_104 rfl rfl (fun f10 => c10 K a f10 saved savedMany errors text textLong rdd readMany waits opn place built builtMany parts partMany taken calls lacks callMany total values told toldLong) (fun _ => rfl) (fun f10 hf => ?_)
        refine g_aload_n X dX10_adapterFor_105 0 rfl rfl ?_
        refine g_get X (v := .ref (a 1)) 0 0 dX10_adapterFor_106 rfl rfl iw_X10_adapterFor_X10 (by decide) fl_X10_adapterFor_7 rfl ?_
        refine g_bipush X dX10_adapterFor_109 (by decide +kernel) ?_
        refine g_dup2 X dX10_adapterFor_111 rfl rfl ?_
        refine g_iald X hf (by decide) 1 0 dX10_adapterFor_112 rfl rfl (fun v11 hf => ?_)
        refine g_iconst X dX10_adapterFor_113 ?_
        refine g_iadd X dX10_adapterFor_114 ?_
        refine g_iast X hf (by decide) 1 0 dX10_adapterFor_115 rfl rfl (fun f12 => c10 K a f12 saved savedMany errors text textLong rdd readMany waits opn place built builtMany parts partMany taken calls lacks callMany total values told toldLong) (fun _ => rfl) (fun f12 hf => ?_)
        refine g_aload_n X dX10_adapterFor_116 0 rfl rfl ?_
        refine g_get X (v := .ref (a 1)) 0 0 dX10_adapterFor_117 rfl rfl iw_X10_adapterFor_X10 (by decide) fl_X10_adapterFor_7 rfl ?_
        refine g_bipush X dX10_adapterFor_120 (by decide +kernel) ?_
        refine g_iald X hf (by decide) 1 0 dX10_adapterFor_122 rfl rfl (fun v13 hf => ?_)
        refine g_iconst X dX10_adapterFor_123 ?_
        refine g_isub X dX10_adapterFor_124 ?_
        cases hf
        exact g_iret X hr hlk dX10_adapterFor_125
      · refine g_iload_n X dX10_adapterFor_40 2 rfl rfl ?_
        cases hf
        exact g_iret X hr hlk dX10_adapterFor_41
    · refine g_icmp_ne X hf 35 dX10_adapterFor_19 (by decide) (fun hf => ?_) (fun hf => ?_)
      · refine g_aload_n X dX10_adapterFor_22 1 rfl rfl ?_
        refine g_get X (v := .ref (a 1)) 0 0 dX10_adapterFor_23 rfl rfl iw_X10_adapterFor_X10 (by decide) fl_X10_adapterFor_7 rfl ?_
        refine g_bipush X dX10_adapterFor_26 (by decide +kernel) ?_
        refine g_iald X hf (by decide) 1 0 dX10_adapterFor_28 rfl rfl (fun v14 hf => ?_)
        refine g_iconst X dX10_adapterFor_29 ?_
        refine g_icmp_ne X hf 35 dX10_adapterFor_30 (by decide) (fun hf => ?_) (fun hf => ?_)
        · refine g_iconst X dX10_adapterFor_33 ?_
          cases hf
          exact g_iret X hr hlk dX10_adapterFor_34
        · refine g_sub (lv' := [(0, .ref (a 0)), (1, ii p1), (2, ii v1)]) [1, 2, 0] rfl ?_
          exact hj5 () hf
      · refine g_sub (lv' := [(0, .ref (a 0)), (1, ii p1), (2, ii v1)]) [1, 2, 0] rfl ?_
        exact hj5 () hf
set_option maxHeartbeats 4000000 in
set_option maxRecDepth 100000 in
theorem X10_adapterFor_ok (K : KE) (l : Launch) (a : Nat → Nat) (all : Arr) (saved : Arr) (savedMany : Int) (errors : Arr) (text : Arr) (textLong : Int) (rdd : Arr) (readMany : Int) (waits : Arr) (opn : Int) (place : Int) (built : Arr) (builtMany : Int) (parts : Arr) (partMany : Int) (taken : Arr) (calls : Arr) (lacks : Arr) (callMany : Int) (total : Int) (values : Arr) (told : Arr) (toldLong : Int) (p1 : Int) (res : Int × Arr) (hf : X10_adapterFor all p1 = some res) : CT l K.1 vwCl (kT K) yX10_adapterFor wsX10_adapterFor rmX10_adapterFor [.ref (a 0), ii p1] (some (ii res.1)) (c10 K a all saved savedMany errors text textLong rdd readMany waits opn place built builtMany parts partMany taken calls lacks callMany total values told toldLong) (c10 K a res.2 saved savedMany errors text textLong rdd readMany waits opn place built builtMany parts partMany taken calls lacks callMany total values told toldLong) :=
  CT.mk (cc := cX10_adapterFor) (maxL := 5) (ret := (some .int)) (by decide) rfl (Nat.le_of_ble_eq_true rfl) (fun p e s m below meth c X hr hlk => X10_adapterFor_go K l a _ X hr hlk all saved savedMany errors text textLong rdd readMany waits opn place built builtMany parts partMany taken calls lacks callMany total values told toldLong p1 res hf)
theorem iw_X10_treats_X10 : ∀ w ∈ u_ws RX10 TX10 23, w ∈ wsX10_treats := by decide +kernel
theorem fl_X10_treats_7 : Cond.fieldLink RX10 7 (TX10 0).1 (TX10 0).2.1 (TX10 0).2.2.1 ∈ wsX10_treats := by decide +kernel
def rmX10_treats : Room := { frames := 4, cells := 0, slots := 0, locals := 95 }
def X10_treats (all : Arr) (built : Arr) (builtMany : Int) (parts : Arr) (partMany : Int) (taken : Arr) (total : Int) (p1 : Int) : Option (Int × Arr × Arr × Int × Arr × Int × Arr × Int) := (X10_which p1).bind (fun v1 => (X10_kind p1).bind (fun v3 => brEQ v3 3 ((X10_arguments p1).bind (fun v5 => rdK 186 all ((0 + (7 * v1)) + 0) (fun v7 => ltK (fun q8 : Int × Arr => rdK 186 q8.2 ((179 + q8.1) - 1) (fun v10 => wrK 186 q8.2 ((179 + q8.1) - 1) (v10 + 1) (fun f11 => (X10_putsCall built builtMany parts partMany p1).bind (fun w12 => some (0, f11, w12.1, w12.2.1, w12.2.2.1, w12.2.2.2, taken, total))))) (fun j9 => brEQ v5 v7 ((X10_newOf all v1).bind (fun v14 => ltK (fun q16 : Int => ltK (fun q18 : Unit => (X10_adapterFor all v1).bind (fun w20 => brEQ w20.1 (-1) (ltK (fun q22 : Int => j9 (q22, w20.2)) (fun j23 => brEQ q16 0 (j23 2) (j23 3))) ((X10_arguments p1).bind (fun v24 => (X10_node 5 w20.1 v24).bind (fun v26 => (X10_putsCall built builtMany parts partMany v26).bind (fun w28 => some (1, w20.2, w28.1, w28.2.1, w28.2.2.1, w28.2.2.2, taken, total))))))) (fun j19 => brEQ q16 0 (j19 ()) ((X10_isTrue all v1).bind (fun v30 => brEQ v30 0 (j19 ()) ((X10_reason all built parts partMany total p1).bind (fun v32 => brEQ v32 0 ((X10_becomesNew all built builtMany parts partMany taken total p1).bind (fun w34 => some (1, all, w34.1, w34.2.1, w34.2.2.1, w34.2.2.2.1, w34.2.2.2.2.1, w34.2.2.2.2.2))) (j9 (v32, all)))))))) (fun j17 => brEQ v14 (-1) (j17 0) (j17 1)))) (j9 (1, all)))))) ((X10_putsCall built builtMany parts partMany p1).bind (fun w36 => some (0, all, w36.1, w36.2.1, w36.2.2.1, w36.2.2.2, taken, total)))))
set_option maxHeartbeats 4000000 in
set_option maxRecDepth 100000 in
theorem X10_treats_go (K : KE) (l : Launch) (a : Nat → Nat) (WC : va_W) {p : Program} {e : Env} {s : State} {m : MethodId} {args : Array Value} {below : List Frame} {meth : Method} {c : Code} (X : CX p s m args c K.1 vwCl (kT K) (va_A WC s.heap.size) cX10_treats 6 wsX10_treats RX10) (hr : meth.sig.returnType = (some .int)) (hlk : meth.locks = false) (all : Arr) (saved : Arr) (savedMany : Int) (errors : Arr) (text : Arr) (textLong : Int) (rdd : Arr) (readMany : Int) (waits : Arr) (opn : Int) (place : Int) (built : Arr) (builtMany : Int) (parts : Arr) (partMany : Int) (taken : Arr) (calls : Arr) (lacks : Arr) (callMany : Int) (total : Int) (values : Arr) (told : Arr) (toldLong : Int) (p1 : Int) (res : Int × Arr × Arr × Int × Arr × Int × Arr × Int) (hf : X10_treats all built builtMany parts partMany taken total p1 = some res) : GO p l e rmX10_treats s m args below meth c K.1 vwCl (va_A WC s.heap.size) (MQ below (QC K.1 vwCl (some (ii res.1)) WC (c10 K a res.2.1 saved savedMany errors text textLong rdd readMany waits opn place res.2.2.1 res.2.2.2.1 res.2.2.2.2.1 res.2.2.2.2.2.1 res.2.2.2.2.2.2.1 calls lacks callMany res.2.2.2.2.2.2.2 values told toldLong) s.heap.size) args s 0 0 (va_A WC s.heap.size)) 6 0 0 0 [(0, .ref (a 0)), (1, ii p1)] [] (c10 K a all saved savedMany errors text textLong rdd readMany waits opn place built builtMany parts partMany taken calls lacks callMany total values told toldLong) := by
  rw [X10_treats] at hf
  refine g_iload_n X dX10_treats_0 1 rfl rfl ?_
  obtain ⟨v1, hc2, hf⟩ := Option.bind_eq_some_iff.mp hf
  refine g_callS X (As := [ii p1]) (st := []) (st1 := [ii v1]) (ws' := c10 K a all saved savedMany errors text textLong rdd readMany waits opn place built builtMany parts partMany taken calls lacks callMany total values told toldLong) (X10_which_ok K l p1 v1 hc2) gX10_treats_X10_which rfl 1 (by decide +kernel) ⟨rfl, rfl⟩ ⟨Nat.le_of_ble_eq_true rfl, Nat.le_of_ble_eq_true rfl⟩ ⟨Nat.zero_le _, Nat.zero_le _⟩ rfl rfl (Nat.le_of_ble_eq_true rfl) dX10_treats_1 SG.none rfl ?_
  refine g_istore_n X (lv' := [(2, ii v1), (0, .ref (a 0)), (1, ii p1)]) dX10_treats_4 rfl (by decide) rfl ?_
  refine g_iload_n X dX10_treats_5 2 rfl rfl ?_
  obtain ⟨v3, hc4, hf⟩ := Option.bind_eq_some_iff.mp hf
  refine g_callS X (As := [ii p1]) (st := []) (st1 := [ii v3]) (ws' := c10 K a all saved savedMany errors text textLong rdd readMany waits opn place built builtMany parts partMany taken calls lacks callMany total values told toldLong) (X10_kind_ok K l p1 v3 hc4) gX10_treats_X10_kind rfl 1 (by decide +kernel) ⟨rfl, rfl⟩ ⟨Nat.le_of_ble_eq_true rfl, Nat.le_of_ble_eq_true rfl⟩ ⟨Nat.zero_le _, Nat.zero_le _⟩ rfl rfl (Nat.le_of_ble_eq_true rfl) dX10_treats_6 SG.none rfl ?_
  refine g_iconst X dX10_treats_9 ?_
  refine g_icmp_eq X hf 20 dX10_treats_10 (by decide) (fun hf => ?_) (fun hf => ?_)
  · refine g_iconst X dX10_treats_20 ?_
    refine g_istore_n X (lv' := [(3, ii 1), (2, ii v1), (0, .ref (a 0)), (1, ii p1)]) dX10_treats_21 rfl (by decide) rfl ?_
    refine g_iload_n X dX10_treats_22 3 rfl rfl ?_
    obtain ⟨v5, hc6, hf⟩ := Option.bind_eq_some_iff.mp hf
    refine g_callS X (As := [ii p1]) (st := []) (st1 := [ii v5]) (ws' := c10 K a all saved savedMany errors text textLong rdd readMany waits opn place built builtMany parts partMany taken calls lacks callMany total values told toldLong) (X10_arguments_ok K l p1 v5 hc6) gX10_treats_X10_arguments rfl 1 (by decide +kernel) ⟨rfl, rfl⟩ ⟨Nat.le_of_ble_eq_true rfl, Nat.le_of_ble_eq_true rfl⟩ ⟨Nat.zero_le _, Nat.zero_le _⟩ rfl rfl (Nat.le_of_ble_eq_true rfl) dX10_treats_23 SG.none rfl ?_
    refine g_aload_n X dX10_treats_26 2 rfl rfl ?_
    refine g_get X (v := .ref (a 1)) 0 0 dX10_treats_27 rfl rfl iw_X10_treats_X10 (by decide) fl_X10_treats_7 rfl ?_
    refine g_iconst X dX10_treats_30 ?_
    refine g_bipush X dX10_treats_31 (by decide +kernel) ?_
    refine g_iload_n X dX10_treats_33 1 rfl rfl ?_
    refine g_imul X dX10_treats_34 ?_
    refine g_iadd X dX10_treats_35 ?_
    refine g_iconst X dX10_treats_36 ?_
    refine g_iadd X dX10_treats_37 ?_
    refine g_iald X hf (by decide) 1 0 dX10_treats_38 rfl rfl (fun v7 hf => ?_)
    refine g_let (G := fun q8 : Int × Arr => GO p l e rmX10_treats s m args below meth c K.1 vwCl (va_A WC s.heap.size) (MQ below (QC K.1 vwCl (some (ii res.1)) WC (c10 K a res.2.1 saved savedMany errors text textLong rdd readMany waits opn place res.2.2.1 res.2.2.2.1 res.2.2.2.2.1 res.2.2.2.2.2.1 res.2.2.2.2.2.2.1 calls lacks callMany res.2.2.2.2.2.2.2 values told toldLong) s.heap.size) args s 0 0 (va_A WC s.heap.size)) 6 0 0 131 [(0, .ref (a 0)), (1, ii p1), (3, ii q8.1)] [] (c10 K a q8.2 saved savedMany errors text textLong rdd readMany waits opn place built builtMany parts partMany taken calls lacks callMany total values told toldLong)) hf (fun q8 hf => ?_) (fun j9 hj9 hf => ?_)
    · refine g_aload_n X dX10_treats_131 0 rfl rfl ?_
      refine g_get X (v := .ref (a 1)) 0 0 dX10_treats_132 rfl rfl iw_X10_treats_X10 (by decide) fl_X10_treats_7 rfl ?_
      refine g_sipush X dX10_treats_135 (by decide +kernel) ?_
      refine g_iload_n X dX10_treats_138 2 rfl rfl ?_
      refine g_iadd X dX10_treats_139 ?_
      refine g_iconst X dX10_treats_140 ?_
      refine g_isub X dX10_treats_141 ?_
      refine g_dup2 X dX10_treats_142 rfl rfl ?_
      refine g_iald X hf (by decide) 1 0 dX10_treats_143 rfl rfl (fun v10 hf => ?_)
      refine g_iconst X dX10_treats_144 ?_
      refine g_iadd X dX10_treats_145 ?_
      refine g_iast X hf (by decide) 1 0 dX10_treats_146 rfl rfl (fun f11 => c10 K a f11 saved savedMany errors text textLong rdd readMany waits opn place built builtMany parts partMany taken calls lacks callMany total values told toldLong) (fun _ => rfl) (fun f11 hf => ?_)
      refine g_aload_n X dX10_treats_147 0 rfl rfl ?_
      refine g_iload_n X dX10_treats_148 1 rfl rfl ?_
      obtain ⟨w12, hc13, hf⟩ := Option.bind_eq_some_iff.mp hf
      refine g_callV X (As := [ii p1]) (st := []) (st1 := []) (ws' := c10 K a f11 saved savedMany errors text textLong rdd readMany waits opn place w12.1 w12.2.1 w12.2.2.1 w12.2.2.2 taken calls lacks callMany total values told toldLong) (X10_putsCall_ok K l a f11 saved savedMany errors text textLong rdd readMany waits opn place built builtMany parts partMany taken calls lacks callMany total values told toldLong p1 w12 hc13) gX10_treats_X10_putsCall rfl 1 (by decide +kernel) ⟨rfl, rfl⟩ ⟨Nat.le_of_ble_eq_true rfl, Nat.le_of_ble_eq_true rfl⟩ ⟨Nat.zero_le _, Nat.zero_le _⟩ 0 rfl rfl rfl rfl (Nat.le_of_ble_eq_true rfl) dX10_treats_149 (SG.all rfl) rfl ?_
      refine g_iconst X dX10_treats_152 ?_
      cases hf
      exact g_iret X hr hlk dX10_treats_153
    · refine g_icmp_ne X hf 131 dX10_treats_39 (by decide) (fun hf => ?_) (fun hf => ?_)
      · refine g_aload_n X dX10_treats_42 2 rfl rfl ?_
        refine g_iload_n X dX10_treats_43 1 rfl rfl ?_
        obtain ⟨v14, hc15, hf⟩ := Option.bind_eq_some_iff.mp hf
        refine g_callV X (As := [ii v1]) (st := []) (st1 := [ii v14]) (ws' := c10 K a all saved savedMany errors text textLong rdd readMany waits opn place built builtMany parts partMany taken calls lacks callMany total values told toldLong) (X10_newOf_ok K l a all saved savedMany errors text textLong rdd readMany waits opn place built builtMany parts partMany taken calls lacks callMany total values told toldLong v1 v14 hc15) gX10_treats_X10_newOf rfl 1 (by decide +kernel) ⟨rfl, rfl⟩ ⟨Nat.le_of_ble_eq_true rfl, Nat.le_of_ble_eq_true rfl⟩ ⟨Nat.zero_le _, Nat.zero_le _⟩ 0 rfl rfl rfl rfl (Nat.le_of_ble_eq_true rfl) dX10_treats_44 (SG.all rfl) rfl ?_
        refine g_iconst X dX10_treats_47 ?_
        refine g_let (G := fun q16 : Int => GO p l e rmX10_treats s m args below meth c K.1 vwCl (va_A WC s.heap.size) (MQ below (QC K.1 vwCl (some (ii res.1)) WC (c10 K a res.2.1 saved savedMany errors text textLong rdd readMany waits opn place res.2.2.1 res.2.2.2.1 res.2.2.2.2.1 res.2.2.2.2.2.1 res.2.2.2.2.2.2.1 calls lacks callMany res.2.2.2.2.2.2.2 values told toldLong) s.heap.size) args s 0 0 (va_A WC s.heap.size)) 6 0 0 56 [(0, .ref (a 0)), (1, ii p1), (2, ii v1)] [ii q16] (c10 K a all saved savedMany errors text textLong rdd readMany waits opn place built builtMany parts partMany taken calls lacks callMany total values told toldLong)) hf (fun q16 hf => ?_) (fun j17 hj17 hf => ?_)
        · refine g_istore X (lv' := [(4, ii q16), (0, .ref (a 0)), (1, ii p1), (2, ii v1)]) dX10_treats_56 (by decide) rfl ?_
          refine g_iload X dX10_treats_58 0 rfl ?_
          refine g_let (G := fun q18 : Unit => GO p l e rmX10_treats s m args below meth c K.1 vwCl (va_A WC s.heap.size) (MQ below (QC K.1 vwCl (some (ii res.1)) WC (c10 K a res.2.1 saved savedMany errors text textLong rdd readMany waits opn place res.2.2.1 res.2.2.2.1 res.2.2.2.2.1 res.2.2.2.2.2.1 res.2.2.2.2.2.2.1 calls lacks callMany res.2.2.2.2.2.2.2 values told toldLong) s.heap.size) args s 0 0 (va_A WC s.heap.size)) 6 0 0 71 [(0, .ref (a 0)), (1, ii p1), (2, ii v1), (4, ii q16)] [] (c10 K a all saved savedMany errors text textLong rdd readMany waits opn place built builtMany parts partMany taken calls lacks callMany total values told toldLong)) hf (fun q18 hf => ?_) (fun j19 hj19 hf => ?_)
          · refine g_aload_n X dX10_treats_71 0 rfl rfl ?_
            refine g_iload_n X dX10_treats_72 2 rfl rfl ?_
            obtain ⟨w20, hc21, hf⟩ := Option.bind_eq_some_iff.mp hf
            refine g_callV X (As := [ii v1]) (st := []) (st1 := [ii w20.1]) (ws' := c10 K a w20.2 saved savedMany errors text textLong rdd readMany waits opn place built builtMany parts partMany taken calls lacks callMany total values told toldLong) (X10_adapterFor_ok K l a all saved savedMany errors text textLong rdd readMany waits opn place built builtMany parts partMany taken calls lacks callMany total values told toldLong v1 w20 hc21) gX10_treats_X10_adapterFor rfl 1 (by decide +kernel) ⟨rfl, rfl⟩ ⟨Nat.le_of_ble_eq_true rfl, Nat.le_of_ble_eq_true rfl⟩ ⟨Nat.zero_le _, Nat.zero_le _⟩ 0 rfl rfl rfl rfl (Nat.le_of_ble_eq_true rfl) dX10_treats_73 (SG.all rfl) rfl ?_
            refine g_istore X (lv' := [(5, ii w20.1), (0, .ref (a 0)), (1, ii p1), (2, ii v1), (4, ii q16)]) dX10_treats_76 (by decide) rfl ?_
            refine g_iload X dX10_treats_78 0 rfl ?_
            refine g_iconst X dX10_treats_80 ?_
            refine g_icmp_eq X hf 100 dX10_treats_81 (by decide) (fun hf => ?_) (fun hf => ?_)
            · refine g_iload X dX10_treats_100 4 rfl ?_
              refine g_let (G := fun q22 : Int => GO p l e rmX10_treats s m args below meth c K.1 vwCl (va_A WC s.heap.size) (MQ below (QC K.1 vwCl (some (ii res.1)) WC (c10 K a res.2.1 saved savedMany errors text textLong rdd readMany waits opn place res.2.2.1 res.2.2.2.1 res.2.2.2.2.1 res.2.2.2.2.2.1 res.2.2.2.2.2.2.1 calls lacks callMany res.2.2.2.2.2.2.2 values told toldLong) s.heap.size) args s 0 0 (va_A WC s.heap.size)) 6 0 0 110 [(0, .ref (a 0)), (1, ii p1)] [ii q22] (c10 K a w20.2 saved savedMany errors text textLong rdd readMany waits opn place built builtMany parts partMany taken calls lacks callMany total values told toldLong)) hf (fun q22 hf => ?_) (fun j23 hj23 hf => ?_)
              · refine g_istore_n X (lv' := [(3, ii q22), (0, .ref (a 0)), (1, ii p1)]) dX10_treats_110 rfl (by decide) rfl ?_
                refine g_goto X 131 dX10_treats_111 (by decide) ?_
                refine g_sub (lv' := [(0, .ref (a 0)), (1, ii p1), (3, ii q22)]) [1, 2, 0] rfl ?_
                exact hj9 (q22, w20.2) hf
              · refine g_if_eq X hf 109 dX10_treats_102 (by decide) (fun hf => ?_) (fun hf => ?_)
                · refine g_iconst X dX10_treats_109 ?_
                  refine g_sub (lv' := [(0, .ref (a 0)), (1, ii p1)]) [1, 2] rfl ?_
                  exact hj23 2 hf
                · refine g_iconst X dX10_treats_105 ?_
                  refine g_goto X 110 dX10_treats_106 (by decide) ?_
                  refine g_sub (lv' := [(0, .ref (a 0)), (1, ii p1)]) [1, 2] rfl ?_
                  exact hj23 3 hf
            · refine g_aload_n X dX10_treats_84 1 rfl rfl ?_
              refine g_iconst X dX10_treats_85 ?_
              refine g_iload X dX10_treats_86 0 rfl ?_
              refine g_iload_n X dX10_treats_88 2 rfl rfl ?_
              obtain ⟨v24, hc25, hf⟩ := Option.bind_eq_some_iff.mp hf
              refine g_callS X (As := [ii p1]) (st := [ii w20.1, ii 5, .ref (a 0)]) (st1 := [ii v24, ii w20.1, ii 5, .ref (a 0)]) (ws' := c10 K a w20.2 saved savedMany errors text textLong rdd readMany waits opn place built builtMany parts partMany taken calls lacks callMany total values told toldLong) (X10_arguments_ok K l p1 v24 hc25) gX10_treats_X10_arguments rfl 1 (by decide +kernel) ⟨rfl, rfl⟩ ⟨Nat.le_of_ble_eq_true rfl, Nat.le_of_ble_eq_true rfl⟩ ⟨Nat.zero_le _, Nat.zero_le _⟩ rfl rfl (Nat.le_of_ble_eq_true rfl) dX10_treats_89 SG.none rfl ?_
              obtain ⟨v26, hc27, hf⟩ := Option.bind_eq_some_iff.mp hf
              refine g_callS X (As := [ii 5, ii w20.1, ii v24]) (st := [.ref (a 0)]) (st1 := [ii v26, .ref (a 0)]) (ws' := c10 K a w20.2 saved savedMany errors text textLong rdd readMany waits opn place built builtMany parts partMany taken calls lacks callMany total values told toldLong) (X10_node_ok K l 5 w20.1 v24 v26 hc27) gX10_treats_X10_node rfl 3 (by decide +kernel) ⟨rfl, rfl⟩ ⟨Nat.le_of_ble_eq_true rfl, Nat.le_of_ble_eq_true rfl⟩ ⟨Nat.zero_le _, Nat.zero_le _⟩ rfl rfl (Nat.le_of_ble_eq_true rfl) dX10_treats_92 SG.none rfl ?_
              obtain ⟨w28, hc29, hf⟩ := Option.bind_eq_some_iff.mp hf
              refine g_callV X (As := [ii v26]) (st := []) (st1 := []) (ws' := c10 K a w20.2 saved savedMany errors text textLong rdd readMany waits opn place w28.1 w28.2.1 w28.2.2.1 w28.2.2.2 taken calls lacks callMany total values told toldLong) (X10_putsCall_ok K l a w20.2 saved savedMany errors text textLong rdd readMany waits opn place built builtMany parts partMany taken calls lacks callMany total values told toldLong v26 w28 hc29) gX10_treats_X10_putsCall rfl 1 (by decide +kernel) ⟨rfl, rfl⟩ ⟨Nat.le_of_ble_eq_true rfl, Nat.le_of_ble_eq_true rfl⟩ ⟨Nat.zero_le _, Nat.zero_le _⟩ 0 rfl rfl rfl rfl (Nat.le_of_ble_eq_true rfl) dX10_treats_95 (SG.all rfl) rfl ?_
              refine g_iconst X dX10_treats_98 ?_
              cases hf
              exact g_iret X hr hlk dX10_treats_99
          · refine g_if_eq X hf 71 dX10_treats_60 (by decide) (fun hf => ?_) (fun hf => ?_)
            · refine g_sub (lv' := [(0, .ref (a 0)), (1, ii p1), (2, ii v1), (4, ii q16)]) [1, 2, 3, 0] rfl ?_
              exact hj19 () hf
            · refine g_aload_n X dX10_treats_63 1 rfl rfl ?_
              refine g_iload_n X dX10_treats_64 3 rfl rfl ?_
              obtain ⟨v30, hc31, hf⟩ := Option.bind_eq_some_iff.mp hf
              refine g_callV X (As := [ii v1]) (st := []) (st1 := [ii v30]) (ws' := c10 K a all saved savedMany errors text textLong rdd readMany waits opn place built builtMany parts partMany taken calls lacks callMany total values told toldLong) (X10_isTrue_ok K l a all saved savedMany errors text textLong rdd readMany waits opn place built builtMany parts partMany taken calls lacks callMany total values told toldLong v1 v30 hc31) gX10_treats_X10_isTrue rfl 1 (by decide +kernel) ⟨rfl, rfl⟩ ⟨Nat.le_of_ble_eq_true rfl, Nat.le_of_ble_eq_true rfl⟩ ⟨Nat.zero_le _, Nat.zero_le _⟩ 0 rfl rfl rfl rfl (Nat.le_of_ble_eq_true rfl) dX10_treats_65 (SG.all rfl) rfl ?_
              refine g_if_ne X hf 114 dX10_treats_68 (by decide) (fun hf => ?_) (fun hf => ?_)
              · refine g_sub (lv' := [(0, .ref (a 0)), (1, ii p1), (2, ii v1), (4, ii q16)]) [1, 2, 3, 0] rfl ?_
                exact hj19 () hf
              · refine g_aload_n X dX10_treats_114 1 rfl rfl ?_
                refine g_iload_n X dX10_treats_115 2 rfl rfl ?_
                obtain ⟨v32, hc33, hf⟩ := Option.bind_eq_some_iff.mp hf
                refine g_callV X (As := [ii p1]) (st := []) (st1 := [ii v32]) (ws' := c10 K a all saved savedMany errors text textLong rdd readMany waits opn place built builtMany parts partMany taken calls lacks callMany total values told toldLong) (X10_reason_ok K l a all saved savedMany errors text textLong rdd readMany waits opn place built builtMany parts partMany taken calls lacks callMany total values told toldLong p1 v32 hc33) gX10_treats_X10_reason rfl 1 (by decide +kernel) ⟨rfl, rfl⟩ ⟨Nat.le_of_ble_eq_true rfl, Nat.le_of_ble_eq_true rfl⟩ ⟨Nat.zero_le _, Nat.zero_le _⟩ 0 rfl rfl rfl rfl (Nat.le_of_ble_eq_true rfl) dX10_treats_116 (SG.all rfl) rfl ?_
                refine g_istore_n X (lv' := [(3, ii v32), (4, ii q16), (0, .ref (a 0)), (1, ii p1), (2, ii v1)]) dX10_treats_119 rfl (by decide) rfl ?_
                refine g_iload_n X dX10_treats_120 0 rfl rfl ?_
                refine g_if_ne X hf 131 dX10_treats_121 (by decide) (fun hf => ?_) (fun hf => ?_)
                · refine g_aload_n X dX10_treats_124 2 rfl rfl ?_
                  refine g_iload_n X dX10_treats_125 3 rfl rfl ?_
                  obtain ⟨w34, hc35, hf⟩ := Option.bind_eq_some_iff.mp hf
                  refine g_callV X (As := [ii p1]) (st := []) (st1 := []) (ws' := c10 K a all saved savedMany errors text textLong rdd readMany waits opn place w34.1 w34.2.1 w34.2.2.1 w34.2.2.2.1 w34.2.2.2.2.1 calls lacks callMany w34.2.2.2.2.2 values told toldLong) (X10_becomesNew_ok K l a all saved savedMany errors text textLong rdd readMany waits opn place built builtMany parts partMany taken calls lacks callMany total values told toldLong p1 w34 hc35) gX10_treats_X10_becomesNew rfl 1 (by decide +kernel) ⟨rfl, rfl⟩ ⟨Nat.le_of_ble_eq_true rfl, Nat.le_of_ble_eq_true rfl⟩ ⟨Nat.zero_le _, Nat.zero_le _⟩ 0 rfl rfl rfl rfl (Nat.le_of_ble_eq_true rfl) dX10_treats_126 (SG.all rfl) rfl ?_
                  refine g_iconst X dX10_treats_129 ?_
                  cases hf
                  exact g_iret X hr hlk dX10_treats_130
                · refine g_sub (lv' := [(0, .ref (a 0)), (1, ii p1), (3, ii v32)]) [2, 3, 0] rfl ?_
                  exact hj9 (v32, all) hf
        · refine g_icmp_eq X hf 55 dX10_treats_48 (by decide) (fun hf => ?_) (fun hf => ?_)
          · refine g_iconst X dX10_treats_55 ?_
            refine g_sub (lv' := [(0, .ref (a 0)), (1, ii p1), (2, ii v1)]) [2, 3, 1] rfl ?_
            exact hj17 0 hf
          · refine g_iconst X dX10_treats_51 ?_
            refine g_goto X 56 dX10_treats_52 (by decide) ?_
            refine g_sub (lv' := [(0, .ref (a 0)), (1, ii p1), (2, ii v1)]) [2, 3, 1] rfl ?_
            exact hj17 1 hf
      · refine g_sub (lv' := [(0, .ref (a 0)), (1, ii p1), (3, ii 1)]) [2, 3, 0] rfl ?_
        exact hj9 (1, all) hf
  · refine g_aload_n X dX10_treats_13 1 rfl rfl ?_
    refine g_iload_n X dX10_treats_14 2 rfl rfl ?_
    obtain ⟨w36, hc37, hf⟩ := Option.bind_eq_some_iff.mp hf
    refine g_callV X (As := [ii p1]) (st := []) (st1 := []) (ws' := c10 K a all saved savedMany errors text textLong rdd readMany waits opn place w36.1 w36.2.1 w36.2.2.1 w36.2.2.2 taken calls lacks callMany total values told toldLong) (X10_putsCall_ok K l a all saved savedMany errors text textLong rdd readMany waits opn place built builtMany parts partMany taken calls lacks callMany total values told toldLong p1 w36 hc37) gX10_treats_X10_putsCall rfl 1 (by decide +kernel) ⟨rfl, rfl⟩ ⟨Nat.le_of_ble_eq_true rfl, Nat.le_of_ble_eq_true rfl⟩ ⟨Nat.zero_le _, Nat.zero_le _⟩ 0 rfl rfl rfl rfl (Nat.le_of_ble_eq_true rfl) dX10_treats_15 (SG.all rfl) rfl ?_
    refine g_iconst X dX10_treats_18 ?_
    cases hf
    exact g_iret X hr hlk dX10_treats_19
set_option maxHeartbeats 4000000 in
set_option maxRecDepth 100000 in
theorem X10_treats_ok (K : KE) (l : Launch) (a : Nat → Nat) (all : Arr) (saved : Arr) (savedMany : Int) (errors : Arr) (text : Arr) (textLong : Int) (rdd : Arr) (readMany : Int) (waits : Arr) (opn : Int) (place : Int) (built : Arr) (builtMany : Int) (parts : Arr) (partMany : Int) (taken : Arr) (calls : Arr) (lacks : Arr) (callMany : Int) (total : Int) (values : Arr) (told : Arr) (toldLong : Int) (p1 : Int) (res : Int × Arr × Arr × Int × Arr × Int × Arr × Int) (hf : X10_treats all built builtMany parts partMany taken total p1 = some res) : CT l K.1 vwCl (kT K) yX10_treats wsX10_treats rmX10_treats [.ref (a 0), ii p1] (some (ii res.1)) (c10 K a all saved savedMany errors text textLong rdd readMany waits opn place built builtMany parts partMany taken calls lacks callMany total values told toldLong) (c10 K a res.2.1 saved savedMany errors text textLong rdd readMany waits opn place res.2.2.1 res.2.2.2.1 res.2.2.2.2.1 res.2.2.2.2.2.1 res.2.2.2.2.2.2.1 calls lacks callMany res.2.2.2.2.2.2.2 values told toldLong) :=
  CT.mk (cc := cX10_treats) (maxL := 6) (ret := (some .int)) (by decide) rfl (Nat.le_of_ble_eq_true rfl) (fun p e s m below meth c X hr hlk => X10_treats_go K l a _ X hr hlk all saved savedMany errors text textLong rdd readMany waits opn place built builtMany parts partMany taken calls lacks callMany total values told toldLong p1 res hf)
def rmX10_treatsLeaf : Room := { frames := 5, cells := 0, slots := 0, locals := 120 }
def X10_treatsLeaf (all : Arr) (built : Arr) (builtMany : Int) (parts : Arr) (partMany : Int) (taken : Arr) (total : Int) (p1 : Int) : Option (Int × Arr × Arr × Int × Arr × Int × Arr × Int) := (X10_treats all built builtMany parts partMany taken total p1).bind (fun w1 => some (w1.1, w1.2.1, w1.2.2.1, w1.2.2.2.1, w1.2.2.2.2.1, w1.2.2.2.2.2.1, w1.2.2.2.2.2.2.1, w1.2.2.2.2.2.2.2))
set_option maxHeartbeats 4000000 in
set_option maxRecDepth 100000 in
theorem X10_treatsLeaf_go (K : KE) (l : Launch) (a : Nat → Nat) (WC : va_W) {p : Program} {e : Env} {s : State} {m : MethodId} {args : Array Value} {below : List Frame} {meth : Method} {c : Code} (X : CX p s m args c K.1 vwCl (kT K) (va_A WC s.heap.size) cX10_treatsLeaf 2 wsX10_treatsLeaf RX10) (hr : meth.sig.returnType = (some .int)) (hlk : meth.locks = false) (all : Arr) (saved : Arr) (savedMany : Int) (errors : Arr) (text : Arr) (textLong : Int) (rdd : Arr) (readMany : Int) (waits : Arr) (opn : Int) (place : Int) (built : Arr) (builtMany : Int) (parts : Arr) (partMany : Int) (taken : Arr) (calls : Arr) (lacks : Arr) (callMany : Int) (total : Int) (values : Arr) (told : Arr) (toldLong : Int) (p1 : Int) (res : Int × Arr × Arr × Int × Arr × Int × Arr × Int) (hf : X10_treatsLeaf all built builtMany parts partMany taken total p1 = some res) : GO p l e rmX10_treatsLeaf s m args below meth c K.1 vwCl (va_A WC s.heap.size) (MQ below (QC K.1 vwCl (some (ii res.1)) WC (c10 K a res.2.1 saved savedMany errors text textLong rdd readMany waits opn place res.2.2.1 res.2.2.2.1 res.2.2.2.2.1 res.2.2.2.2.2.1 res.2.2.2.2.2.2.1 calls lacks callMany res.2.2.2.2.2.2.2 values told toldLong) s.heap.size) args s 0 0 (va_A WC s.heap.size)) 2 0 0 0 [(0, .ref (a 0)), (1, ii p1)] [] (c10 K a all saved savedMany errors text textLong rdd readMany waits opn place built builtMany parts partMany taken calls lacks callMany total values told toldLong) := by
  rw [X10_treatsLeaf] at hf
  refine g_aload_n X dX10_treatsLeaf_0 0 rfl rfl ?_
  refine g_iload_n X dX10_treatsLeaf_1 1 rfl rfl ?_
  obtain ⟨w1, hc2, hf⟩ := Option.bind_eq_some_iff.mp hf
  refine g_callV X (As := [ii p1]) (st := []) (st1 := [ii w1.1]) (ws' := c10 K a w1.2.1 saved savedMany errors text textLong rdd readMany waits opn place w1.2.2.1 w1.2.2.2.1 w1.2.2.2.2.1 w1.2.2.2.2.2.1 w1.2.2.2.2.2.2.1 calls lacks callMany w1.2.2.2.2.2.2.2 values told toldLong) (X10_treats_ok K l a all saved savedMany errors text textLong rdd readMany waits opn place built builtMany parts partMany taken calls lacks callMany total values told toldLong p1 w1 hc2) gX10_treatsLeaf_X10_treats rfl 1 (by decide +kernel) ⟨rfl, rfl⟩ ⟨Nat.le_of_ble_eq_true rfl, Nat.le_of_ble_eq_true rfl⟩ ⟨Nat.zero_le _, Nat.zero_le _⟩ 0 rfl rfl rfl rfl (Nat.le_of_ble_eq_true rfl) dX10_treatsLeaf_2 (SG.all rfl) rfl ?_
  cases hf
  exact g_iret X hr hlk dX10_treatsLeaf_5
set_option maxHeartbeats 4000000 in
set_option maxRecDepth 100000 in
theorem X10_treatsLeaf_ok (K : KE) (l : Launch) (a : Nat → Nat) (all : Arr) (saved : Arr) (savedMany : Int) (errors : Arr) (text : Arr) (textLong : Int) (rdd : Arr) (readMany : Int) (waits : Arr) (opn : Int) (place : Int) (built : Arr) (builtMany : Int) (parts : Arr) (partMany : Int) (taken : Arr) (calls : Arr) (lacks : Arr) (callMany : Int) (total : Int) (values : Arr) (told : Arr) (toldLong : Int) (p1 : Int) (res : Int × Arr × Arr × Int × Arr × Int × Arr × Int) (hf : X10_treatsLeaf all built builtMany parts partMany taken total p1 = some res) : CT l K.1 vwCl (kT K) yX10_treatsLeaf wsX10_treatsLeaf rmX10_treatsLeaf [.ref (a 0), ii p1] (some (ii res.1)) (c10 K a all saved savedMany errors text textLong rdd readMany waits opn place built builtMany parts partMany taken calls lacks callMany total values told toldLong) (c10 K a res.2.1 saved savedMany errors text textLong rdd readMany waits opn place res.2.2.1 res.2.2.2.1 res.2.2.2.2.1 res.2.2.2.2.2.1 res.2.2.2.2.2.2.1 calls lacks callMany res.2.2.2.2.2.2.2 values told toldLong) :=
  CT.mk (cc := cX10_treatsLeaf) (maxL := 2) (ret := (some .int)) (by decide) rfl (Nat.le_of_ble_eq_true rfl) (fun p e s m below meth c X hr hlk => X10_treatsLeaf_go K l a _ X hr hlk all saved savedMany errors text textLong rdd readMany waits opn place built builtMany parts partMany taken calls lacks callMany total values told toldLong p1 res hf)
theorem iw_X10_treatsOpen_X10 : ∀ w ∈ u_ws RX10 TX10 23, w ∈ wsX10_treatsOpen := by decide +kernel
theorem fl_X10_treatsOpen_207 : Cond.fieldLink RX10 207 (TX10 18).1 (TX10 18).2.1 (TX10 18).2.2.1 ∈ wsX10_treatsOpen := by decide +kernel
theorem fl_X10_treatsOpen_40 : Cond.fieldLink RX10 40 (TX10 17).1 (TX10 17).2.1 (TX10 17).2.2.1 ∈ wsX10_treatsOpen := by decide +kernel
theorem fl_X10_treatsOpen_37 : Cond.fieldLink RX10 37 (TX10 16).1 (TX10 16).2.1 (TX10 16).2.2.1 ∈ wsX10_treatsOpen := by decide +kernel
def rmX10_treatsOpen : Room := { frames := 5, cells := 0, slots := 0, locals := 120 }
def X10_treatsOpen_L15 (kx : Int → Arr → Arr → Int → Arr → Int → Arr → Arr → Int → Int → Option (Int × Arr × Arr × Int × Arr × Int × Arr × Arr × Int × Int)) (calls : Arr) : Nat → Int → Int → Arr → Arr → Int → Arr → Int → Arr → Arr → Int → Int → Option (Int × Arr × Arr × Int × Arr × Int × Arr × Arr × Int × Int)
  | 0, _, _, _, _, _, _, _, _, _, _, _ => none
  | n + 1, y1, y2, all, built, builtMany, parts, partMany, taken, lacks, callMany, total => brEQ y2 0 (kx y1 all built builtMany parts partMany taken lacks callMany total) (rdK 30 lacks (callMany - 1) (fun v3 => wrK 30 lacks (callMany - 1) (v3 - 1) (fun f4 => rdK 30 f4 (callMany - 1) (fun v5 => ltK (fun q6 : Int => brEQ q6 0 (X10_treatsOpen_L15 kx calls n y1 q6 all built builtMany parts partMany taken f4 callMany total) (rdK 30 calls (callMany - 1) (fun v8 => (X10_treats all built builtMany parts partMany taken total v8).bind (fun w9 => ltK (fun q11 : Int => X10_treatsOpen_L15 kx calls n (y1 + w9.1) q11 w9.2.1 w9.2.2.1 w9.2.2.2.1 w9.2.2.2.2.1 w9.2.2.2.2.2.1 w9.2.2.2.2.2.2.1 f4 (callMany - 1) w9.2.2.2.2.2.2.2) (fun j12 => brLE (callMany - 1) 0 (j12 0) (j12 1)))))) (fun j7 => brEQ v5 0 (j7 1) (j7 0))))))
def X10_treatsOpen (all : Arr) (built : Arr) (builtMany : Int) (parts : Arr) (partMany : Int) (taken : Arr) (calls : Arr) (lacks : Arr) (callMany : Int) (total : Int) : Option (Int × Arr × Arr × Int × Arr × Int × Arr × Arr × Int × Int) := ltK (fun q1 : Int => X10_treatsOpen_L15 (fun w13 w14 w15 w16 w17 w18 w19 w20 w21 w22 => some (w13, w14, w15, w16, w17, w18, w19, w20, w21, w22)) calls FU 0 q1 all built builtMany parts partMany taken lacks callMany total) (fun j2 => brLE callMany 0 (j2 0) (j2 1))
set_option maxHeartbeats 4000000 in
set_option maxRecDepth 100000 in
theorem X10_treatsOpen_L15_ok (K : KE) (l : Launch) (a : Nat → Nat) (WC : va_W) {p : Program} {e : Env} {s : State} {m : MethodId} {args : Array Value} {below : List Frame} {meth : Method} {c : Code} (X : CX p s m args c K.1 vwCl (kT K) (va_A WC s.heap.size) cX10_treatsOpen 3 wsX10_treatsOpen RX10) (hr : meth.sig.returnType = (some .int)) (hlk : meth.locks = false) (saved : Arr) (savedMany : Int) (errors : Arr) (text : Arr) (textLong : Int) (rdd : Arr) (readMany : Int) (waits : Arr) (opn : Int) (place : Int) (calls : Arr) (values : Arr) (told : Arr) (toldLong : Int)  (res : Int × Arr × Arr × Int × Arr × Int × Arr × Arr × Int × Int) {kx : Int → Arr → Arr → Int → Arr → Int → Arr → Arr → Int → Int → Option (Int × Arr × Arr × Int × Arr × Int × Arr × Arr × Int × Int)} : ∀ (n : Nat) (y1 : Int) (y2 : Int) (all : Arr) (built : Arr) (builtMany : Int) (parts : Arr) (partMany : Int) (taken : Arr) (lacks : Arr) (callMany : Int) (total : Int), X10_treatsOpen_L15 kx calls n y1 y2 all built builtMany parts partMany taken lacks callMany total = some res → (∀ (z1 : Int) (allz : Arr) (builtz : Arr) (builtManyz : Int) (partsz : Arr) (partManyz : Int) (takenz : Arr) (lacksz : Arr) (callManyz : Int) (totalz : Int), kx z1 allz builtz builtManyz partsz partManyz takenz lacksz callManyz totalz = some res → GO p l e rmX10_treatsOpen s m args below meth c K.1 vwCl (va_A WC s.heap.size) (MQ below (QC K.1 vwCl (some (ii res.1)) WC (c10 K a res.2.1 saved savedMany errors text textLong rdd readMany waits opn place res.2.2.1 res.2.2.2.1 res.2.2.2.2.1 res.2.2.2.2.2.1 res.2.2.2.2.2.2.1 calls res.2.2.2.2.2.2.2.1 res.2.2.2.2.2.2.2.2.1 res.2.2.2.2.2.2.2.2.2 values told toldLong) s.heap.size) args s 0 0 (va_A WC s.heap.size)) 3 0 0 100 [(1, ii z1)] [] (c10 K a allz saved savedMany errors text textLong rdd readMany waits opn place builtz builtManyz partsz partManyz takenz calls lacksz callManyz totalz values told toldLong)) → GO p l e rmX10_treatsOpen s m args below meth c K.1 vwCl (va_A WC s.heap.size) (MQ below (QC K.1 vwCl (some (ii res.1)) WC (c10 K a res.2.1 saved savedMany errors text textLong rdd readMany waits opn place res.2.2.1 res.2.2.2.1 res.2.2.2.2.1 res.2.2.2.2.2.1 res.2.2.2.2.2.2.1 calls res.2.2.2.2.2.2.2.1 res.2.2.2.2.2.2.2.2.1 res.2.2.2.2.2.2.2.2.2 values told toldLong) s.heap.size) args s 0 0 (va_A WC s.heap.size)) 3 0 0 15 [(0, .ref (a 0)), (1, ii y1), (2, ii y2)] [] (c10 K a all saved savedMany errors text textLong rdd readMany waits opn place built builtMany parts partMany taken calls lacks callMany total values told toldLong) := by
  intro n
  induction n with
  | zero =>
    intro y1 y2 all built builtMany parts partMany taken lacks callMany total hf _
    rw [X10_treatsOpen_L15] at hf
    cases hf
  | succ n ih =>
    intro y1 y2 all built builtMany parts partMany taken lacks callMany total hf hk
    rw [X10_treatsOpen_L15] at hf
    refine g_iload_n X dX10_treatsOpen_15 2 rfl rfl ?_
    refine g_if_eq X hf 100 dX10_treatsOpen_16 (by decide) (fun hf => ?_) (fun hf => ?_)
    · refine g_sub (lv' := [(1, ii y1)]) [1] rfl ?_
      exact hk y1 all built builtMany parts partMany taken lacks callMany total hf
    · refine g_aload_n X dX10_treatsOpen_19 0 rfl rfl ?_
      refine g_get X (v := .ref (a 11)) 0 17 dX10_treatsOpen_20 rfl rfl iw_X10_treatsOpen_X10 (by decide) fl_X10_treatsOpen_40 rfl ?_
      refine g_aload_n X dX10_treatsOpen_23 0 rfl rfl ?_
      refine g_get X (v := ii callMany) 0 18 dX10_treatsOpen_24 rfl rfl iw_X10_treatsOpen_X10 (by decide) fl_X10_treatsOpen_207 rfl ?_
      refine g_iconst X dX10_treatsOpen_27 ?_
      refine g_isub X dX10_treatsOpen_28 ?_
      refine g_dup2 X dX10_treatsOpen_29 rfl rfl ?_
      refine g_iald X hf (by decide) 11 0 dX10_treatsOpen_30 rfl rfl (fun v3 hf => ?_)
      refine g_iconst X dX10_treatsOpen_31 ?_
      refine g_isub X dX10_treatsOpen_32 ?_
      refine g_iast X hf (by decide) 11 0 dX10_treatsOpen_33 rfl rfl (fun f4 => c10 K a all saved savedMany errors text textLong rdd readMany waits opn place built builtMany parts partMany taken calls f4 callMany total values told toldLong) (fun _ => rfl) (fun f4 hf => ?_)
      refine g_aload_n X dX10_treatsOpen_34 0 rfl rfl ?_
      refine g_get X (v := .ref (a 11)) 0 17 dX10_treatsOpen_35 rfl rfl iw_X10_treatsOpen_X10 (by decide) fl_X10_treatsOpen_40 rfl ?_
      refine g_aload_n X dX10_treatsOpen_38 0 rfl rfl ?_
      refine g_get X (v := ii callMany) 0 18 dX10_treatsOpen_39 rfl rfl iw_X10_treatsOpen_X10 (by decide) fl_X10_treatsOpen_207 rfl ?_
      refine g_iconst X dX10_treatsOpen_42 ?_
      refine g_isub X dX10_treatsOpen_43 ?_
      refine g_iald X hf (by decide) 11 0 dX10_treatsOpen_44 rfl rfl (fun v5 hf => ?_)
      refine g_let (G := fun q6 : Int => GO p l e rmX10_treatsOpen s m args below meth c K.1 vwCl (va_A WC s.heap.size) (MQ below (QC K.1 vwCl (some (ii res.1)) WC (c10 K a res.2.1 saved savedMany errors text textLong rdd readMany waits opn place res.2.2.1 res.2.2.2.1 res.2.2.2.2.1 res.2.2.2.2.2.1 res.2.2.2.2.2.2.1 calls res.2.2.2.2.2.2.2.1 res.2.2.2.2.2.2.2.2.1 res.2.2.2.2.2.2.2.2.2 values told toldLong) s.heap.size) args s 0 0 (va_A WC s.heap.size)) 3 0 0 53 [(0, .ref (a 0)), (1, ii y1)] [ii q6] (c10 K a all saved savedMany errors text textLong rdd readMany waits opn place built builtMany parts partMany taken calls f4 callMany total values told toldLong)) hf (fun q6 hf => ?_) (fun j7 hj7 hf => ?_)
      · refine g_istore_n X (lv' := [(2, ii q6), (0, .ref (a 0)), (1, ii y1)]) dX10_treatsOpen_53 rfl (by decide) rfl ?_
        refine g_iload_n X dX10_treatsOpen_54 0 rfl rfl ?_
        refine g_if_eq X hf 15 dX10_treatsOpen_55 (by decide) (fun hf => ?_) (fun hf => ?_)
        · refine g_sub (lv' := [(0, .ref (a 0)), (1, ii y1), (2, ii q6)]) [1, 2, 0] rfl ?_
          exact ih y1 q6 all built builtMany parts partMany taken f4 callMany total hf hk
        · refine g_aload_n X dX10_treatsOpen_58 1 rfl rfl ?_
          refine g_dup X dX10_treatsOpen_59 rfl ?_
          refine g_get X (v := ii callMany) 0 18 dX10_treatsOpen_60 rfl rfl iw_X10_treatsOpen_X10 (by decide) fl_X10_treatsOpen_207 rfl ?_
          refine g_iconst X dX10_treatsOpen_63 ?_
          refine g_isub X dX10_treatsOpen_64 ?_
          refine g_puti X 0 18 dX10_treatsOpen_65 rfl rfl iw_X10_treatsOpen_X10 tyX10_ok nmX10 (by decide) fl_X10_treatsOpen_207 rfl rfl (Nat.le_of_ble_eq_true rfl) (ws' := c10 K a all saved savedMany errors text textLong rdd readMany waits opn place built builtMany parts partMany taken calls f4 (callMany - 1) total values told toldLong) rfl ?_
          refine g_iload_n X dX10_treatsOpen_68 2 rfl rfl ?_
          refine g_aload_n X dX10_treatsOpen_69 1 rfl rfl ?_
          refine g_aload_n X dX10_treatsOpen_70 1 rfl rfl ?_
          refine g_get X (v := .ref (a 10)) 0 16 dX10_treatsOpen_71 rfl rfl iw_X10_treatsOpen_X10 (by decide) fl_X10_treatsOpen_37 rfl ?_
          refine g_aload_n X dX10_treatsOpen_74 1 rfl rfl ?_
          refine g_get X (v := ii (callMany - 1)) 0 18 dX10_treatsOpen_75 rfl rfl iw_X10_treatsOpen_X10 (by decide) fl_X10_treatsOpen_207 rfl ?_
          refine g_iald X hf (by decide) 10 0 dX10_treatsOpen_78 rfl rfl (fun v8 hf => ?_)
          obtain ⟨w9, hc10, hf⟩ := Option.bind_eq_some_iff.mp hf
          refine g_callV X (As := [ii v8]) (st := [ii y1]) (st1 := [ii w9.1, ii y1]) (ws' := c10 K a w9.2.1 saved savedMany errors text textLong rdd readMany waits opn place w9.2.2.1 w9.2.2.2.1 w9.2.2.2.2.1 w9.2.2.2.2.2.1 w9.2.2.2.2.2.2.1 calls f4 (callMany - 1) w9.2.2.2.2.2.2.2 values told toldLong) (X10_treats_ok K l a all saved savedMany errors text textLong rdd readMany waits opn place built builtMany parts partMany taken calls f4 (callMany - 1) total values told toldLong v8 w9 hc10) gX10_treatsOpen_X10_treats rfl 1 (by decide +kernel) ⟨rfl, rfl⟩ ⟨Nat.le_of_ble_eq_true rfl, Nat.le_of_ble_eq_true rfl⟩ ⟨Nat.zero_le _, Nat.zero_le _⟩ 0 rfl rfl rfl rfl (Nat.le_of_ble_eq_true rfl) dX10_treatsOpen_79 (SG.all rfl) rfl ?_
          refine g_iadd X dX10_treatsOpen_82 ?_
          refine g_istore_n X (lv' := [(1, ii (y1 + w9.1)), (2, ii q6), (0, .ref (a 0))]) dX10_treatsOpen_83 rfl (by decide) rfl ?_
          refine g_aload_n X dX10_treatsOpen_84 2 rfl rfl ?_
          refine g_get X (v := ii (callMany - 1)) 0 18 dX10_treatsOpen_85 rfl rfl iw_X10_treatsOpen_X10 (by decide) fl_X10_treatsOpen_207 rfl ?_
          refine g_let (G := fun q11 : Int => GO p l e rmX10_treatsOpen s m args below meth c K.1 vwCl (va_A WC s.heap.size) (MQ below (QC K.1 vwCl (some (ii res.1)) WC (c10 K a res.2.1 saved savedMany errors text textLong rdd readMany waits opn place res.2.2.1 res.2.2.2.1 res.2.2.2.2.1 res.2.2.2.2.2.1 res.2.2.2.2.2.2.1 calls res.2.2.2.2.2.2.2.1 res.2.2.2.2.2.2.2.2.1 res.2.2.2.2.2.2.2.2.2 values told toldLong) s.heap.size) args s 0 0 (va_A WC s.heap.size)) 3 0 0 96 [(0, .ref (a 0)), (1, ii (y1 + w9.1))] [ii q11] (c10 K a w9.2.1 saved savedMany errors text textLong rdd readMany waits opn place w9.2.2.1 w9.2.2.2.1 w9.2.2.2.2.1 w9.2.2.2.2.2.1 w9.2.2.2.2.2.2.1 calls f4 (callMany - 1) w9.2.2.2.2.2.2.2 values told toldLong)) hf (fun q11 hf => ?_) (fun j12 hj12 hf => ?_)
          · refine g_istore_n X (lv' := [(2, ii q11), (0, .ref (a 0)), (1, ii (y1 + w9.1))]) dX10_treatsOpen_96 rfl (by decide) rfl ?_
            refine g_goto X 15 dX10_treatsOpen_97 (by decide) ?_
            refine g_sub (lv' := [(0, .ref (a 0)), (1, ii (y1 + w9.1)), (2, ii q11)]) [1, 2, 0] rfl ?_
            exact ih (y1 + w9.1) q11 w9.2.1 w9.2.2.1 w9.2.2.2.1 w9.2.2.2.2.1 w9.2.2.2.2.2.1 w9.2.2.2.2.2.2.1 f4 (callMany - 1) w9.2.2.2.2.2.2.2 hf hk
          · refine g_if_le X hf 95 dX10_treatsOpen_88 (by decide) (fun hf => ?_) (fun hf => ?_)
            · refine g_iconst X dX10_treatsOpen_95 ?_
              refine g_sub (lv' := [(0, .ref (a 0)), (1, ii (y1 + w9.1))]) [2, 0] rfl ?_
              exact hj12 0 hf
            · refine g_iconst X dX10_treatsOpen_91 ?_
              refine g_goto X 96 dX10_treatsOpen_92 (by decide) ?_
              refine g_sub (lv' := [(0, .ref (a 0)), (1, ii (y1 + w9.1))]) [2, 0] rfl ?_
              exact hj12 1 hf
      · refine g_if_ne X hf 52 dX10_treatsOpen_45 (by decide) (fun hf => ?_) (fun hf => ?_)
        · refine g_iconst X dX10_treatsOpen_48 ?_
          refine g_goto X 53 dX10_treatsOpen_49 (by decide) ?_
          refine g_sub (lv' := [(0, .ref (a 0)), (1, ii y1)]) [0, 1] rfl ?_
          exact hj7 1 hf
        · refine g_iconst X dX10_treatsOpen_52 ?_
          refine g_sub (lv' := [(0, .ref (a 0)), (1, ii y1)]) [0, 1] rfl ?_
          exact hj7 0 hf
set_option maxHeartbeats 4000000 in
set_option maxRecDepth 100000 in
theorem X10_treatsOpen_go (K : KE) (l : Launch) (a : Nat → Nat) (WC : va_W) {p : Program} {e : Env} {s : State} {m : MethodId} {args : Array Value} {below : List Frame} {meth : Method} {c : Code} (X : CX p s m args c K.1 vwCl (kT K) (va_A WC s.heap.size) cX10_treatsOpen 3 wsX10_treatsOpen RX10) (hr : meth.sig.returnType = (some .int)) (hlk : meth.locks = false) (all : Arr) (saved : Arr) (savedMany : Int) (errors : Arr) (text : Arr) (textLong : Int) (rdd : Arr) (readMany : Int) (waits : Arr) (opn : Int) (place : Int) (built : Arr) (builtMany : Int) (parts : Arr) (partMany : Int) (taken : Arr) (calls : Arr) (lacks : Arr) (callMany : Int) (total : Int) (values : Arr) (told : Arr) (toldLong : Int) (res : Int × Arr × Arr × Int × Arr × Int × Arr × Arr × Int × Int) (hf : X10_treatsOpen all built builtMany parts partMany taken calls lacks callMany total = some res) : GO p l e rmX10_treatsOpen s m args below meth c K.1 vwCl (va_A WC s.heap.size) (MQ below (QC K.1 vwCl (some (ii res.1)) WC (c10 K a res.2.1 saved savedMany errors text textLong rdd readMany waits opn place res.2.2.1 res.2.2.2.1 res.2.2.2.2.1 res.2.2.2.2.2.1 res.2.2.2.2.2.2.1 calls res.2.2.2.2.2.2.2.1 res.2.2.2.2.2.2.2.2.1 res.2.2.2.2.2.2.2.2.2 values told toldLong) s.heap.size) args s 0 0 (va_A WC s.heap.size)) 3 0 0 0 [(0, .ref (a 0))] [] (c10 K a all saved savedMany errors text textLong rdd readMany waits opn place built builtMany parts partMany taken calls lacks callMany total values told toldLong) := by
  rw [X10_treatsOpen] at hf
  refine g_iconst X dX10_treatsOpen_0 ?_
  refine g_istore_n X (lv' := [(1, ii 0), (0, .ref (a 0))]) dX10_treatsOpen_1 rfl (by decide) rfl ?_
  refine g_aload_n X dX10_treatsOpen_2 1 rfl rfl ?_
  refine g_get X (v := ii callMany) 0 18 dX10_treatsOpen_3 rfl rfl iw_X10_treatsOpen_X10 (by decide) fl_X10_treatsOpen_207 rfl ?_
  refine g_let (G := fun q1 : Int => GO p l e rmX10_treatsOpen s m args below meth c K.1 vwCl (va_A WC s.heap.size) (MQ below (QC K.1 vwCl (some (ii res.1)) WC (c10 K a res.2.1 saved savedMany errors text textLong rdd readMany waits opn place res.2.2.1 res.2.2.2.1 res.2.2.2.2.1 res.2.2.2.2.2.1 res.2.2.2.2.2.2.1 calls res.2.2.2.2.2.2.2.1 res.2.2.2.2.2.2.2.2.1 res.2.2.2.2.2.2.2.2.2 values told toldLong) s.heap.size) args s 0 0 (va_A WC s.heap.size)) 3 0 0 14 [(0, .ref (a 0)), (1, ii 0)] [ii q1] (c10 K a all saved savedMany errors text textLong rdd readMany waits opn place built builtMany parts partMany taken calls lacks callMany total values told toldLong)) hf (fun q1 hf => ?_) (fun j2 hj2 hf => ?_)
  · refine g_istore_n X (lv' := [(2, ii q1), (0, .ref (a 0)), (1, ii 0)]) dX10_treatsOpen_14 rfl (by decide) rfl ?_
    refine g_sub (lv' := [(0, .ref (a 0)), (1, ii 0), (2, ii q1)]) [1, 2, 0] rfl ?_
    refine X10_treatsOpen_L15_ok K l a WC X hr hlk saved savedMany errors text textLong rdd readMany waits opn place calls values told toldLong res FU 0 q1 all built builtMany parts partMany taken lacks callMany total hf (fun w13 w14 w15 w16 w17 w18 w19 w20 w21 w22 hf => ?_)
    refine g_iload_n X dX10_treatsOpen_100 0 rfl rfl ?_
    cases hf
    exact g_iret X hr hlk dX10_treatsOpen_101
  · refine g_if_le X hf 13 dX10_treatsOpen_6 (by decide) (fun hf => ?_) (fun hf => ?_)
    · refine g_iconst X dX10_treatsOpen_13 ?_
      refine g_sub (lv' := [(0, .ref (a 0)), (1, ii 0)]) [1, 0] rfl ?_
      exact hj2 0 hf
    · refine g_iconst X dX10_treatsOpen_9 ?_
      refine g_goto X 14 dX10_treatsOpen_10 (by decide) ?_
      refine g_sub (lv' := [(0, .ref (a 0)), (1, ii 0)]) [1, 0] rfl ?_
      exact hj2 1 hf
set_option maxHeartbeats 4000000 in
set_option maxRecDepth 100000 in
theorem X10_treatsOpen_ok (K : KE) (l : Launch) (a : Nat → Nat) (all : Arr) (saved : Arr) (savedMany : Int) (errors : Arr) (text : Arr) (textLong : Int) (rdd : Arr) (readMany : Int) (waits : Arr) (opn : Int) (place : Int) (built : Arr) (builtMany : Int) (parts : Arr) (partMany : Int) (taken : Arr) (calls : Arr) (lacks : Arr) (callMany : Int) (total : Int) (values : Arr) (told : Arr) (toldLong : Int) (res : Int × Arr × Arr × Int × Arr × Int × Arr × Arr × Int × Int) (hf : X10_treatsOpen all built builtMany parts partMany taken calls lacks callMany total = some res) : CT l K.1 vwCl (kT K) yX10_treatsOpen wsX10_treatsOpen rmX10_treatsOpen [.ref (a 0)] (some (ii res.1)) (c10 K a all saved savedMany errors text textLong rdd readMany waits opn place built builtMany parts partMany taken calls lacks callMany total values told toldLong) (c10 K a res.2.1 saved savedMany errors text textLong rdd readMany waits opn place res.2.2.1 res.2.2.2.1 res.2.2.2.2.1 res.2.2.2.2.2.1 res.2.2.2.2.2.2.1 calls res.2.2.2.2.2.2.2.1 res.2.2.2.2.2.2.2.2.1 res.2.2.2.2.2.2.2.2.2 values told toldLong) :=
  CT.mk (cc := cX10_treatsOpen) (maxL := 3) (ret := (some .int)) (by decide) rfl (Nat.le_of_ble_eq_true rfl) (fun p e s m below meth c X hr hlk => X10_treatsOpen_go K l a _ X hr hlk all saved savedMany errors text textLong rdd readMany waits opn place built builtMany parts partMany taken calls lacks callMany total values told toldLong res hf)
theorem iw_X10_migrate_X10 : ∀ w ∈ u_ws RX10 TX10 23, w ∈ wsX10_migrate := by decide +kernel
theorem fl_X10_migrate_7 : Cond.fieldLink RX10 7 (TX10 0).1 (TX10 0).2.1 (TX10 0).2.2.1 ∈ wsX10_migrate := by decide +kernel
theorem fl_X10_migrate_185 : Cond.fieldLink RX10 185 (TX10 19).1 (TX10 19).2.1 (TX10 19).2.2.1 ∈ wsX10_migrate := by decide +kernel
theorem fl_X10_migrate_173 : Cond.fieldLink RX10 173 (TX10 12).1 (TX10 12).2.1 (TX10 12).2.2.1 ∈ wsX10_migrate := by decide +kernel
theorem fl_X10_migrate_170 : Cond.fieldLink RX10 170 (TX10 14).1 (TX10 14).2.1 (TX10 14).2.2.1 ∈ wsX10_migrate := by decide +kernel
theorem fl_X10_migrate_31 : Cond.fieldLink RX10 31 (TX10 13).1 (TX10 13).2.1 (TX10 13).2.2.1 ∈ wsX10_migrate := by decide +kernel
theorem fl_X10_migrate_207 : Cond.fieldLink RX10 207 (TX10 18).1 (TX10 18).2.1 (TX10 18).2.2.1 ∈ wsX10_migrate := by decide +kernel
theorem fl_X10_migrate_37 : Cond.fieldLink RX10 37 (TX10 16).1 (TX10 16).2.1 (TX10 16).2.2.1 ∈ wsX10_migrate := by decide +kernel
theorem fl_X10_migrate_40 : Cond.fieldLink RX10 40 (TX10 17).1 (TX10 17).2.1 (TX10 17).2.2.1 ∈ wsX10_migrate := by decide +kernel
theorem fl_X10_migrate_28 : Cond.fieldLink RX10 28 (TX10 11).1 (TX10 11).2.1 (TX10 11).2.2.1 ∈ wsX10_migrate := by decide +kernel
def rmX10_migrate : Room := { frames := 6, cells := 0, slots := 0, locals := 142 }
def X10_migrate_L6 (kx : Arr → Option (Int × Arr × Arr × Int × Arr × Int × Arr × Int × Arr × Arr × Arr × Int × Int)) (saved : Arr) (savedMany : Int) (built : Arr) (builtMany : Int) (parts : Arr) (partMany : Int) (taken : Arr) (calls : Arr) (lacks : Arr) (callMany : Int) (total : Int) : Nat → Int → Arr → Option (Int × Arr × Arr × Int × Arr × Int × Arr × Int × Arr × Arr × Arr × Int × Int)
  | 0, _, _ => none
  | n + 1, y1, all => brLT y1 7 (wrK 186 all (179 + y1) 0 (fun f3 => X10_migrate_L6 kx saved savedMany built builtMany parts partMany taken calls lacks callMany total n (y1 + 1) f3)) (kx all)
def X10_migrate_L67 (kx : Int → Arr → Arr → Int → Arr → Int → Arr → Arr → Arr → Int → Int → Option (Int × Arr × Arr × Int × Arr × Int × Arr × Int × Arr × Arr × Arr × Int × Int)) (saved : Arr) (savedMany : Int) : Nat → Int → Int → Arr → Arr → Int → Arr → Int → Arr → Arr → Arr → Int → Int → Option (Int × Arr × Arr × Int × Arr × Int × Arr × Int × Arr × Arr × Arr × Int × Int)
  | 0, _, _, _, _, _, _, _, _, _, _, _, _ => none
  | n + 1, y1, y2, all, built, builtMany, parts, partMany, taken, calls, lacks, callMany, total => rdK 186 all 148 (fun v7 => brLT y2 v7 (rdK 186 all (149 + y2) (fun v8 => (X10_arguments v8).bind (fun v9 => ltK (fun q11 : Int × Arr × Arr × Int × Arr × Int × Arr × Arr × Arr × Int × Int => X10_migrate_L67 kx saved savedMany n q11.1 (y2 + 1) q11.2.1 q11.2.2.1 q11.2.2.2.1 q11.2.2.2.2.1 q11.2.2.2.2.2.1 q11.2.2.2.2.2.2.1 q11.2.2.2.2.2.2.2.1 q11.2.2.2.2.2.2.2.2.1 q11.2.2.2.2.2.2.2.2.2.1 q11.2.2.2.2.2.2.2.2.2.2) (fun j12 => brLE v9 0 ((X10_treatsLeaf all built builtMany parts partMany taken total v8).bind (fun w13 => (X10_treatsOpen w13.2.1 w13.2.2.1 w13.2.2.2.1 w13.2.2.2.2.1 w13.2.2.2.2.2.1 w13.2.2.2.2.2.2.1 calls lacks callMany w13.2.2.2.2.2.2.2).bind (fun w15 => j12 (((y1 + w13.1) + w15.1), w15.2.1, w15.2.2.1, w15.2.2.2.1, w15.2.2.2.2.1, w15.2.2.2.2.2.1, w15.2.2.2.2.2.2.1, calls, w15.2.2.2.2.2.2.2.1, w15.2.2.2.2.2.2.2.2.1, w15.2.2.2.2.2.2.2.2.2)))) (wrK 30 calls callMany v8 (fun f17 => (X10_arguments v8).bind (fun v18 => wrK 30 lacks callMany v18 (fun f20 => j12 (y1, all, built, builtMany, parts, partMany, taken, f17, f20, (callMany + 1), total))))))))) (kx y1 all built builtMany parts partMany taken calls lacks callMany total))
def X10_migrate_L156 (kx : Arr → Option (Int × Arr × Arr × Int × Arr × Int × Arr × Int × Arr × Arr × Arr × Int × Int)) (saved : Arr) (savedMany : Int) (built : Arr) (builtMany : Int) (parts : Arr) (partMany : Int) (taken : Arr) (calls : Arr) (lacks : Arr) (callMany : Int) (total : Int) (x1 : Int) : Nat → Int → Arr → Option (Int × Arr × Arr × Int × Arr × Int × Arr × Int × Arr × Arr × Arr × Int × Int)
  | 0, _, _ => none
  | n + 1, y2, all => brLT y2 builtMany (rdK 30 built y2 (fun v32 => wrK 186 all (149 + y2) v32 (fun f33 => X10_migrate_L156 kx saved savedMany built builtMany parts partMany taken calls lacks callMany total x1 n (y2 + 1) f33))) (kx all)
def X10_migrate (all : Arr) (saved : Arr) (savedMany : Int) (built : Arr) (builtMany : Int) (parts : Arr) (partMany : Int) (taken : Arr) (calls : Arr) (lacks : Arr) (callMany : Int) (total : Int) : Option (Int × Arr × Arr × Int × Arr × Int × Arr × Int × Arr × Arr × Arr × Int × Int) := (X10_save all saved savedMany).bind (fun w1 => X10_migrate_L6 (fun w4 => rdK 186 w4 148 (fun v5 => wrK 31 parts 0 0 (fun f6 => X10_migrate_L67 (fun w21 w22 w23 w24 w25 w26 w27 w28 w29 w30 w31 => X10_migrate_L156 (fun w34 => wrK 186 w34 148 w24 (fun f35 => some (w21, f35, w1.1, w1.2, w23, w24, w25, w26, w27, w28, w29, w30, w31))) w1.1 w1.2 w23 w24 w25 w26 w27 w28 w29 w30 w31 w21 FU 0 w22) w1.1 w1.2 FU 0 0 w4 built 0 f6 0 taken calls lacks 0 v5))) w1.1 w1.2 built builtMany parts partMany taken calls lacks callMany total FU 0 all)
set_option maxHeartbeats 4000000 in
set_option maxRecDepth 100000 in
theorem X10_migrate_L6_ok (K : KE) (l : Launch) (a : Nat → Nat) (WC : va_W) {p : Program} {e : Env} {s : State} {m : MethodId} {args : Array Value} {below : List Frame} {meth : Method} {c : Code} (X : CX p s m args c K.1 vwCl (kT K) (va_A WC s.heap.size) cX10_migrate 4 wsX10_migrate RX10) (hr : meth.sig.returnType = (some .int)) (hlk : meth.locks = false) (saved : Arr) (savedMany : Int) (errors : Arr) (text : Arr) (textLong : Int) (rdd : Arr) (readMany : Int) (waits : Arr) (opn : Int) (place : Int) (built : Arr) (builtMany : Int) (parts : Arr) (partMany : Int) (taken : Arr) (calls : Arr) (lacks : Arr) (callMany : Int) (total : Int) (values : Arr) (told : Arr) (toldLong : Int)  (res : Int × Arr × Arr × Int × Arr × Int × Arr × Int × Arr × Arr × Arr × Int × Int) {kx : Arr → Option (Int × Arr × Arr × Int × Arr × Int × Arr × Int × Arr × Arr × Arr × Int × Int)} : ∀ (n : Nat) (y1 : Int) (all : Arr), X10_migrate_L6 kx saved savedMany built builtMany parts partMany taken calls lacks callMany total n y1 all = some res → (∀ (allz : Arr), kx allz = some res → GO p l e rmX10_migrate s m args below meth c K.1 vwCl (va_A WC s.heap.size) (MQ below (QC K.1 vwCl (some (ii res.1)) WC (c10 K a res.2.1 res.2.2.1 res.2.2.2.1 errors text textLong rdd readMany waits opn place res.2.2.2.2.1 res.2.2.2.2.2.1 res.2.2.2.2.2.2.1 res.2.2.2.2.2.2.2.1 res.2.2.2.2.2.2.2.2.1 res.2.2.2.2.2.2.2.2.2.1 res.2.2.2.2.2.2.2.2.2.2.1 res.2.2.2.2.2.2.2.2.2.2.2.1 res.2.2.2.2.2.2.2.2.2.2.2.2 values told toldLong) s.heap.size) args s 0 0 (va_A WC s.heap.size)) 4 0 0 29 [(0, .ref (a 0))] [] (c10 K a allz saved savedMany errors text textLong rdd readMany waits opn place built builtMany parts partMany taken calls lacks callMany total values told toldLong)) → GO p l e rmX10_migrate s m args below meth c K.1 vwCl (va_A WC s.heap.size) (MQ below (QC K.1 vwCl (some (ii res.1)) WC (c10 K a res.2.1 res.2.2.1 res.2.2.2.1 errors text textLong rdd readMany waits opn place res.2.2.2.2.1 res.2.2.2.2.2.1 res.2.2.2.2.2.2.1 res.2.2.2.2.2.2.2.1 res.2.2.2.2.2.2.2.2.1 res.2.2.2.2.2.2.2.2.2.1 res.2.2.2.2.2.2.2.2.2.2.1 res.2.2.2.2.2.2.2.2.2.2.2.1 res.2.2.2.2.2.2.2.2.2.2.2.2 values told toldLong) s.heap.size) args s 0 0 (va_A WC s.heap.size)) 4 0 0 6 [(0, .ref (a 0)), (1, ii y1)] [] (c10 K a all saved savedMany errors text textLong rdd readMany waits opn place built builtMany parts partMany taken calls lacks callMany total values told toldLong) := by
  intro n
  induction n with
  | zero =>
    intro y1 all hf _
    rw [X10_migrate_L6] at hf
    cases hf
  | succ n ih =>
    intro y1 all hf hk
    rw [X10_migrate_L6] at hf
    refine g_iload_n X dX10_migrate_6 1 rfl rfl ?_
    refine g_bipush X dX10_migrate_7 (by decide +kernel) ?_
    refine g_icmp_ge X hf 29 dX10_migrate_9 (by decide) (fun hf => ?_) (fun hf => ?_)
    · refine g_aload_n X dX10_migrate_12 0 rfl rfl ?_
      refine g_get X (v := .ref (a 1)) 0 0 dX10_migrate_13 rfl rfl iw_X10_migrate_X10 (by decide) fl_X10_migrate_7 rfl ?_
      refine g_sipush X dX10_migrate_16 (by decide +kernel) ?_
      refine g_iload_n X dX10_migrate_19 1 rfl rfl ?_
      refine g_iadd X dX10_migrate_20 ?_
      refine g_iconst X dX10_migrate_21 ?_
      refine g_iast X hf (by decide) 1 0 dX10_migrate_22 rfl rfl (fun f3 => c10 K a f3 saved savedMany errors text textLong rdd readMany waits opn place built builtMany parts partMany taken calls lacks callMany total values told toldLong) (fun _ => rfl) (fun f3 hf => ?_)
      refine g_iinc X (lv' := [(1, ii (y1 + 1)), (0, .ref (a 0))]) dX10_migrate_23 1 rfl (by decide) rfl ?_
      refine g_goto X 6 dX10_migrate_26 (by decide) ?_
      refine g_sub (lv' := [(0, .ref (a 0)), (1, ii (y1 + 1))]) [1, 0] rfl ?_
      exact ih (y1 + 1) f3 hf hk
    · refine g_sub (lv' := [(0, .ref (a 0))]) [0] rfl ?_
      exact hk all hf
set_option maxHeartbeats 4000000 in
set_option maxRecDepth 100000 in
theorem X10_migrate_L67_ok (K : KE) (l : Launch) (a : Nat → Nat) (WC : va_W) {p : Program} {e : Env} {s : State} {m : MethodId} {args : Array Value} {below : List Frame} {meth : Method} {c : Code} (X : CX p s m args c K.1 vwCl (kT K) (va_A WC s.heap.size) cX10_migrate 4 wsX10_migrate RX10) (hr : meth.sig.returnType = (some .int)) (hlk : meth.locks = false) (saved : Arr) (savedMany : Int) (errors : Arr) (text : Arr) (textLong : Int) (rdd : Arr) (readMany : Int) (waits : Arr) (opn : Int) (place : Int) (values : Arr) (told : Arr) (toldLong : Int)  (res : Int × Arr × Arr × Int × Arr × Int × Arr × Int × Arr × Arr × Arr × Int × Int) {kx : Int → Arr → Arr → Int → Arr → Int → Arr → Arr → Arr → Int → Int → Option (Int × Arr × Arr × Int × Arr × Int × Arr × Int × Arr × Arr × Arr × Int × Int)} : ∀ (n : Nat) (y1 : Int) (y2 : Int) (all : Arr) (built : Arr) (builtMany : Int) (parts : Arr) (partMany : Int) (taken : Arr) (calls : Arr) (lacks : Arr) (callMany : Int) (total : Int), X10_migrate_L67 kx saved savedMany n y1 y2 all built builtMany parts partMany taken calls lacks callMany total = some res → (∀ (z1 : Int) (allz : Arr) (builtz : Arr) (builtManyz : Int) (partsz : Arr) (partManyz : Int) (takenz : Arr) (callsz : Arr) (lacksz : Arr) (callManyz : Int) (totalz : Int), kx z1 allz builtz builtManyz partsz partManyz takenz callsz lacksz callManyz totalz = some res → GO p l e rmX10_migrate s m args below meth c K.1 vwCl (va_A WC s.heap.size) (MQ below (QC K.1 vwCl (some (ii res.1)) WC (c10 K a res.2.1 res.2.2.1 res.2.2.2.1 errors text textLong rdd readMany waits opn place res.2.2.2.2.1 res.2.2.2.2.2.1 res.2.2.2.2.2.2.1 res.2.2.2.2.2.2.2.1 res.2.2.2.2.2.2.2.2.1 res.2.2.2.2.2.2.2.2.2.1 res.2.2.2.2.2.2.2.2.2.2.1 res.2.2.2.2.2.2.2.2.2.2.2.1 res.2.2.2.2.2.2.2.2.2.2.2.2 values told toldLong) s.heap.size) args s 0 0 (va_A WC s.heap.size)) 4 0 0 154 [(0, .ref (a 0)), (1, ii z1)] [] (c10 K a allz saved savedMany errors text textLong rdd readMany waits opn place builtz builtManyz partsz partManyz takenz callsz lacksz callManyz totalz values told toldLong)) → GO p l e rmX10_migrate s m args below meth c K.1 vwCl (va_A WC s.heap.size) (MQ below (QC K.1 vwCl (some (ii res.1)) WC (c10 K a res.2.1 res.2.2.1 res.2.2.2.1 errors text textLong rdd readMany waits opn place res.2.2.2.2.1 res.2.2.2.2.2.1 res.2.2.2.2.2.2.1 res.2.2.2.2.2.2.2.1 res.2.2.2.2.2.2.2.2.1 res.2.2.2.2.2.2.2.2.2.1 res.2.2.2.2.2.2.2.2.2.2.1 res.2.2.2.2.2.2.2.2.2.2.2.1 res.2.2.2.2.2.2.2.2.2.2.2.2 values told toldLong) s.heap.size) args s 0 0 (va_A WC s.heap.size)) 4 0 0 67 [(0, .ref (a 0)), (1, ii y1), (2, ii y2)] [] (c10 K a all saved savedMany errors text textLong rdd readMany waits opn place built builtMany parts partMany taken calls lacks callMany total values told toldLong) := by
  intro n
  induction n with
  | zero =>
    intro y1 y2 all built builtMany parts partMany taken calls lacks callMany total hf _
    rw [X10_migrate_L67] at hf
    cases hf
  | succ n ih =>
    intro y1 y2 all built builtMany parts partMany taken calls lacks callMany total hf hk
    rw [X10_migrate_L67] at hf
    refine g_iload_n X dX10_migrate_67 2 rfl rfl ?_
    refine g_aload_n X dX10_migrate_68 0 rfl rfl ?_
    refine g_get X (v := .ref (a 1)) 0 0 dX10_migrate_69 rfl rfl iw_X10_migrate_X10 (by decide) fl_X10_migrate_7 rfl ?_
    refine g_sipush X dX10_migrate_72 (by decide +kernel) ?_
    refine g_iald X hf (by decide) 1 0 dX10_migrate_75 rfl rfl (fun v7 hf => ?_)
    refine g_icmp_ge X hf 154 dX10_migrate_76 (by decide) (fun hf => ?_) (fun hf => ?_)
    · refine g_aload_n X dX10_migrate_79 0 rfl rfl ?_
      refine g_get X (v := .ref (a 1)) 0 0 dX10_migrate_80 rfl rfl iw_X10_migrate_X10 (by decide) fl_X10_migrate_7 rfl ?_
      refine g_sipush X dX10_migrate_83 (by decide +kernel) ?_
      refine g_iload_n X dX10_migrate_86 2 rfl rfl ?_
      refine g_iadd X dX10_migrate_87 ?_
      refine g_iald X hf (by decide) 1 0 dX10_migrate_88 rfl rfl (fun v8 hf => ?_)
      refine g_istore_n X (lv' := [(3, ii v8), (0, .ref (a 0)), (1, ii y1), (2, ii y2)]) dX10_migrate_89 rfl (by decide) rfl ?_
      refine g_iload_n X dX10_migrate_90 0 rfl rfl ?_
      obtain ⟨v9, hc10, hf⟩ := Option.bind_eq_some_iff.mp hf
      refine g_callS X (As := [ii v8]) (st := []) (st1 := [ii v9]) (ws' := c10 K a all saved savedMany errors text textLong rdd readMany waits opn place built builtMany parts partMany taken calls lacks callMany total values told toldLong) (X10_arguments_ok K l v8 v9 hc10) gX10_migrate_X10_arguments rfl 1 (by decide +kernel) ⟨rfl, rfl⟩ ⟨Nat.le_of_ble_eq_true rfl, Nat.le_of_ble_eq_true rfl⟩ ⟨Nat.zero_le _, Nat.zero_le _⟩ rfl rfl (Nat.le_of_ble_eq_true rfl) dX10_migrate_91 SG.none rfl ?_
      refine g_let (G := fun q11 : Int × Arr × Arr × Int × Arr × Int × Arr × Arr × Arr × Int × Int => GO p l e rmX10_migrate s m args below meth c K.1 vwCl (va_A WC s.heap.size) (MQ below (QC K.1 vwCl (some (ii res.1)) WC (c10 K a res.2.1 res.2.2.1 res.2.2.2.1 errors text textLong rdd readMany waits opn place res.2.2.2.2.1 res.2.2.2.2.2.1 res.2.2.2.2.2.2.1 res.2.2.2.2.2.2.2.1 res.2.2.2.2.2.2.2.2.1 res.2.2.2.2.2.2.2.2.2.1 res.2.2.2.2.2.2.2.2.2.2.1 res.2.2.2.2.2.2.2.2.2.2.2.1 res.2.2.2.2.2.2.2.2.2.2.2.2 values told toldLong) s.heap.size) args s 0 0 (va_A WC s.heap.size)) 4 0 0 148 [(0, .ref (a 0)), (1, ii q11.1), (2, ii y2)] [] (c10 K a q11.2.1 saved savedMany errors text textLong rdd readMany waits opn place q11.2.2.1 q11.2.2.2.1 q11.2.2.2.2.1 q11.2.2.2.2.2.1 q11.2.2.2.2.2.2.1 q11.2.2.2.2.2.2.2.1 q11.2.2.2.2.2.2.2.2.1 q11.2.2.2.2.2.2.2.2.2.1 q11.2.2.2.2.2.2.2.2.2.2 values told toldLong)) hf (fun q11 hf => ?_) (fun j12 hj12 hf => ?_)
      · refine g_iinc X (lv' := [(2, ii (y2 + 1)), (0, .ref (a 0)), (1, ii q11.1)]) dX10_migrate_148 2 rfl (by decide) rfl ?_
        refine g_goto X 67 dX10_migrate_151 (by decide) ?_
        refine g_sub (lv' := [(0, .ref (a 0)), (1, ii q11.1), (2, ii (y2 + 1))]) [1, 2, 0] rfl ?_
        exact ih q11.1 (y2 + 1) q11.2.1 q11.2.2.1 q11.2.2.2.1 q11.2.2.2.2.1 q11.2.2.2.2.2.1 q11.2.2.2.2.2.2.1 q11.2.2.2.2.2.2.2.1 q11.2.2.2.2.2.2.2.2.1 q11.2.2.2.2.2.2.2.2.2.1 q11.2.2.2.2.2.2.2.2.2.2 hf hk
      · refine g_if_le X hf 133 dX10_migrate_94 (by decide) (fun hf => ?_) (fun hf => ?_)
        · refine g_iload_n X dX10_migrate_133 2 rfl rfl ?_
          refine g_aload_n X dX10_migrate_134 1 rfl rfl ?_
          refine g_iload_n X dX10_migrate_135 0 rfl rfl ?_
          obtain ⟨w13, hc14, hf⟩ := Option.bind_eq_some_iff.mp hf
          refine g_callV X (As := [ii v8]) (st := [ii y1]) (st1 := [ii w13.1, ii y1]) (ws' := c10 K a w13.2.1 saved savedMany errors text textLong rdd readMany waits opn place w13.2.2.1 w13.2.2.2.1 w13.2.2.2.2.1 w13.2.2.2.2.2.1 w13.2.2.2.2.2.2.1 calls lacks callMany w13.2.2.2.2.2.2.2 values told toldLong) (X10_treatsLeaf_ok K l a all saved savedMany errors text textLong rdd readMany waits opn place built builtMany parts partMany taken calls lacks callMany total values told toldLong v8 w13 hc14) gX10_migrate_X10_treatsLeaf rfl 1 (by decide +kernel) ⟨rfl, rfl⟩ ⟨Nat.le_of_ble_eq_true rfl, Nat.le_of_ble_eq_true rfl⟩ ⟨Nat.zero_le _, Nat.zero_le _⟩ 0 rfl rfl rfl rfl (Nat.le_of_ble_eq_true rfl) dX10_migrate_136 (SG.all rfl) rfl ?_
          refine g_iadd X dX10_migrate_139 ?_
          refine g_istore_n X (lv' := [(1, ii (y1 + w13.1)), (3, ii v8), (0, .ref (a 0)), (2, ii y2)]) dX10_migrate_140 rfl (by decide) rfl ?_
          refine g_iload_n X dX10_migrate_141 0 rfl rfl ?_
          refine g_aload_n X dX10_migrate_142 2 rfl rfl ?_
          obtain ⟨w15, hc16, hf⟩ := Option.bind_eq_some_iff.mp hf
          refine g_callV X (As := []) (st := [ii (y1 + w13.1)]) (st1 := [ii w15.1, ii (y1 + w13.1)]) (ws' := c10 K a w15.2.1 saved savedMany errors text textLong rdd readMany waits opn place w15.2.2.1 w15.2.2.2.1 w15.2.2.2.2.1 w15.2.2.2.2.2.1 w15.2.2.2.2.2.2.1 calls w15.2.2.2.2.2.2.2.1 w15.2.2.2.2.2.2.2.2.1 w15.2.2.2.2.2.2.2.2.2 values told toldLong) (X10_treatsOpen_ok K l a w13.2.1 saved savedMany errors text textLong rdd readMany waits opn place w13.2.2.1 w13.2.2.2.1 w13.2.2.2.2.1 w13.2.2.2.2.2.1 w13.2.2.2.2.2.2.1 calls lacks callMany w13.2.2.2.2.2.2.2 values told toldLong w15 hc16) gX10_migrate_X10_treatsOpen rfl 0 (by decide +kernel) ⟨rfl, rfl⟩ ⟨Nat.le_of_ble_eq_true rfl, Nat.le_of_ble_eq_true rfl⟩ ⟨Nat.zero_le _, Nat.zero_le _⟩ 0 rfl rfl rfl rfl (Nat.le_of_ble_eq_true rfl) dX10_migrate_143 (SG.all rfl) rfl ?_
          refine g_iadd X dX10_migrate_146 ?_
          refine g_istore_n X (lv' := [(1, ii ((y1 + w13.1) + w15.1)), (3, ii v8), (0, .ref (a 0)), (2, ii y2)]) dX10_migrate_147 rfl (by decide) rfl ?_
          refine g_sub (lv' := [(0, .ref (a 0)), (1, ii ((y1 + w13.1) + w15.1)), (2, ii y2)]) [2, 0, 3] rfl ?_
          exact hj12 (((y1 + w13.1) + w15.1), w15.2.1, w15.2.2.1, w15.2.2.2.1, w15.2.2.2.2.1, w15.2.2.2.2.2.1, w15.2.2.2.2.2.2.1, calls, w15.2.2.2.2.2.2.2.1, w15.2.2.2.2.2.2.2.2.1, w15.2.2.2.2.2.2.2.2.2) hf
        · refine g_aload_n X dX10_migrate_97 1 rfl rfl ?_
          refine g_get X (v := .ref (a 10)) 0 16 dX10_migrate_98 rfl rfl iw_X10_migrate_X10 (by decide) fl_X10_migrate_37 rfl ?_
          refine g_aload_n X dX10_migrate_101 1 rfl rfl ?_
          refine g_get X (v := ii callMany) 0 18 dX10_migrate_102 rfl rfl iw_X10_migrate_X10 (by decide) fl_X10_migrate_207 rfl ?_
          refine g_iload_n X dX10_migrate_105 0 rfl rfl ?_
          refine g_iast X hf (by decide) 10 0 dX10_migrate_106 rfl rfl (fun f17 => c10 K a all saved savedMany errors text textLong rdd readMany waits opn place built builtMany parts partMany taken f17 lacks callMany total values told toldLong) (fun _ => rfl) (fun f17 hf => ?_)
          refine g_aload_n X dX10_migrate_107 1 rfl rfl ?_
          refine g_get X (v := .ref (a 11)) 0 17 dX10_migrate_108 rfl rfl iw_X10_migrate_X10 (by decide) fl_X10_migrate_40 rfl ?_
          refine g_aload_n X dX10_migrate_111 1 rfl rfl ?_
          refine g_get X (v := ii callMany) 0 18 dX10_migrate_112 rfl rfl iw_X10_migrate_X10 (by decide) fl_X10_migrate_207 rfl ?_
          refine g_iload_n X dX10_migrate_115 0 rfl rfl ?_
          obtain ⟨v18, hc19, hf⟩ := Option.bind_eq_some_iff.mp hf
          refine g_callS X (As := [ii v8]) (st := [ii callMany, .ref (a 11)]) (st1 := [ii v18, ii callMany, .ref (a 11)]) (ws' := c10 K a all saved savedMany errors text textLong rdd readMany waits opn place built builtMany parts partMany taken f17 lacks callMany total values told toldLong) (X10_arguments_ok K l v8 v18 hc19) gX10_migrate_X10_arguments rfl 1 (by decide +kernel) ⟨rfl, rfl⟩ ⟨Nat.le_of_ble_eq_true rfl, Nat.le_of_ble_eq_true rfl⟩ ⟨Nat.zero_le _, Nat.zero_le _⟩ rfl rfl (Nat.le_of_ble_eq_true rfl) dX10_migrate_116 SG.none rfl ?_
          refine g_iast X hf (by decide) 11 0 dX10_migrate_119 rfl rfl (fun f20 => c10 K a all saved savedMany errors text textLong rdd readMany waits opn place built builtMany parts partMany taken f17 f20 callMany total values told toldLong) (fun _ => rfl) (fun f20 hf => ?_)
          refine g_aload_n X dX10_migrate_120 1 rfl rfl ?_
          refine g_dup X dX10_migrate_121 rfl ?_
          refine g_get X (v := ii callMany) 0 18 dX10_migrate_122 rfl rfl iw_X10_migrate_X10 (by decide) fl_X10_migrate_207 rfl ?_
          refine g_iconst X dX10_migrate_125 ?_
          refine g_iadd X dX10_migrate_126 ?_
          refine g_puti X 0 18 dX10_migrate_127 rfl rfl iw_X10_migrate_X10 tyX10_ok nmX10 (by decide) fl_X10_migrate_207 rfl rfl (Nat.le_of_ble_eq_true rfl) (ws' := c10 K a all saved savedMany errors text textLong rdd readMany waits opn place built builtMany parts partMany taken f17 f20 (callMany + 1) total values told toldLong) rfl ?_
          refine g_goto X 148 dX10_migrate_130 (by decide) ?_
          refine g_sub (lv' := [(0, .ref (a 0)), (1, ii y1), (2, ii y2)]) [1, 2, 3] rfl ?_
          exact hj12 (y1, all, built, builtMany, parts, partMany, taken, f17, f20, (callMany + 1), total) hf
    · refine g_sub (lv' := [(0, .ref (a 0)), (1, ii y1)]) [0, 1] rfl ?_
      exact hk y1 all built builtMany parts partMany taken calls lacks callMany total hf
set_option maxHeartbeats 4000000 in
set_option maxRecDepth 100000 in
theorem X10_migrate_L156_ok (K : KE) (l : Launch) (a : Nat → Nat) (WC : va_W) {p : Program} {e : Env} {s : State} {m : MethodId} {args : Array Value} {below : List Frame} {meth : Method} {c : Code} (X : CX p s m args c K.1 vwCl (kT K) (va_A WC s.heap.size) cX10_migrate 4 wsX10_migrate RX10) (hr : meth.sig.returnType = (some .int)) (hlk : meth.locks = false) (saved : Arr) (savedMany : Int) (errors : Arr) (text : Arr) (textLong : Int) (rdd : Arr) (readMany : Int) (waits : Arr) (opn : Int) (place : Int) (built : Arr) (builtMany : Int) (parts : Arr) (partMany : Int) (taken : Arr) (calls : Arr) (lacks : Arr) (callMany : Int) (total : Int) (values : Arr) (told : Arr) (toldLong : Int) (x1 : Int) (res : Int × Arr × Arr × Int × Arr × Int × Arr × Int × Arr × Arr × Arr × Int × Int) {kx : Arr → Option (Int × Arr × Arr × Int × Arr × Int × Arr × Int × Arr × Arr × Arr × Int × Int)} : ∀ (n : Nat) (y2 : Int) (all : Arr), X10_migrate_L156 kx saved savedMany built builtMany parts partMany taken calls lacks callMany total x1 n y2 all = some res → (∀ (allz : Arr), kx allz = some res → GO p l e rmX10_migrate s m args below meth c K.1 vwCl (va_A WC s.heap.size) (MQ below (QC K.1 vwCl (some (ii res.1)) WC (c10 K a res.2.1 res.2.2.1 res.2.2.2.1 errors text textLong rdd readMany waits opn place res.2.2.2.2.1 res.2.2.2.2.2.1 res.2.2.2.2.2.2.1 res.2.2.2.2.2.2.2.1 res.2.2.2.2.2.2.2.2.1 res.2.2.2.2.2.2.2.2.2.1 res.2.2.2.2.2.2.2.2.2.2.1 res.2.2.2.2.2.2.2.2.2.2.2.1 res.2.2.2.2.2.2.2.2.2.2.2.2 values told toldLong) s.heap.size) args s 0 0 (va_A WC s.heap.size)) 4 0 0 186 [(0, .ref (a 0)), (1, ii x1)] [] (c10 K a allz saved savedMany errors text textLong rdd readMany waits opn place built builtMany parts partMany taken calls lacks callMany total values told toldLong)) → GO p l e rmX10_migrate s m args below meth c K.1 vwCl (va_A WC s.heap.size) (MQ below (QC K.1 vwCl (some (ii res.1)) WC (c10 K a res.2.1 res.2.2.1 res.2.2.2.1 errors text textLong rdd readMany waits opn place res.2.2.2.2.1 res.2.2.2.2.2.1 res.2.2.2.2.2.2.1 res.2.2.2.2.2.2.2.1 res.2.2.2.2.2.2.2.2.1 res.2.2.2.2.2.2.2.2.2.1 res.2.2.2.2.2.2.2.2.2.2.1 res.2.2.2.2.2.2.2.2.2.2.2.1 res.2.2.2.2.2.2.2.2.2.2.2.2 values told toldLong) s.heap.size) args s 0 0 (va_A WC s.heap.size)) 4 0 0 156 [(0, .ref (a 0)), (1, ii x1), (2, ii y2)] [] (c10 K a all saved savedMany errors text textLong rdd readMany waits opn place built builtMany parts partMany taken calls lacks callMany total values told toldLong) := by
  intro n
  induction n with
  | zero =>
    intro y2 all hf _
    rw [X10_migrate_L156] at hf
    cases hf
  | succ n ih =>
    intro y2 all hf hk
    rw [X10_migrate_L156] at hf
    refine g_iload_n X dX10_migrate_156 2 rfl rfl ?_
    refine g_aload_n X dX10_migrate_157 0 rfl rfl ?_
    refine g_get X (v := ii builtMany) 0 12 dX10_migrate_158 rfl rfl iw_X10_migrate_X10 (by decide) fl_X10_migrate_173 rfl ?_
    refine g_icmp_ge X hf 186 dX10_migrate_161 (by decide) (fun hf => ?_) (fun hf => ?_)
    · refine g_aload_n X dX10_migrate_164 0 rfl rfl ?_
      refine g_get X (v := .ref (a 1)) 0 0 dX10_migrate_165 rfl rfl iw_X10_migrate_X10 (by decide) fl_X10_migrate_7 rfl ?_
      refine g_sipush X dX10_migrate_168 (by decide +kernel) ?_
      refine g_iload_n X dX10_migrate_171 2 rfl rfl ?_
      refine g_iadd X dX10_migrate_172 ?_
      refine g_aload_n X dX10_migrate_173 0 rfl rfl ?_
      refine g_get X (v := .ref (a 7)) 0 11 dX10_migrate_174 rfl rfl iw_X10_migrate_X10 (by decide) fl_X10_migrate_28 rfl ?_
      refine g_iload_n X dX10_migrate_177 2 rfl rfl ?_
      refine g_iald X hf (by decide) 7 0 dX10_migrate_178 rfl rfl (fun v32 hf => ?_)
      refine g_iast X hf (by decide) 1 0 dX10_migrate_179 rfl rfl (fun f33 => c10 K a f33 saved savedMany errors text textLong rdd readMany waits opn place built builtMany parts partMany taken calls lacks callMany total values told toldLong) (fun _ => rfl) (fun f33 hf => ?_)
      refine g_iinc X (lv' := [(2, ii (y2 + 1)), (0, .ref (a 0)), (1, ii x1)]) dX10_migrate_180 2 rfl (by decide) rfl ?_
      refine g_goto X 156 dX10_migrate_183 (by decide) ?_
      refine g_sub (lv' := [(0, .ref (a 0)), (1, ii x1), (2, ii (y2 + 1))]) [1, 2, 0] rfl ?_
      exact ih (y2 + 1) f33 hf hk
    · refine g_sub (lv' := [(0, .ref (a 0)), (1, ii x1)]) [0, 1] rfl ?_
      exact hk all hf
set_option maxHeartbeats 4000000 in
set_option maxRecDepth 100000 in
theorem X10_migrate_go (K : KE) (l : Launch) (a : Nat → Nat) (WC : va_W) {p : Program} {e : Env} {s : State} {m : MethodId} {args : Array Value} {below : List Frame} {meth : Method} {c : Code} (X : CX p s m args c K.1 vwCl (kT K) (va_A WC s.heap.size) cX10_migrate 4 wsX10_migrate RX10) (hr : meth.sig.returnType = (some .int)) (hlk : meth.locks = false) (all : Arr) (saved : Arr) (savedMany : Int) (errors : Arr) (text : Arr) (textLong : Int) (rdd : Arr) (readMany : Int) (waits : Arr) (opn : Int) (place : Int) (built : Arr) (builtMany : Int) (parts : Arr) (partMany : Int) (taken : Arr) (calls : Arr) (lacks : Arr) (callMany : Int) (total : Int) (values : Arr) (told : Arr) (toldLong : Int) (res : Int × Arr × Arr × Int × Arr × Int × Arr × Int × Arr × Arr × Arr × Int × Int) (hf : X10_migrate all saved savedMany built builtMany parts partMany taken calls lacks callMany total = some res) : GO p l e rmX10_migrate s m args below meth c K.1 vwCl (va_A WC s.heap.size) (MQ below (QC K.1 vwCl (some (ii res.1)) WC (c10 K a res.2.1 res.2.2.1 res.2.2.2.1 errors text textLong rdd readMany waits opn place res.2.2.2.2.1 res.2.2.2.2.2.1 res.2.2.2.2.2.2.1 res.2.2.2.2.2.2.2.1 res.2.2.2.2.2.2.2.2.1 res.2.2.2.2.2.2.2.2.2.1 res.2.2.2.2.2.2.2.2.2.2.1 res.2.2.2.2.2.2.2.2.2.2.2.1 res.2.2.2.2.2.2.2.2.2.2.2.2 values told toldLong) s.heap.size) args s 0 0 (va_A WC s.heap.size)) 4 0 0 0 [(0, .ref (a 0))] [] (c10 K a all saved savedMany errors text textLong rdd readMany waits opn place built builtMany parts partMany taken calls lacks callMany total values told toldLong) := by
  rw [X10_migrate] at hf
  refine g_aload_n X dX10_migrate_0 0 rfl rfl ?_
  obtain ⟨w1, hc2, hf⟩ := Option.bind_eq_some_iff.mp hf
  refine g_callV X (As := []) (st := []) (st1 := []) (ws' := c10 K a all w1.1 w1.2 errors text textLong rdd readMany waits opn place built builtMany parts partMany taken calls lacks callMany total values told toldLong) (X10_save_ok K l a all saved savedMany errors text textLong rdd readMany waits opn place built builtMany parts partMany taken calls lacks callMany total values told toldLong w1 hc2) gX10_migrate_X10_save rfl 0 (by decide +kernel) ⟨rfl, rfl⟩ ⟨Nat.le_of_ble_eq_true rfl, Nat.le_of_ble_eq_true rfl⟩ ⟨Nat.zero_le _, Nat.zero_le _⟩ 0 rfl rfl rfl rfl (Nat.le_of_ble_eq_true rfl) dX10_migrate_1 (SG.all rfl) rfl ?_
  refine g_iconst X dX10_migrate_4 ?_
  refine g_istore_n X (lv' := [(1, ii 0), (0, .ref (a 0))]) dX10_migrate_5 rfl (by decide) rfl ?_
  refine g_sub (lv' := [(0, .ref (a 0)), (1, ii 0)]) [1, 0] rfl ?_
  refine X10_migrate_L6_ok K l a WC X hr hlk w1.1 w1.2 errors text textLong rdd readMany waits opn place built builtMany parts partMany taken calls lacks callMany total values told toldLong res FU 0 all hf (fun w4 hf => ?_)
  refine g_aload_n X dX10_migrate_29 0 rfl rfl ?_
  refine g_aload_n X dX10_migrate_30 0 rfl rfl ?_
  refine g_get X (v := .ref (a 1)) 0 0 dX10_migrate_31 rfl rfl iw_X10_migrate_X10 (by decide) fl_X10_migrate_7 rfl ?_
  refine g_sipush X dX10_migrate_34 (by decide +kernel) ?_
  refine g_iald X hf (by decide) 1 0 dX10_migrate_37 rfl rfl (fun v5 hf => ?_)
  refine g_puti X 0 19 dX10_migrate_38 rfl rfl iw_X10_migrate_X10 tyX10_ok nmX10 (by decide) fl_X10_migrate_185 rfl rfl (Nat.le_of_ble_eq_true rfl) (ws' := c10 K a w4 w1.1 w1.2 errors text textLong rdd readMany waits opn place built builtMany parts partMany taken calls lacks callMany v5 values told toldLong) rfl ?_
  refine g_aload_n X dX10_migrate_41 0 rfl rfl ?_
  refine g_iconst X dX10_migrate_42 ?_
  refine g_puti X 0 12 dX10_migrate_43 rfl rfl iw_X10_migrate_X10 tyX10_ok nmX10 (by decide) fl_X10_migrate_173 rfl rfl (Nat.le_of_ble_eq_true rfl) (ws' := c10 K a w4 w1.1 w1.2 errors text textLong rdd readMany waits opn place built 0 parts partMany taken calls lacks callMany v5 values told toldLong) rfl ?_
  refine g_aload_n X dX10_migrate_46 0 rfl rfl ?_
  refine g_iconst X dX10_migrate_47 ?_
  refine g_puti X 0 14 dX10_migrate_48 rfl rfl iw_X10_migrate_X10 tyX10_ok nmX10 (by decide) fl_X10_migrate_170 rfl rfl (Nat.le_of_ble_eq_true rfl) (ws' := c10 K a w4 w1.1 w1.2 errors text textLong rdd readMany waits opn place built 0 parts 0 taken calls lacks callMany v5 values told toldLong) rfl ?_
  refine g_aload_n X dX10_migrate_51 0 rfl rfl ?_
  refine g_get X (v := .ref (a 8)) 0 13 dX10_migrate_52 rfl rfl iw_X10_migrate_X10 (by decide) fl_X10_migrate_31 rfl ?_
  refine g_iconst X dX10_migrate_55 ?_
  refine g_iconst X dX10_migrate_56 ?_
  refine g_iast X hf (by decide) 8 0 dX10_migrate_57 rfl rfl (fun f6 => c10 K a w4 w1.1 w1.2 errors text textLong rdd readMany waits opn place built 0 f6 0 taken calls lacks callMany v5 values told toldLong) (fun _ => rfl) (fun f6 hf => ?_)
  refine g_aload_n X dX10_migrate_58 0 rfl rfl ?_
  refine g_iconst X dX10_migrate_59 ?_
  refine g_puti X 0 18 dX10_migrate_60 rfl rfl iw_X10_migrate_X10 tyX10_ok nmX10 (by decide) fl_X10_migrate_207 rfl rfl (Nat.le_of_ble_eq_true rfl) (ws' := c10 K a w4 w1.1 w1.2 errors text textLong rdd readMany waits opn place built 0 f6 0 taken calls lacks 0 v5 values told toldLong) rfl ?_
  refine g_iconst X dX10_migrate_63 ?_
  refine g_istore_n X (lv' := [(1, ii 0), (0, .ref (a 0))]) dX10_migrate_64 rfl (by decide) rfl ?_
  refine g_iconst X dX10_migrate_65 ?_
  refine g_istore_n X (lv' := [(2, ii 0), (1, ii 0), (0, .ref (a 0))]) dX10_migrate_66 rfl (by decide) rfl ?_
  refine g_sub (lv' := [(0, .ref (a 0)), (1, ii 0), (2, ii 0)]) [2, 1, 0] rfl ?_
  refine X10_migrate_L67_ok K l a WC X hr hlk w1.1 w1.2 errors text textLong rdd readMany waits opn place values told toldLong res FU 0 0 w4 built 0 f6 0 taken calls lacks 0 v5 hf (fun w21 w22 w23 w24 w25 w26 w27 w28 w29 w30 w31 hf => ?_)
  refine g_iconst X dX10_migrate_154 ?_
  refine g_istore_n X (lv' := [(2, ii 0), (0, .ref (a 0)), (1, ii w21)]) dX10_migrate_155 rfl (by decide) rfl ?_
  refine g_sub (lv' := [(0, .ref (a 0)), (1, ii w21), (2, ii 0)]) [1, 2, 0] rfl ?_
  refine X10_migrate_L156_ok K l a WC X hr hlk w1.1 w1.2 errors text textLong rdd readMany waits opn place w23 w24 w25 w26 w27 w28 w29 w30 w31 values told toldLong w21 res FU 0 w22 hf (fun w34 hf => ?_)
  refine g_aload_n X dX10_migrate_186 0 rfl rfl ?_
  refine g_get X (v := .ref (a 1)) 0 0 dX10_migrate_187 rfl rfl iw_X10_migrate_X10 (by decide) fl_X10_migrate_7 rfl ?_
  refine g_sipush X dX10_migrate_190 (by decide +kernel) ?_
  refine g_aload_n X dX10_migrate_193 0 rfl rfl ?_
  refine g_get X (v := ii w24) 0 12 dX10_migrate_194 rfl rfl iw_X10_migrate_X10 (by decide) fl_X10_migrate_173 rfl ?_
  refine g_iast X hf (by decide) 1 0 dX10_migrate_197 rfl rfl (fun f35 => c10 K a f35 w1.1 w1.2 errors text textLong rdd readMany waits opn place w23 w24 w25 w26 w27 w28 w29 w30 w31 values told toldLong) (fun _ => rfl) (fun f35 hf => ?_)
  refine g_iload_n X dX10_migrate_198 1 rfl rfl ?_
  cases hf
  exact g_iret X hr hlk dX10_migrate_199
set_option maxHeartbeats 4000000 in
set_option maxRecDepth 100000 in
theorem X10_migrate_ok (K : KE) (l : Launch) (a : Nat → Nat) (all : Arr) (saved : Arr) (savedMany : Int) (errors : Arr) (text : Arr) (textLong : Int) (rdd : Arr) (readMany : Int) (waits : Arr) (opn : Int) (place : Int) (built : Arr) (builtMany : Int) (parts : Arr) (partMany : Int) (taken : Arr) (calls : Arr) (lacks : Arr) (callMany : Int) (total : Int) (values : Arr) (told : Arr) (toldLong : Int) (res : Int × Arr × Arr × Int × Arr × Int × Arr × Int × Arr × Arr × Arr × Int × Int) (hf : X10_migrate all saved savedMany built builtMany parts partMany taken calls lacks callMany total = some res) : CT l K.1 vwCl (kT K) yX10_migrate wsX10_migrate rmX10_migrate [.ref (a 0)] (some (ii res.1)) (c10 K a all saved savedMany errors text textLong rdd readMany waits opn place built builtMany parts partMany taken calls lacks callMany total values told toldLong) (c10 K a res.2.1 res.2.2.1 res.2.2.2.1 errors text textLong rdd readMany waits opn place res.2.2.2.2.1 res.2.2.2.2.2.1 res.2.2.2.2.2.2.1 res.2.2.2.2.2.2.2.1 res.2.2.2.2.2.2.2.2.1 res.2.2.2.2.2.2.2.2.2.1 res.2.2.2.2.2.2.2.2.2.2.1 res.2.2.2.2.2.2.2.2.2.2.2.1 res.2.2.2.2.2.2.2.2.2.2.2.2 values told toldLong) :=
  CT.mk (cc := cX10_migrate) (maxL := 4) (ret := (some .int)) (by decide) rfl (Nat.le_of_ble_eq_true rfl) (fun p e s m below meth c X hr hlk => X10_migrate_go K l a _ X hr hlk all saved savedMany errors text textLong rdd readMany waits opn place built builtMany parts partMany taken calls lacks callMany total values told toldLong res hf)
theorem wd_X10_left_cl220 : Jvm.Cond.constantLong RX10 220 (7) ∈ wsX10_left := by decide +kernel
theorem iw_X10_left_X10 : ∀ w ∈ u_ws RX10 TX10 23, w ∈ wsX10_left := by decide +kernel
theorem fl_X10_left_7 : Cond.fieldLink RX10 7 (TX10 0).1 (TX10 0).2.1 (TX10 0).2.2.1 ∈ wsX10_left := by decide +kernel
def rmX10_left : Room := { frames := 1, cells := 0, slots := 0, locals := 25 }
def X10_left (all : Arr) (errors : Arr) (p1 : Int) : Option (Int × Arr) := lgK p1 ((X10_in p1 1 7).bind (fun v1 => brEQ v1 0 ((X10_error errors (-2)).bind (fun w3 => some (w3.1, w3.2))) (rdK 186 all ((179 + p1) - 1) (fun v5 => some (v5, errors)))))
set_option maxHeartbeats 4000000 in
set_option maxRecDepth 100000 in
theorem X10_left_go (K : KE) (l : Launch) (a : Nat → Nat) (WC : va_W) {p : Program} {e : Env} {s : State} {m : MethodId} {args : Array Value} {below : List Frame} {meth : Method} {c : Code} (X : CX p s m args c K.1 vwCl (kT K) (va_A WC s.heap.size) cX10_left 2 wsX10_left RX10) (hr : meth.sig.returnType = (some .int)) (hlk : meth.locks = false) (all : Arr) (saved : Arr) (savedMany : Int) (errors : Arr) (text : Arr) (textLong : Int) (rdd : Arr) (readMany : Int) (waits : Arr) (opn : Int) (place : Int) (built : Arr) (builtMany : Int) (parts : Arr) (partMany : Int) (taken : Arr) (calls : Arr) (lacks : Arr) (callMany : Int) (total : Int) (values : Arr) (told : Arr) (toldLong : Int) (p1 : Int) (res : Int × Arr) (hf : X10_left all errors p1 = some res) : GO p l e rmX10_left s m args below meth c K.1 vwCl (va_A WC s.heap.size) (MQ below (QC K.1 vwCl (some (ii res.1)) WC (c10 K a all saved savedMany res.2 text textLong rdd readMany waits opn place built builtMany parts partMany taken calls lacks callMany total values told toldLong) s.heap.size) args s 0 0 (va_A WC s.heap.size)) 2 0 0 0 [(0, .ref (a 0)), (1, ii p1)] [] (c10 K a all saved savedMany errors text textLong rdd readMany waits opn place built builtMany parts partMany taken calls lacks callMany total values told toldLong) := by
  rw [X10_left] at hf
  refine g_iload_n X dX10_left_0 1 rfl rfl ?_
  refine g_i2l X hf dX10_left_1 (fun hf => ?_)
  refine g_lconst X 1 dX10_left_2 (by decide +kernel) ?_
  refine g_ldc2 X 7 dX10_left_3 wd_X10_left_cl220 (by decide +kernel) ?_
  obtain ⟨v1, hc2, hf⟩ := Option.bind_eq_some_iff.mp hf
  refine g_callS X (As := [ll p1, ll 1, ll 7]) (st := []) (st1 := [ii v1]) (ws' := c10 K a all saved savedMany errors text textLong rdd readMany waits opn place built builtMany parts partMany taken calls lacks callMany total values told toldLong) (X10_in_ok K l p1 1 7 v1 hc2) gX10_left_X10_in rfl 3 (by decide +kernel) ⟨rfl, rfl⟩ ⟨Nat.le_of_ble_eq_true rfl, Nat.le_of_ble_eq_true rfl⟩ ⟨Nat.zero_le _, Nat.zero_le _⟩ rfl rfl (Nat.le_of_ble_eq_true rfl) dX10_left_6 SG.none rfl ?_
  refine g_if_eq X hf 27 dX10_left_9 (by decide) (fun hf => ?_) (fun hf => ?_)
  · refine g_aload_n X dX10_left_27 0 rfl rfl ?_
    refine g_bipush X dX10_left_28 (by decide +kernel) ?_
    obtain ⟨w3, hc4, hf⟩ := Option.bind_eq_some_iff.mp hf
    refine g_callV X (As := [ii (-2)]) (st := []) (st1 := [ii w3.1]) (ws' := c10 K a all saved savedMany w3.2 text textLong rdd readMany waits opn place built builtMany parts partMany taken calls lacks callMany total values told toldLong) (X10_error_ok K l a all saved savedMany errors text textLong rdd readMany waits opn place built builtMany parts partMany taken calls lacks callMany total values told toldLong (-2) w3 hc4) gX10_left_X10_error rfl 1 (by decide +kernel) ⟨rfl, rfl⟩ ⟨Nat.le_of_ble_eq_true rfl, Nat.le_of_ble_eq_true rfl⟩ ⟨Nat.zero_le _, Nat.zero_le _⟩ 0 rfl rfl rfl rfl (Nat.le_of_ble_eq_true rfl) dX10_left_30 (SG.all rfl) rfl ?_
    cases hf
    exact g_iret X hr hlk dX10_left_33
  · refine g_aload_n X dX10_left_12 0 rfl rfl ?_
    refine g_get X (v := .ref (a 1)) 0 0 dX10_left_13 rfl rfl iw_X10_left_X10 (by decide) fl_X10_left_7 rfl ?_
    refine g_sipush X dX10_left_16 (by decide +kernel) ?_
    refine g_iload_n X dX10_left_19 1 rfl rfl ?_
    refine g_iadd X dX10_left_20 ?_
    refine g_iconst X dX10_left_21 ?_
    refine g_isub X dX10_left_22 ?_
    refine g_iald X hf (by decide) 1 0 dX10_left_23 rfl rfl (fun v5 hf => ?_)
    refine g_goto X 33 dX10_left_24 (by decide) ?_
    cases hf
    exact g_iret X hr hlk dX10_left_33
set_option maxHeartbeats 4000000 in
set_option maxRecDepth 100000 in
theorem X10_left_ok (K : KE) (l : Launch) (a : Nat → Nat) (all : Arr) (saved : Arr) (savedMany : Int) (errors : Arr) (text : Arr) (textLong : Int) (rdd : Arr) (readMany : Int) (waits : Arr) (opn : Int) (place : Int) (built : Arr) (builtMany : Int) (parts : Arr) (partMany : Int) (taken : Arr) (calls : Arr) (lacks : Arr) (callMany : Int) (total : Int) (values : Arr) (told : Arr) (toldLong : Int) (p1 : Int) (res : Int × Arr) (hf : X10_left all errors p1 = some res) : CT l K.1 vwCl (kT K) yX10_left wsX10_left rmX10_left [.ref (a 0), ii p1] (some (ii res.1)) (c10 K a all saved savedMany errors text textLong rdd readMany waits opn place built builtMany parts partMany taken calls lacks callMany total values told toldLong) (c10 K a all saved savedMany res.2 text textLong rdd readMany waits opn place built builtMany parts partMany taken calls lacks callMany total values told toldLong) :=
  CT.mk (cc := cX10_left) (maxL := 2) (ret := (some .int)) (by decide) rfl (Nat.le_of_ble_eq_true rfl) (fun p e s m below meth c X hr hlk => X10_left_go K l a _ X hr hlk all saved savedMany errors text textLong rdd readMany waits opn place built builtMany parts partMany taken calls lacks callMany total values told toldLong p1 res hf)
theorem iw_X10_siteMany_X10 : ∀ w ∈ u_ws RX10 TX10 23, w ∈ wsX10_siteMany := by decide +kernel
theorem fl_X10_siteMany_7 : Cond.fieldLink RX10 7 (TX10 0).1 (TX10 0).2.1 (TX10 0).2.2.1 ∈ wsX10_siteMany := by decide +kernel
def rmX10_siteMany : Room := { frames := 1, cells := 0, slots := 0, locals := 20 }
def X10_siteMany_L4 (kx : Int → Option (Int)) (all : Arr) : Nat → Int → Int → Option (Int)
  | 0, _, _ => none
  | n + 1, y1, y2 => rdK 186 all 148 (fun v1 => brLT y2 v1 (rdK 186 all (149 + y2) (fun v2 => (X10_kind v2).bind (fun v3 => ltK (fun q5 : Int => X10_siteMany_L4 kx all n (y1 + q5) (y2 + 1)) (fun j6 => brEQ v3 3 (j6 1) (j6 0))))) (kx y1))
def X10_siteMany (all : Arr) : Option (Int) := X10_siteMany_L4 (fun w7 => some w7) all FU 0 0
set_option maxHeartbeats 4000000 in
set_option maxRecDepth 100000 in
theorem X10_siteMany_L4_ok (K : KE) (l : Launch) (a : Nat → Nat) (WC : va_W) {p : Program} {e : Env} {s : State} {m : MethodId} {args : Array Value} {below : List Frame} {meth : Method} {c : Code} (X : CX p s m args c K.1 vwCl (kT K) (va_A WC s.heap.size) cX10_siteMany 3 wsX10_siteMany RX10) (hr : meth.sig.returnType = (some .int)) (hlk : meth.locks = false) (all : Arr) (saved : Arr) (savedMany : Int) (errors : Arr) (text : Arr) (textLong : Int) (rdd : Arr) (readMany : Int) (waits : Arr) (opn : Int) (place : Int) (built : Arr) (builtMany : Int) (parts : Arr) (partMany : Int) (taken : Arr) (calls : Arr) (lacks : Arr) (callMany : Int) (total : Int) (values : Arr) (told : Arr) (toldLong : Int)  (res : Int) {kx : Int → Option (Int)} : ∀ (n : Nat) (y1 : Int) (y2 : Int), X10_siteMany_L4 kx all n y1 y2 = some res → (∀ (z1 : Int), kx z1 = some res → GO p l e rmX10_siteMany s m args below meth c K.1 vwCl (va_A WC s.heap.size) (MQ below (QC K.1 vwCl (some (ii res)) WC (c10 K a all saved savedMany errors text textLong rdd readMany waits opn place built builtMany parts partMany taken calls lacks callMany total values told toldLong) s.heap.size) args s 0 0 (va_A WC s.heap.size)) 3 0 0 47 [(1, ii z1)] [] (c10 K a all saved savedMany errors text textLong rdd readMany waits opn place built builtMany parts partMany taken calls lacks callMany total values told toldLong)) → GO p l e rmX10_siteMany s m args below meth c K.1 vwCl (va_A WC s.heap.size) (MQ below (QC K.1 vwCl (some (ii res)) WC (c10 K a all saved savedMany errors text textLong rdd readMany waits opn place built builtMany parts partMany taken calls lacks callMany total values told toldLong) s.heap.size) args s 0 0 (va_A WC s.heap.size)) 3 0 0 4 [(0, .ref (a 0)), (1, ii y1), (2, ii y2)] [] (c10 K a all saved savedMany errors text textLong rdd readMany waits opn place built builtMany parts partMany taken calls lacks callMany total values told toldLong) := by
  intro n
  induction n with
  | zero =>
    intro y1 y2 hf _
    rw [X10_siteMany_L4] at hf
    cases hf
  | succ n ih =>
    intro y1 y2 hf hk
    rw [X10_siteMany_L4] at hf
    refine g_iload_n X dX10_siteMany_4 2 rfl rfl ?_
    refine g_aload_n X dX10_siteMany_5 0 rfl rfl ?_
    refine g_get X (v := .ref (a 1)) 0 0 dX10_siteMany_6 rfl rfl iw_X10_siteMany_X10 (by decide) fl_X10_siteMany_7 rfl ?_
    refine g_sipush X dX10_siteMany_9 (by decide +kernel) ?_
    refine g_iald X hf (by decide) 1 0 dX10_siteMany_12 rfl rfl (fun v1 hf => ?_)
    refine g_icmp_ge X hf 47 dX10_siteMany_13 (by decide) (fun hf => ?_) (fun hf => ?_)
    · refine g_iload_n X dX10_siteMany_16 1 rfl rfl ?_
      refine g_aload_n X dX10_siteMany_17 0 rfl rfl ?_
      refine g_get X (v := .ref (a 1)) 0 0 dX10_siteMany_18 rfl rfl iw_X10_siteMany_X10 (by decide) fl_X10_siteMany_7 rfl ?_
      refine g_sipush X dX10_siteMany_21 (by decide +kernel) ?_
      refine g_iload_n X dX10_siteMany_24 2 rfl rfl ?_
      refine g_iadd X dX10_siteMany_25 ?_
      refine g_iald X hf (by decide) 1 0 dX10_siteMany_26 rfl rfl (fun v2 hf => ?_)
      obtain ⟨v3, hc4, hf⟩ := Option.bind_eq_some_iff.mp hf
      refine g_callS X (As := [ii v2]) (st := [ii y1]) (st1 := [ii v3, ii y1]) (ws' := c10 K a all saved savedMany errors text textLong rdd readMany waits opn place built builtMany parts partMany taken calls lacks callMany total values told toldLong) (X10_kind_ok K l v2 v3 hc4) gX10_siteMany_X10_kind rfl 1 (by decide +kernel) ⟨rfl, rfl⟩ ⟨Nat.le_of_ble_eq_true rfl, Nat.le_of_ble_eq_true rfl⟩ ⟨Nat.zero_le _, Nat.zero_le _⟩ rfl rfl (Nat.le_of_ble_eq_true rfl) dX10_siteMany_27 SG.none rfl ?_
      refine g_iconst X dX10_siteMany_30 ?_
      refine g_let (G := fun q5 : Int => GO p l e rmX10_siteMany s m args below meth c K.1 vwCl (va_A WC s.heap.size) (MQ below (QC K.1 vwCl (some (ii res)) WC (c10 K a all saved savedMany errors text textLong rdd readMany waits opn place built builtMany parts partMany taken calls lacks callMany total values told toldLong) s.heap.size) args s 0 0 (va_A WC s.heap.size)) 3 0 0 39 [(0, .ref (a 0)), (2, ii y2)] [ii q5, ii y1] (c10 K a all saved savedMany errors text textLong rdd readMany waits opn place built builtMany parts partMany taken calls lacks callMany total values told toldLong)) hf (fun q5 hf => ?_) (fun j6 hj6 hf => ?_)
      · refine g_iadd X dX10_siteMany_39 ?_
        refine g_istore_n X (lv' := [(1, ii (y1 + q5)), (0, .ref (a 0)), (2, ii y2)]) dX10_siteMany_40 rfl (by decide) rfl ?_
        refine g_iinc X (lv' := [(2, ii (y2 + 1)), (1, ii (y1 + q5)), (0, .ref (a 0))]) dX10_siteMany_41 2 rfl (by decide) rfl ?_
        refine g_goto X 4 dX10_siteMany_44 (by decide) ?_
        refine g_sub (lv' := [(0, .ref (a 0)), (1, ii (y1 + q5)), (2, ii (y2 + 1))]) [2, 1, 0] rfl ?_
        exact ih (y1 + q5) (y2 + 1) hf hk
      · refine g_icmp_ne X hf 38 dX10_siteMany_31 (by decide) (fun hf => ?_) (fun hf => ?_)
        · refine g_iconst X dX10_siteMany_34 ?_
          refine g_goto X 39 dX10_siteMany_35 (by decide) ?_
          refine g_sub (lv' := [(0, .ref (a 0)), (2, ii y2)]) [0, 2] rfl ?_
          exact hj6 1 hf
        · refine g_iconst X dX10_siteMany_38 ?_
          refine g_sub (lv' := [(0, .ref (a 0)), (2, ii y2)]) [0, 2] rfl ?_
          exact hj6 0 hf
    · refine g_sub (lv' := [(1, ii y1)]) [1] rfl ?_
      exact hk y1 hf
set_option maxHeartbeats 4000000 in
set_option maxRecDepth 100000 in
theorem X10_siteMany_go (K : KE) (l : Launch) (a : Nat → Nat) (WC : va_W) {p : Program} {e : Env} {s : State} {m : MethodId} {args : Array Value} {below : List Frame} {meth : Method} {c : Code} (X : CX p s m args c K.1 vwCl (kT K) (va_A WC s.heap.size) cX10_siteMany 3 wsX10_siteMany RX10) (hr : meth.sig.returnType = (some .int)) (hlk : meth.locks = false) (all : Arr) (saved : Arr) (savedMany : Int) (errors : Arr) (text : Arr) (textLong : Int) (rdd : Arr) (readMany : Int) (waits : Arr) (opn : Int) (place : Int) (built : Arr) (builtMany : Int) (parts : Arr) (partMany : Int) (taken : Arr) (calls : Arr) (lacks : Arr) (callMany : Int) (total : Int) (values : Arr) (told : Arr) (toldLong : Int) (res : Int) (hf : X10_siteMany all = some res) : GO p l e rmX10_siteMany s m args below meth c K.1 vwCl (va_A WC s.heap.size) (MQ below (QC K.1 vwCl (some (ii res)) WC (c10 K a all saved savedMany errors text textLong rdd readMany waits opn place built builtMany parts partMany taken calls lacks callMany total values told toldLong) s.heap.size) args s 0 0 (va_A WC s.heap.size)) 3 0 0 0 [(0, .ref (a 0))] [] (c10 K a all saved savedMany errors text textLong rdd readMany waits opn place built builtMany parts partMany taken calls lacks callMany total values told toldLong) := by
  rw [X10_siteMany] at hf
  refine g_iconst X dX10_siteMany_0 ?_
  refine g_istore_n X (lv' := [(1, ii 0), (0, .ref (a 0))]) dX10_siteMany_1 rfl (by decide) rfl ?_
  refine g_iconst X dX10_siteMany_2 ?_
  refine g_istore_n X (lv' := [(2, ii 0), (1, ii 0), (0, .ref (a 0))]) dX10_siteMany_3 rfl (by decide) rfl ?_
  refine g_sub (lv' := [(0, .ref (a 0)), (1, ii 0), (2, ii 0)]) [2, 1, 0] rfl ?_
  refine X10_siteMany_L4_ok K l a WC X hr hlk all saved savedMany errors text textLong rdd readMany waits opn place built builtMany parts partMany taken calls lacks callMany total values told toldLong res FU 0 0 hf (fun w7 hf => ?_)
  refine g_iload_n X dX10_siteMany_47 0 rfl rfl ?_
  cases hf
  exact g_iret X hr hlk dX10_siteMany_48
set_option maxHeartbeats 4000000 in
set_option maxRecDepth 100000 in
theorem X10_siteMany_ok (K : KE) (l : Launch) (a : Nat → Nat) (all : Arr) (saved : Arr) (savedMany : Int) (errors : Arr) (text : Arr) (textLong : Int) (rdd : Arr) (readMany : Int) (waits : Arr) (opn : Int) (place : Int) (built : Arr) (builtMany : Int) (parts : Arr) (partMany : Int) (taken : Arr) (calls : Arr) (lacks : Arr) (callMany : Int) (total : Int) (values : Arr) (told : Arr) (toldLong : Int) (res : Int) (hf : X10_siteMany all = some res) : CT l K.1 vwCl (kT K) yX10_siteMany wsX10_siteMany rmX10_siteMany [.ref (a 0)] (some (ii res)) (c10 K a all saved savedMany errors text textLong rdd readMany waits opn place built builtMany parts partMany taken calls lacks callMany total values told toldLong) (c10 K a all saved savedMany errors text textLong rdd readMany waits opn place built builtMany parts partMany taken calls lacks callMany total values told toldLong) :=
  CT.mk (cc := cX10_siteMany) (maxL := 3) (ret := (some .int)) (by decide) rfl (Nat.le_of_ble_eq_true rfl) (fun p e s m below meth c X hr hlk => X10_siteMany_go K l a _ X hr hlk all saved savedMany errors text textLong rdd readMany waits opn place built builtMany parts partMany taken calls lacks callMany total values told toldLong res hf)
def rmX10_sites : Room := { frames := 2, cells := 0, slots := 0, locals := 42 }
def X10_sites (all : Arr) : Option (Int) := (X10_siteMany all).bind (fun v1 => some v1)
set_option maxHeartbeats 4000000 in
set_option maxRecDepth 100000 in
theorem X10_sites_go (K : KE) (l : Launch) (a : Nat → Nat) (WC : va_W) {p : Program} {e : Env} {s : State} {m : MethodId} {args : Array Value} {below : List Frame} {meth : Method} {c : Code} (X : CX p s m args c K.1 vwCl (kT K) (va_A WC s.heap.size) cX10_sites 1 wsX10_sites RX10) (hr : meth.sig.returnType = (some .int)) (hlk : meth.locks = false) (all : Arr) (saved : Arr) (savedMany : Int) (errors : Arr) (text : Arr) (textLong : Int) (rdd : Arr) (readMany : Int) (waits : Arr) (opn : Int) (place : Int) (built : Arr) (builtMany : Int) (parts : Arr) (partMany : Int) (taken : Arr) (calls : Arr) (lacks : Arr) (callMany : Int) (total : Int) (values : Arr) (told : Arr) (toldLong : Int) (res : Int) (hf : X10_sites all = some res) : GO p l e rmX10_sites s m args below meth c K.1 vwCl (va_A WC s.heap.size) (MQ below (QC K.1 vwCl (some (ii res)) WC (c10 K a all saved savedMany errors text textLong rdd readMany waits opn place built builtMany parts partMany taken calls lacks callMany total values told toldLong) s.heap.size) args s 0 0 (va_A WC s.heap.size)) 1 0 0 0 [(0, .ref (a 0))] [] (c10 K a all saved savedMany errors text textLong rdd readMany waits opn place built builtMany parts partMany taken calls lacks callMany total values told toldLong) := by
  rw [X10_sites] at hf
  refine g_aload_n X dX10_sites_0 0 rfl rfl ?_
  obtain ⟨v1, hc2, hf⟩ := Option.bind_eq_some_iff.mp hf
  refine g_callV X (As := []) (st := []) (st1 := [ii v1]) (ws' := c10 K a all saved savedMany errors text textLong rdd readMany waits opn place built builtMany parts partMany taken calls lacks callMany total values told toldLong) (X10_siteMany_ok K l a all saved savedMany errors text textLong rdd readMany waits opn place built builtMany parts partMany taken calls lacks callMany total values told toldLong v1 hc2) gX10_sites_X10_siteMany rfl 0 (by decide +kernel) ⟨rfl, rfl⟩ ⟨Nat.le_of_ble_eq_true rfl, Nat.le_of_ble_eq_true rfl⟩ ⟨Nat.zero_le _, Nat.zero_le _⟩ 0 rfl rfl rfl rfl (Nat.le_of_ble_eq_true rfl) dX10_sites_1 (SG.all rfl) rfl ?_
  cases hf
  exact g_iret X hr hlk dX10_sites_4
set_option maxHeartbeats 4000000 in
set_option maxRecDepth 100000 in
theorem X10_sites_ok (K : KE) (l : Launch) (a : Nat → Nat) (all : Arr) (saved : Arr) (savedMany : Int) (errors : Arr) (text : Arr) (textLong : Int) (rdd : Arr) (readMany : Int) (waits : Arr) (opn : Int) (place : Int) (built : Arr) (builtMany : Int) (parts : Arr) (partMany : Int) (taken : Arr) (calls : Arr) (lacks : Arr) (callMany : Int) (total : Int) (values : Arr) (told : Arr) (toldLong : Int) (res : Int) (hf : X10_sites all = some res) : CT l K.1 vwCl (kT K) yX10_sites wsX10_sites rmX10_sites [.ref (a 0)] (some (ii res)) (c10 K a all saved savedMany errors text textLong rdd readMany waits opn place built builtMany parts partMany taken calls lacks callMany total values told toldLong) (c10 K a all saved savedMany errors text textLong rdd readMany waits opn place built builtMany parts partMany taken calls lacks callMany total values told toldLong) :=
  CT.mk (cc := cX10_sites) (maxL := 1) (ret := (some .int)) (by decide) rfl (Nat.le_of_ble_eq_true rfl) (fun p e s m below meth c X hr hlk => X10_sites_go K l a _ X hr hlk all saved savedMany errors text textLong rdd readMany waits opn place built builtMany parts partMany taken calls lacks callMany total values told toldLong res hf)
theorem iw_X10_nodes_X10 : ∀ w ∈ u_ws RX10 TX10 23, w ∈ wsX10_nodes := by decide +kernel
theorem fl_X10_nodes_7 : Cond.fieldLink RX10 7 (TX10 0).1 (TX10 0).2.1 (TX10 0).2.2.1 ∈ wsX10_nodes := by decide +kernel
def rmX10_nodes : Room := { frames := 0, cells := 0, slots := 0, locals := 0 }
def X10_nodes (all : Arr) : Option (Int) := rdK 186 all 148 (fun v1 => some v1)
set_option maxHeartbeats 4000000 in
set_option maxRecDepth 100000 in
theorem X10_nodes_go (K : KE) (l : Launch) (a : Nat → Nat) (WC : va_W) {p : Program} {e : Env} {s : State} {m : MethodId} {args : Array Value} {below : List Frame} {meth : Method} {c : Code} (X : CX p s m args c K.1 vwCl (kT K) (va_A WC s.heap.size) cX10_nodes 1 wsX10_nodes RX10) (hr : meth.sig.returnType = (some .int)) (hlk : meth.locks = false) (all : Arr) (saved : Arr) (savedMany : Int) (errors : Arr) (text : Arr) (textLong : Int) (rdd : Arr) (readMany : Int) (waits : Arr) (opn : Int) (place : Int) (built : Arr) (builtMany : Int) (parts : Arr) (partMany : Int) (taken : Arr) (calls : Arr) (lacks : Arr) (callMany : Int) (total : Int) (values : Arr) (told : Arr) (toldLong : Int) (res : Int) (hf : X10_nodes all = some res) : GO p l e rmX10_nodes s m args below meth c K.1 vwCl (va_A WC s.heap.size) (MQ below (QC K.1 vwCl (some (ii res)) WC (c10 K a all saved savedMany errors text textLong rdd readMany waits opn place built builtMany parts partMany taken calls lacks callMany total values told toldLong) s.heap.size) args s 0 0 (va_A WC s.heap.size)) 1 0 0 0 [(0, .ref (a 0))] [] (c10 K a all saved savedMany errors text textLong rdd readMany waits opn place built builtMany parts partMany taken calls lacks callMany total values told toldLong) := by
  rw [X10_nodes] at hf
  refine g_aload_n X dX10_nodes_0 0 rfl rfl ?_
  refine g_get X (v := .ref (a 1)) 0 0 dX10_nodes_1 rfl rfl iw_X10_nodes_X10 (by decide) fl_X10_nodes_7 rfl ?_
  refine g_sipush X dX10_nodes_4 (by decide +kernel) ?_
  refine g_iald X hf (by decide) 1 0 dX10_nodes_7 rfl rfl (fun v1 hf => ?_)
  cases hf
  exact g_iret X hr hlk dX10_nodes_8
set_option maxHeartbeats 4000000 in
set_option maxRecDepth 100000 in
theorem X10_nodes_ok (K : KE) (l : Launch) (a : Nat → Nat) (all : Arr) (saved : Arr) (savedMany : Int) (errors : Arr) (text : Arr) (textLong : Int) (rdd : Arr) (readMany : Int) (waits : Arr) (opn : Int) (place : Int) (built : Arr) (builtMany : Int) (parts : Arr) (partMany : Int) (taken : Arr) (calls : Arr) (lacks : Arr) (callMany : Int) (total : Int) (values : Arr) (told : Arr) (toldLong : Int) (res : Int) (hf : X10_nodes all = some res) : CT l K.1 vwCl (kT K) yX10_nodes wsX10_nodes rmX10_nodes [.ref (a 0)] (some (ii res)) (c10 K a all saved savedMany errors text textLong rdd readMany waits opn place built builtMany parts partMany taken calls lacks callMany total values told toldLong) (c10 K a all saved savedMany errors text textLong rdd readMany waits opn place built builtMany parts partMany taken calls lacks callMany total values told toldLong) :=
  CT.mk (cc := cX10_nodes) (maxL := 1) (ret := (some .int)) (by decide) rfl (Nat.le_of_ble_eq_true rfl) (fun p e s m below meth c X hr hlk => X10_nodes_go K l a _ X hr hlk all saved savedMany errors text textLong rdd readMany waits opn place built builtMany parts partMany taken calls lacks callMany total values told toldLong res hf)
theorem wd_X10_value_cl225 : Jvm.Cond.constantLong RX10 225 (999) ∈ wsX10_value := by decide +kernel
theorem iw_X10_value_X10 : ∀ w ∈ u_ws RX10 TX10 23, w ∈ wsX10_value := by decide +kernel
theorem fl_X10_value_7 : Cond.fieldLink RX10 7 (TX10 0).1 (TX10 0).2.1 (TX10 0).2.2.1 ∈ wsX10_value := by decide +kernel
theorem fl_X10_value_43 : Cond.fieldLink RX10 43 (TX10 20).1 (TX10 20).2.1 (TX10 20).2.2.1 ∈ wsX10_value := by decide +kernel
def rmX10_value : Room := { frames := 2, cells := 0, slots := 0, locals := 41 }
def X10_value_L126 (kx : Int → Int → Option (Int × Arr × Arr)) (all : Arr) (errors : Arr) (values : Arr) (x1 : Int) (x2 : Int) (x4 : Int) (x5 : Int) (x7 : Int) : Nat → Int → Int → Int → Option (Int × Arr × Arr)
  | 0, _, _, _ => none
  | n + 1, y3, y6, y8 => (X10_arguments x5).bind (fun v24 => brLT y8 v24 (rdK 186 all ((x7 + 1) + y8) (fun v26 => rdK 30 values (y3 + (-1)) (fun v27 => X10_value_L126 kx all errors values x1 x2 x4 x5 x7 n (y3 + (-1)) (y6 + (v26 * v27)) (y8 + 1)))) (kx y3 y6))
def X10_value_L45 (kx : Arr → Option (Int × Arr × Arr)) (all : Arr) (errors : Arr) (x1 : Int) (x2 : Int) : Nat → Int → Int → Arr → Option (Int × Arr × Arr)
  | 0, _, _, _ => none
  | n + 1, y3, y4, values => brLT y4 0 (kx values) (rdK 186 all (149 + y4) (fun v10 => (X10_kind v10).bind (fun v11 => ltK (fun q13 : Int => (X10_kind v10).bind (fun v15 => ltK (fun q17 : Int × Int => rmK q17.2 1000 (fun v19 => wrK 30 values q17.1 v19 (fun f20 => X10_value_L45 kx all errors x1 x2 n (q17.1 + 1) (y4 + (-1)) f20))) (fun j18 => brLE v15 2 (j18 (y3, q13)) ((X10_function v10).bind (fun v21 => rdK 186 all (v21 + 2) (fun v23 => X10_value_L126 (fun w28 w29 => j18 (w28, w29)) all errors values x1 x2 y4 v10 (v21 + 2) FU y3 v23 0)))))) (fun j14 => brEQ v11 0 ((X10_which v10).bind (fun v30 => j14 v30)) ((X10_kind v10).bind (fun v32 => brEQ v32 1 (j14 x1) (j14 x2)))))))
def X10_value (all : Arr) (errors : Arr) (values : Arr) (p1 : Int) (p2 : Int) : Option (Int × Arr × Arr) := lgK p1 ((X10_in p1 0 999).bind (fun v1 => brEQ v1 0 ((X10_error errors (-2)).bind (fun w3 => some (w3.1, w3.2, values))) (lgK p2 ((X10_in p2 0 999).bind (fun v5 => brEQ v5 0 ((X10_error errors (-2)).bind (fun w7 => some (w7.1, w7.2, values))) (rdK 186 all 148 (fun v9 => X10_value_L45 (fun w34 => rdK 30 w34 0 (fun v35 => some (v35, errors, w34))) all errors p1 p2 FU 0 (v9 - 1) values)))))))
set_option maxHeartbeats 4000000 in
set_option maxRecDepth 100000 in
theorem X10_value_L126_ok (K : KE) (l : Launch) (a : Nat → Nat) (WC : va_W) {p : Program} {e : Env} {s : State} {m : MethodId} {args : Array Value} {below : List Frame} {meth : Method} {c : Code} (X : CX p s m args c K.1 vwCl (kT K) (va_A WC s.heap.size) cX10_value 9 wsX10_value RX10) (hr : meth.sig.returnType = (some .int)) (hlk : meth.locks = false) (all : Arr) (saved : Arr) (savedMany : Int) (errors : Arr) (text : Arr) (textLong : Int) (rdd : Arr) (readMany : Int) (waits : Arr) (opn : Int) (place : Int) (built : Arr) (builtMany : Int) (parts : Arr) (partMany : Int) (taken : Arr) (calls : Arr) (lacks : Arr) (callMany : Int) (total : Int) (values : Arr) (told : Arr) (toldLong : Int) (x1 : Int) (x2 : Int) (x4 : Int) (x5 : Int) (x7 : Int) (res : Int × Arr × Arr) {kx : Int → Int → Option (Int × Arr × Arr)} : ∀ (n : Nat) (y3 : Int) (y6 : Int) (y8 : Int), X10_value_L126 kx all errors values x1 x2 x4 x5 x7 n y3 y6 y8 = some res → (∀ (z3 : Int) (z6 : Int), kx z3 z6 = some res → GO p l e rmX10_value s m args below meth c K.1 vwCl (va_A WC s.heap.size) (MQ below (QC K.1 vwCl (some (ii res.1)) WC (c10 K a all saved savedMany res.2.1 text textLong rdd readMany waits opn place built builtMany parts partMany taken calls lacks callMany total res.2.2 told toldLong) s.heap.size) args s 0 0 (va_A WC s.heap.size)) 9 0 0 169 [(0, .ref (a 0)), (1, ii x1), (2, ii x2), (3, ii z3), (4, ii x4), (6, ii z6)] [] (c10 K a all saved savedMany errors text textLong rdd readMany waits opn place built builtMany parts partMany taken calls lacks callMany total values told toldLong)) → GO p l e rmX10_value s m args below meth c K.1 vwCl (va_A WC s.heap.size) (MQ below (QC K.1 vwCl (some (ii res.1)) WC (c10 K a all saved savedMany res.2.1 text textLong rdd readMany waits opn place built builtMany parts partMany taken calls lacks callMany total res.2.2 told toldLong) s.heap.size) args s 0 0 (va_A WC s.heap.size)) 9 0 0 126 [(0, .ref (a 0)), (1, ii x1), (2, ii x2), (3, ii y3), (4, ii x4), (5, ii x5), (6, ii y6), (7, ii x7), (8, ii y8)] [] (c10 K a all saved savedMany errors text textLong rdd readMany waits opn place built builtMany parts partMany taken calls lacks callMany total values told toldLong) := by
  intro n
  induction n with
  | zero =>
    intro y3 y6 y8 hf _
    rw [X10_value_L126] at hf
    cases hf
  | succ n ih =>
    intro y3 y6 y8 hf hk
    rw [X10_value_L126] at hf
    refine g_iload X dX10_value_126 8 rfl ?_
    refine g_iload X dX10_value_128 5 rfl ?_
    obtain ⟨v24, hc25, hf⟩ := Option.bind_eq_some_iff.mp hf
    refine g_callS X (As := [ii x5]) (st := [ii y8]) (st1 := [ii v24, ii y8]) (ws' := c10 K a all saved savedMany errors text textLong rdd readMany waits opn place built builtMany parts partMany taken calls lacks callMany total values told toldLong) (X10_arguments_ok K l x5 v24 hc25) gX10_value_X10_arguments rfl 1 (by decide +kernel) ⟨rfl, rfl⟩ ⟨Nat.le_of_ble_eq_true rfl, Nat.le_of_ble_eq_true rfl⟩ ⟨Nat.zero_le _, Nat.zero_le _⟩ rfl rfl (Nat.le_of_ble_eq_true rfl) dX10_value_130 SG.none rfl ?_
    refine g_icmp_ge X hf 169 dX10_value_133 (by decide) (fun hf => ?_) (fun hf => ?_)
    · refine g_iinc X (lv' := [(3, ii (y3 + (-1))), (0, .ref (a 0)), (1, ii x1), (2, ii x2), (4, ii x4), (5, ii x5), (6, ii y6), (7, ii x7), (8, ii y8)]) dX10_value_136 3 rfl (by decide) rfl ?_
      refine g_iload X dX10_value_139 6 rfl ?_
      refine g_aload_n X dX10_value_141 1 rfl rfl ?_
      refine g_get X (v := .ref (a 1)) 0 0 dX10_value_142 rfl rfl iw_X10_value_X10 (by decide) fl_X10_value_7 rfl ?_
      refine g_iload X dX10_value_145 7 rfl ?_
      refine g_iconst X dX10_value_147 ?_
      refine g_iadd X dX10_value_148 ?_
      refine g_iload X dX10_value_149 8 rfl ?_
      refine g_iadd X dX10_value_151 ?_
      refine g_iald X hf (by decide) 1 0 dX10_value_152 rfl rfl (fun v26 hf => ?_)
      refine g_aload_n X dX10_value_153 1 rfl rfl ?_
      refine g_get X (v := .ref (a 12)) 0 20 dX10_value_154 rfl rfl iw_X10_value_X10 (by decide) fl_X10_value_43 rfl ?_
      refine g_iload_n X dX10_value_157 0 rfl rfl ?_
      refine g_iald X hf (by decide) 12 0 dX10_value_158 rfl rfl (fun v27 hf => ?_)
      refine g_imul X dX10_value_159 ?_
      refine g_iadd X dX10_value_160 ?_
      refine g_istore X (lv' := [(6, ii (y6 + (v26 * v27))), (3, ii (y3 + (-1))), (0, .ref (a 0)), (1, ii x1), (2, ii x2), (4, ii x4), (5, ii x5), (7, ii x7), (8, ii y8)]) dX10_value_161 (by decide) rfl ?_
      refine g_iinc X (lv' := [(8, ii (y8 + 1)), (6, ii (y6 + (v26 * v27))), (3, ii (y3 + (-1))), (0, .ref (a 0)), (1, ii x1), (2, ii x2), (4, ii x4), (5, ii x5), (7, ii x7)]) dX10_value_163 8 rfl (by decide) rfl ?_
      refine g_goto X 126 dX10_value_166 (by decide) ?_
      refine g_sub (lv' := [(0, .ref (a 0)), (1, ii x1), (2, ii x2), (3, ii (y3 + (-1))), (4, ii x4), (5, ii x5), (6, ii (y6 + (v26 * v27))), (7, ii x7), (8, ii (y8 + 1))]) [3, 4, 5, 2, 6, 7, 1, 8, 0] rfl ?_
      exact ih (y3 + (-1)) (y6 + (v26 * v27)) (y8 + 1) hf hk
    · refine g_sub (lv' := [(0, .ref (a 0)), (1, ii x1), (2, ii x2), (3, ii y3), (4, ii x4), (6, ii y6)]) [0, 1, 2, 3, 4, 6] rfl ?_
      exact hk y3 y6 hf
set_option maxHeartbeats 4000000 in
set_option maxRecDepth 100000 in
theorem X10_value_L45_ok (K : KE) (l : Launch) (a : Nat → Nat) (WC : va_W) {p : Program} {e : Env} {s : State} {m : MethodId} {args : Array Value} {below : List Frame} {meth : Method} {c : Code} (X : CX p s m args c K.1 vwCl (kT K) (va_A WC s.heap.size) cX10_value 9 wsX10_value RX10) (hr : meth.sig.returnType = (some .int)) (hlk : meth.locks = false) (all : Arr) (saved : Arr) (savedMany : Int) (errors : Arr) (text : Arr) (textLong : Int) (rdd : Arr) (readMany : Int) (waits : Arr) (opn : Int) (place : Int) (built : Arr) (builtMany : Int) (parts : Arr) (partMany : Int) (taken : Arr) (calls : Arr) (lacks : Arr) (callMany : Int) (total : Int) (told : Arr) (toldLong : Int) (x1 : Int) (x2 : Int) (res : Int × Arr × Arr) {kx : Arr → Option (Int × Arr × Arr)} : ∀ (n : Nat) (y3 : Int) (y4 : Int) (values : Arr), X10_value_L45 kx all errors x1 x2 n y3 y4 values = some res → (∀ (valuesz : Arr), kx valuesz = some res → GO p l e rmX10_value s m args below meth c K.1 vwCl (va_A WC s.heap.size) (MQ below (QC K.1 vwCl (some (ii res.1)) WC (c10 K a all saved savedMany res.2.1 text textLong rdd readMany waits opn place built builtMany parts partMany taken calls lacks callMany total res.2.2 told toldLong) s.heap.size) args s 0 0 (va_A WC s.heap.size)) 9 0 0 190 [(0, .ref (a 0))] [] (c10 K a all saved savedMany errors text textLong rdd readMany waits opn place built builtMany parts partMany taken calls lacks callMany total valuesz told toldLong)) → GO p l e rmX10_value s m args below meth c K.1 vwCl (va_A WC s.heap.size) (MQ below (QC K.1 vwCl (some (ii res.1)) WC (c10 K a all saved savedMany res.2.1 text textLong rdd readMany waits opn place built builtMany parts partMany taken calls lacks callMany total res.2.2 told toldLong) s.heap.size) args s 0 0 (va_A WC s.heap.size)) 9 0 0 45 [(0, .ref (a 0)), (1, ii x1), (2, ii x2), (3, ii y3), (4, ii y4)] [] (c10 K a all saved savedMany errors text textLong rdd readMany waits opn place built builtMany parts partMany taken calls lacks callMany total values told toldLong) := by
  intro n
  induction n with
  | zero =>
    intro y3 y4 values hf _
    rw [X10_value_L45] at hf
    cases hf
  | succ n ih =>
    intro y3 y4 values hf hk
    rw [X10_value_L45] at hf
    refine g_iload X dX10_value_45 4 rfl ?_
    refine g_if_lt X hf 190 dX10_value_47 (by decide) (fun hf => ?_) (fun hf => ?_)
    · refine g_sub (lv' := [(0, .ref (a 0))]) [0] rfl ?_
      exact hk values hf
    · refine g_aload_n X dX10_value_50 0 rfl rfl ?_
      refine g_get X (v := .ref (a 1)) 0 0 dX10_value_51 rfl rfl iw_X10_value_X10 (by decide) fl_X10_value_7 rfl ?_
      refine g_sipush X dX10_value_54 (by decide +kernel) ?_
      refine g_iload X dX10_value_57 4 rfl ?_
      refine g_iadd X dX10_value_59 ?_
      refine g_iald X hf (by decide) 1 0 dX10_value_60 rfl rfl (fun v10 hf => ?_)
      refine g_istore X (lv' := [(5, ii v10), (0, .ref (a 0)), (1, ii x1), (2, ii x2), (3, ii y3), (4, ii y4)]) dX10_value_61 (by decide) rfl ?_
      refine g_iload X dX10_value_63 0 rfl ?_
      obtain ⟨v11, hc12, hf⟩ := Option.bind_eq_some_iff.mp hf
      refine g_callS X (As := [ii v10]) (st := []) (st1 := [ii v11]) (ws' := c10 K a all saved savedMany errors text textLong rdd readMany waits opn place built builtMany parts partMany taken calls lacks callMany total values told toldLong) (X10_kind_ok K l v10 v11 hc12) gX10_value_X10_kind rfl 1 (by decide +kernel) ⟨rfl, rfl⟩ ⟨Nat.le_of_ble_eq_true rfl, Nat.le_of_ble_eq_true rfl⟩ ⟨Nat.zero_le _, Nat.zero_le _⟩ rfl rfl (Nat.le_of_ble_eq_true rfl) dX10_value_65 SG.none rfl ?_
      refine g_let (G := fun q13 : Int => GO p l e rmX10_value s m args below meth c K.1 vwCl (va_A WC s.heap.size) (MQ below (QC K.1 vwCl (some (ii res.1)) WC (c10 K a all saved savedMany res.2.1 text textLong rdd readMany waits opn place built builtMany parts partMany taken calls lacks callMany total res.2.2 told toldLong) s.heap.size) args s 0 0 (va_A WC s.heap.size)) 9 0 0 93 [(0, .ref (a 0)), (1, ii x1), (2, ii x2), (3, ii y3), (4, ii y4), (5, ii v10)] [ii q13] (c10 K a all saved savedMany errors text textLong rdd readMany waits opn place built builtMany parts partMany taken calls lacks callMany total values told toldLong)) hf (fun q13 hf => ?_) (fun j14 hj14 hf => ?_)
      · refine g_istore X (lv' := [(6, ii q13), (0, .ref (a 0)), (1, ii x1), (2, ii x2), (3, ii y3), (4, ii y4), (5, ii v10)]) dX10_value_93 (by decide) rfl ?_
        refine g_iload X dX10_value_95 6 rfl ?_
        obtain ⟨v15, hc16, hf⟩ := Option.bind_eq_some_iff.mp hf
        refine g_callS X (As := [ii v10]) (st := []) (st1 := [ii v15]) (ws' := c10 K a all saved savedMany errors text textLong rdd readMany waits opn place built builtMany parts partMany taken calls lacks callMany total values told toldLong) (X10_kind_ok K l v10 v15 hc16) gX10_value_X10_kind rfl 1 (by decide +kernel) ⟨rfl, rfl⟩ ⟨Nat.le_of_ble_eq_true rfl, Nat.le_of_ble_eq_true rfl⟩ ⟨Nat.zero_le _, Nat.zero_le _⟩ rfl rfl (Nat.le_of_ble_eq_true rfl) dX10_value_97 SG.none rfl ?_
        refine g_iconst X dX10_value_100 ?_
        refine g_let (G := fun q17 : Int × Int => GO p l e rmX10_value s m args below meth c K.1 vwCl (va_A WC s.heap.size) (MQ below (QC K.1 vwCl (some (ii res.1)) WC (c10 K a all saved savedMany res.2.1 text textLong rdd readMany waits opn place built builtMany parts partMany taken calls lacks callMany total res.2.2 told toldLong) s.heap.size) args s 0 0 (va_A WC s.heap.size)) 9 0 0 169 [(0, .ref (a 0)), (1, ii x1), (2, ii x2), (3, ii q17.1), (4, ii y4), (6, ii q17.2)] [] (c10 K a all saved savedMany errors text textLong rdd readMany waits opn place built builtMany parts partMany taken calls lacks callMany total values told toldLong)) hf (fun q17 hf => ?_) (fun j18 hj18 hf => ?_)
        · refine g_aload_n X dX10_value_169 0 rfl rfl ?_
          refine g_get X (v := .ref (a 12)) 0 20 dX10_value_170 rfl rfl iw_X10_value_X10 (by decide) fl_X10_value_43 rfl ?_
          refine g_iload_n X dX10_value_173 3 rfl rfl ?_
          refine g_iload X dX10_value_174 5 rfl ?_
          refine g_sipush X dX10_value_176 (by decide +kernel) ?_
          refine g_irem X hf (by decide) dX10_value_179 (fun v19 hf => ?_)
          refine g_iast X hf (by decide) 12 0 dX10_value_180 rfl rfl (fun f20 => c10 K a all saved savedMany errors text textLong rdd readMany waits opn place built builtMany parts partMany taken calls lacks callMany total f20 told toldLong) (fun _ => rfl) (fun f20 hf => ?_)
          refine g_iinc X (lv' := [(3, ii (q17.1 + 1)), (0, .ref (a 0)), (1, ii x1), (2, ii x2), (4, ii y4), (6, ii q17.2)]) dX10_value_181 3 rfl (by decide) rfl ?_
          refine g_iinc X (lv' := [(4, ii (y4 + (-1))), (3, ii (q17.1 + 1)), (0, .ref (a 0)), (1, ii x1), (2, ii x2), (6, ii q17.2)]) dX10_value_184 4 rfl (by decide) rfl ?_
          refine g_goto X 45 dX10_value_187 (by decide) ?_
          refine g_sub (lv' := [(0, .ref (a 0)), (1, ii x1), (2, ii x2), (3, ii (q17.1 + 1)), (4, ii (y4 + (-1)))]) [2, 3, 4, 1, 0] rfl ?_
          exact ih (q17.1 + 1) (y4 + (-1)) f20 hf hk
        · refine g_icmp_le X hf 169 dX10_value_101 (by decide) (fun hf => ?_) (fun hf => ?_)
          · refine g_sub (lv' := [(0, .ref (a 0)), (1, ii x1), (2, ii x2), (3, ii y3), (4, ii y4), (6, ii q13)]) [1, 2, 3, 4, 5, 0] rfl ?_
            exact hj18 (y3, q13) hf
          · refine g_aload_n X dX10_value_104 1 rfl rfl ?_
            refine g_iload X dX10_value_105 6 rfl ?_
            obtain ⟨v21, hc22, hf⟩ := Option.bind_eq_some_iff.mp hf
            refine g_callV X (As := [ii v10]) (st := []) (st1 := [ii v21]) (ws' := c10 K a all saved savedMany errors text textLong rdd readMany waits opn place built builtMany parts partMany taken calls lacks callMany total values told toldLong) (X10_function_ok K l a all saved savedMany errors text textLong rdd readMany waits opn place built builtMany parts partMany taken calls lacks callMany total values told toldLong v10 v21 hc22) gX10_value_X10_function rfl 1 (by decide +kernel) ⟨rfl, rfl⟩ ⟨Nat.le_of_ble_eq_true rfl, Nat.le_of_ble_eq_true rfl⟩ ⟨Nat.zero_le _, Nat.zero_le _⟩ 0 rfl rfl rfl rfl (Nat.le_of_ble_eq_true rfl) dX10_value_107 (SG.all rfl) rfl ?_
            refine g_iconst X dX10_value_110 ?_
            refine g_iadd X dX10_value_111 ?_
            refine g_istore X (lv' := [(7, ii (v21 + 2)), (6, ii q13), (0, .ref (a 0)), (1, ii x1), (2, ii x2), (3, ii y3), (4, ii y4), (5, ii v10)]) dX10_value_112 (by decide) rfl ?_
            refine g_aload_n X dX10_value_114 2 rfl rfl ?_
            refine g_get X (v := .ref (a 1)) 0 0 dX10_value_115 rfl rfl iw_X10_value_X10 (by decide) fl_X10_value_7 rfl ?_
            refine g_iload X dX10_value_118 0 rfl ?_
            refine g_iald X hf (by decide) 1 0 dX10_value_120 rfl rfl (fun v23 hf => ?_)
            refine g_istore X (lv' := [(6, ii v23), (7, ii (v21 + 2)), (0, .ref (a 0)), (1, ii x1), (2, ii x2), (3, ii y3), (4, ii y4), (5, ii v10)]) dX10_value_121 (by decide) rfl ?_
            refine g_iconst X dX10_value_123 ?_
            refine g_istore X (lv' := [(8, ii 0), (6, ii v23), (7, ii (v21 + 2)), (0, .ref (a 0)), (1, ii x1), (2, ii x2), (3, ii y3), (4, ii y4), (5, ii v10)]) dX10_value_124 (by decide) rfl ?_
            refine g_sub (lv' := [(0, .ref (a 0)), (1, ii x1), (2, ii x2), (3, ii y3), (4, ii y4), (5, ii v10), (6, ii v23), (7, ii (v21 + 2)), (8, ii 0)]) [3, 4, 5, 6, 7, 8, 1, 2, 0] rfl ?_
            refine X10_value_L126_ok K l a WC X hr hlk all saved savedMany errors text textLong rdd readMany waits opn place built builtMany parts partMany taken calls lacks callMany total values told toldLong x1 x2 y4 v10 (v21 + 2) res FU y3 v23 0 hf (fun w28 w29 hf => ?_)
            exact hj18 (w28, w29) hf
      · refine g_if_ne X hf 79 dX10_value_68 (by decide) (fun hf => ?_) (fun hf => ?_)
        · refine g_iload X dX10_value_71 0 rfl ?_
          obtain ⟨v30, hc31, hf⟩ := Option.bind_eq_some_iff.mp hf
          refine g_callS X (As := [ii v10]) (st := []) (st1 := [ii v30]) (ws' := c10 K a all saved savedMany errors text textLong rdd readMany waits opn place built builtMany parts partMany taken calls lacks callMany total values told toldLong) (X10_which_ok K l v10 v30 hc31) gX10_value_X10_which rfl 1 (by decide +kernel) ⟨rfl, rfl⟩ ⟨Nat.le_of_ble_eq_true rfl, Nat.le_of_ble_eq_true rfl⟩ ⟨Nat.zero_le _, Nat.zero_le _⟩ rfl rfl (Nat.le_of_ble_eq_true rfl) dX10_value_73 SG.none rfl ?_
          refine g_goto X 93 dX10_value_76 (by decide) ?_
          refine g_sub (lv' := [(0, .ref (a 0)), (1, ii x1), (2, ii x2), (3, ii y3), (4, ii y4), (5, ii v10)]) [1, 2, 3, 4, 5, 0] rfl ?_
          exact hj14 v30 hf
        · refine g_iload X dX10_value_79 0 rfl ?_
          obtain ⟨v32, hc33, hf⟩ := Option.bind_eq_some_iff.mp hf
          refine g_callS X (As := [ii v10]) (st := []) (st1 := [ii v32]) (ws' := c10 K a all saved savedMany errors text textLong rdd readMany waits opn place built builtMany parts partMany taken calls lacks callMany total values told toldLong) (X10_kind_ok K l v10 v32 hc33) gX10_value_X10_kind rfl 1 (by decide +kernel) ⟨rfl, rfl⟩ ⟨Nat.le_of_ble_eq_true rfl, Nat.le_of_ble_eq_true rfl⟩ ⟨Nat.zero_le _, Nat.zero_le _⟩ rfl rfl (Nat.le_of_ble_eq_true rfl) dX10_value_81 SG.none rfl ?_
          refine g_iconst X dX10_value_84 ?_
          refine g_icmp_ne X hf 92 dX10_value_85 (by decide) (fun hf => ?_) (fun hf => ?_)
          · refine g_iload_n X dX10_value_88 2 rfl rfl ?_
            refine g_goto X 93 dX10_value_89 (by decide) ?_
            refine g_sub (lv' := [(0, .ref (a 0)), (1, ii x1), (2, ii x2), (3, ii y3), (4, ii y4), (5, ii v10)]) [1, 2, 3, 4, 5, 0] rfl ?_
            exact hj14 x1 hf
          · refine g_iload_n X dX10_value_92 3 rfl rfl ?_
            refine g_sub (lv' := [(0, .ref (a 0)), (1, ii x1), (2, ii x2), (3, ii y3), (4, ii y4), (5, ii v10)]) [1, 2, 3, 4, 5, 0] rfl ?_
            exact hj14 x2 hf
set_option maxHeartbeats 4000000 in
set_option maxRecDepth 100000 in
theorem X10_value_go (K : KE) (l : Launch) (a : Nat → Nat) (WC : va_W) {p : Program} {e : Env} {s : State} {m : MethodId} {args : Array Value} {below : List Frame} {meth : Method} {c : Code} (X : CX p s m args c K.1 vwCl (kT K) (va_A WC s.heap.size) cX10_value 9 wsX10_value RX10) (hr : meth.sig.returnType = (some .int)) (hlk : meth.locks = false) (all : Arr) (saved : Arr) (savedMany : Int) (errors : Arr) (text : Arr) (textLong : Int) (rdd : Arr) (readMany : Int) (waits : Arr) (opn : Int) (place : Int) (built : Arr) (builtMany : Int) (parts : Arr) (partMany : Int) (taken : Arr) (calls : Arr) (lacks : Arr) (callMany : Int) (total : Int) (values : Arr) (told : Arr) (toldLong : Int) (p1 : Int) (p2 : Int) (res : Int × Arr × Arr) (hf : X10_value all errors values p1 p2 = some res) : GO p l e rmX10_value s m args below meth c K.1 vwCl (va_A WC s.heap.size) (MQ below (QC K.1 vwCl (some (ii res.1)) WC (c10 K a all saved savedMany res.2.1 text textLong rdd readMany waits opn place built builtMany parts partMany taken calls lacks callMany total res.2.2 told toldLong) s.heap.size) args s 0 0 (va_A WC s.heap.size)) 9 0 0 0 [(0, .ref (a 0)), (1, ii p1), (2, ii p2)] [] (c10 K a all saved savedMany errors text textLong rdd readMany waits opn place built builtMany parts partMany taken calls lacks callMany total values told toldLong) := by
  rw [X10_value] at hf
  refine g_iload_n X dX10_value_0 1 rfl rfl ?_
  refine g_i2l X hf dX10_value_1 (fun hf => ?_)
  refine g_lconst X 0 dX10_value_2 (by decide +kernel) ?_
  refine g_ldc2 X 999 dX10_value_3 wd_X10_value_cl225 (by decide +kernel) ?_
  obtain ⟨v1, hc2, hf⟩ := Option.bind_eq_some_iff.mp hf
  refine g_callS X (As := [ll p1, ll 0, ll 999]) (st := []) (st1 := [ii v1]) (ws' := c10 K a all saved savedMany errors text textLong rdd readMany waits opn place built builtMany parts partMany taken calls lacks callMany total values told toldLong) (X10_in_ok K l p1 0 999 v1 hc2) gX10_value_X10_in rfl 3 (by decide +kernel) ⟨rfl, rfl⟩ ⟨Nat.le_of_ble_eq_true rfl, Nat.le_of_ble_eq_true rfl⟩ ⟨Nat.zero_le _, Nat.zero_le _⟩ rfl rfl (Nat.le_of_ble_eq_true rfl) dX10_value_6 SG.none rfl ?_
  refine g_if_eq X hf 24 dX10_value_9 (by decide) (fun hf => ?_) (fun hf => ?_)
  · refine g_aload_n X dX10_value_24 0 rfl rfl ?_
    refine g_bipush X dX10_value_25 (by decide +kernel) ?_
    obtain ⟨w3, hc4, hf⟩ := Option.bind_eq_some_iff.mp hf
    refine g_callV X (As := [ii (-2)]) (st := []) (st1 := [ii w3.1]) (ws' := c10 K a all saved savedMany w3.2 text textLong rdd readMany waits opn place built builtMany parts partMany taken calls lacks callMany total values told toldLong) (X10_error_ok K l a all saved savedMany errors text textLong rdd readMany waits opn place built builtMany parts partMany taken calls lacks callMany total values told toldLong (-2) w3 hc4) gX10_value_X10_error rfl 1 (by decide +kernel) ⟨rfl, rfl⟩ ⟨Nat.le_of_ble_eq_true rfl, Nat.le_of_ble_eq_true rfl⟩ ⟨Nat.zero_le _, Nat.zero_le _⟩ 0 rfl rfl rfl rfl (Nat.le_of_ble_eq_true rfl) dX10_value_27 (SG.all rfl) rfl ?_
    cases hf
    exact g_iret X hr hlk dX10_value_30
  · refine g_iload_n X dX10_value_12 2 rfl rfl ?_
    refine g_i2l X hf dX10_value_13 (fun hf => ?_)
    refine g_lconst X 0 dX10_value_14 (by decide +kernel) ?_
    refine g_ldc2 X 999 dX10_value_15 wd_X10_value_cl225 (by decide +kernel) ?_
    obtain ⟨v5, hc6, hf⟩ := Option.bind_eq_some_iff.mp hf
    refine g_callS X (As := [ll p2, ll 0, ll 999]) (st := []) (st1 := [ii v5]) (ws' := c10 K a all saved savedMany errors text textLong rdd readMany waits opn place built builtMany parts partMany taken calls lacks callMany total values told toldLong) (X10_in_ok K l p2 0 999 v5 hc6) gX10_value_X10_in rfl 3 (by decide +kernel) ⟨rfl, rfl⟩ ⟨Nat.le_of_ble_eq_true rfl, Nat.le_of_ble_eq_true rfl⟩ ⟨Nat.zero_le _, Nat.zero_le _⟩ rfl rfl (Nat.le_of_ble_eq_true rfl) dX10_value_18 SG.none rfl ?_
    refine g_if_ne X hf 31 dX10_value_21 (by decide) (fun hf => ?_) (fun hf => ?_)
    · refine g_aload_n X dX10_value_24 0 rfl rfl ?_
      refine g_bipush X dX10_value_25 (by decide +kernel) ?_
      obtain ⟨w7, hc8, hf⟩ := Option.bind_eq_some_iff.mp hf
      refine g_callV X (As := [ii (-2)]) (st := []) (st1 := [ii w7.1]) (ws' := c10 K a all saved savedMany w7.2 text textLong rdd readMany waits opn place built builtMany parts partMany taken calls lacks callMany total values told toldLong) (X10_error_ok K l a all saved savedMany errors text textLong rdd readMany waits opn place built builtMany parts partMany taken calls lacks callMany total values told toldLong (-2) w7 hc8) gX10_value_X10_error rfl 1 (by decide +kernel) ⟨rfl, rfl⟩ ⟨Nat.le_of_ble_eq_true rfl, Nat.le_of_ble_eq_true rfl⟩ ⟨Nat.zero_le _, Nat.zero_le _⟩ 0 rfl rfl rfl rfl (Nat.le_of_ble_eq_true rfl) dX10_value_27 (SG.all rfl) rfl ?_
      cases hf
      exact g_iret X hr hlk dX10_value_30
    · refine g_iconst X dX10_value_31 ?_
      refine g_istore_n X (lv' := [(3, ii 0), (0, .ref (a 0)), (1, ii p1), (2, ii p2)]) dX10_value_32 rfl (by decide) rfl ?_
      refine g_aload_n X dX10_value_33 1 rfl rfl ?_
      refine g_get X (v := .ref (a 1)) 0 0 dX10_value_34 rfl rfl iw_X10_value_X10 (by decide) fl_X10_value_7 rfl ?_
      refine g_sipush X dX10_value_37 (by decide +kernel) ?_
      refine g_iald X hf (by decide) 1 0 dX10_value_40 rfl rfl (fun v9 hf => ?_)
      refine g_iconst X dX10_value_41 ?_
      refine g_isub X dX10_value_42 ?_
      refine g_istore X (lv' := [(4, ii (v9 - 1)), (3, ii 0), (0, .ref (a 0)), (1, ii p1), (2, ii p2)]) dX10_value_43 (by decide) rfl ?_
      refine g_sub (lv' := [(0, .ref (a 0)), (1, ii p1), (2, ii p2), (3, ii 0), (4, ii (v9 - 1))]) [2, 3, 4, 1, 0] rfl ?_
      refine X10_value_L45_ok K l a WC X hr hlk all saved savedMany errors text textLong rdd readMany waits opn place built builtMany parts partMany taken calls lacks callMany total told toldLong p1 p2 res FU 0 (v9 - 1) values hf (fun w34 hf => ?_)
      refine g_aload_n X dX10_value_190 0 rfl rfl ?_
      refine g_get X (v := .ref (a 12)) 0 20 dX10_value_191 rfl rfl iw_X10_value_X10 (by decide) fl_X10_value_43 rfl ?_
      refine g_iconst X dX10_value_194 ?_
      refine g_iald X hf (by decide) 12 0 dX10_value_195 rfl rfl (fun v35 hf => ?_)
      cases hf
      exact g_iret X hr hlk dX10_value_196
set_option maxHeartbeats 4000000 in
set_option maxRecDepth 100000 in
theorem X10_value_ok (K : KE) (l : Launch) (a : Nat → Nat) (all : Arr) (saved : Arr) (savedMany : Int) (errors : Arr) (text : Arr) (textLong : Int) (rdd : Arr) (readMany : Int) (waits : Arr) (opn : Int) (place : Int) (built : Arr) (builtMany : Int) (parts : Arr) (partMany : Int) (taken : Arr) (calls : Arr) (lacks : Arr) (callMany : Int) (total : Int) (values : Arr) (told : Arr) (toldLong : Int) (p1 : Int) (p2 : Int) (res : Int × Arr × Arr) (hf : X10_value all errors values p1 p2 = some res) : CT l K.1 vwCl (kT K) yX10_value wsX10_value rmX10_value [.ref (a 0), ii p1, ii p2] (some (ii res.1)) (c10 K a all saved savedMany errors text textLong rdd readMany waits opn place built builtMany parts partMany taken calls lacks callMany total values told toldLong) (c10 K a all saved savedMany res.2.1 text textLong rdd readMany waits opn place built builtMany parts partMany taken calls lacks callMany total res.2.2 told toldLong) :=
  CT.mk (cc := cX10_value) (maxL := 9) (ret := (some .int)) (by decide) rfl (Nat.le_of_ble_eq_true rfl) (fun p e s m below meth c X hr hlk => X10_value_go K l a _ X hr hlk all saved savedMany errors text textLong rdd readMany waits opn place built builtMany parts partMany taken calls lacks callMany total values told toldLong p1 p2 res hf)
theorem iw_X10_tells_X10 : ∀ w ∈ u_ws RX10 TX10 23, w ∈ wsX10_tells := by decide +kernel
theorem fl_X10_tells_46 : Cond.fieldLink RX10 46 (TX10 21).1 (TX10 21).2.1 (TX10 21).2.2.1 ∈ wsX10_tells := by decide +kernel
theorem fl_X10_tells_227 : Cond.fieldLink RX10 227 (TX10 22).1 (TX10 22).2.1 (TX10 22).2.2.1 ∈ wsX10_tells := by decide +kernel
def rmX10_tells : Room := { frames := 0, cells := 0, slots := 0, locals := 0 }
def X10_tells (told : Arr) (toldLong : Int) (p1 : Int) : Option (Arr × Int) := wrK 200 told toldLong p1 (fun f1 => some (f1, (toldLong + 1)))
set_option maxHeartbeats 4000000 in
set_option maxRecDepth 100000 in
theorem X10_tells_go (K : KE) (l : Launch) (a : Nat → Nat) (WC : va_W) {p : Program} {e : Env} {s : State} {m : MethodId} {args : Array Value} {below : List Frame} {meth : Method} {c : Code} (X : CX p s m args c K.1 vwCl (kT K) (va_A WC s.heap.size) cX10_tells 2 wsX10_tells RX10) (hr : meth.sig.returnType = none) (hlk : meth.locks = false) (all : Arr) (saved : Arr) (savedMany : Int) (errors : Arr) (text : Arr) (textLong : Int) (rdd : Arr) (readMany : Int) (waits : Arr) (opn : Int) (place : Int) (built : Arr) (builtMany : Int) (parts : Arr) (partMany : Int) (taken : Arr) (calls : Arr) (lacks : Arr) (callMany : Int) (total : Int) (values : Arr) (told : Arr) (toldLong : Int) (p1 : Int) (res : Arr × Int) (hf : X10_tells told toldLong p1 = some res) : GO p l e rmX10_tells s m args below meth c K.1 vwCl (va_A WC s.heap.size) (MQ below (QC K.1 vwCl none WC (c10 K a all saved savedMany errors text textLong rdd readMany waits opn place built builtMany parts partMany taken calls lacks callMany total values res.1 res.2) s.heap.size) args s 0 0 (va_A WC s.heap.size)) 2 0 0 0 [(0, .ref (a 0)), (1, ii p1)] [] (c10 K a all saved savedMany errors text textLong rdd readMany waits opn place built builtMany parts partMany taken calls lacks callMany total values told toldLong) := by
  rw [X10_tells] at hf
  refine g_aload_n X dX10_tells_0 0 rfl rfl ?_
  refine g_get X (v := .ref (a 13)) 0 21 dX10_tells_1 rfl rfl iw_X10_tells_X10 (by decide) fl_X10_tells_46 rfl ?_
  refine g_aload_n X dX10_tells_4 0 rfl rfl ?_
  refine g_get X (v := ii toldLong) 0 22 dX10_tells_5 rfl rfl iw_X10_tells_X10 (by decide) fl_X10_tells_227 rfl ?_
  refine g_iload_n X dX10_tells_8 1 rfl rfl ?_
  refine g_iast X hf (by decide) 13 0 dX10_tells_9 rfl rfl (fun f1 => c10 K a all saved savedMany errors text textLong rdd readMany waits opn place built builtMany parts partMany taken calls lacks callMany total values f1 toldLong) (fun _ => rfl) (fun f1 hf => ?_)
  refine g_aload_n X dX10_tells_10 0 rfl rfl ?_
  refine g_dup X dX10_tells_11 rfl ?_
  refine g_get X (v := ii toldLong) 0 22 dX10_tells_12 rfl rfl iw_X10_tells_X10 (by decide) fl_X10_tells_227 rfl ?_
  refine g_iconst X dX10_tells_15 ?_
  refine g_iadd X dX10_tells_16 ?_
  refine g_puti X 0 22 dX10_tells_17 rfl rfl iw_X10_tells_X10 tyX10_ok nmX10 (by decide) fl_X10_tells_227 rfl rfl (Nat.le_of_ble_eq_true rfl) (ws' := c10 K a all saved savedMany errors text textLong rdd readMany waits opn place built builtMany parts partMany taken calls lacks callMany total values f1 (toldLong + 1)) rfl ?_
  cases hf
  exact g_vret X hr hlk dX10_tells_20
set_option maxHeartbeats 4000000 in
set_option maxRecDepth 100000 in
theorem X10_tells_ok (K : KE) (l : Launch) (a : Nat → Nat) (all : Arr) (saved : Arr) (savedMany : Int) (errors : Arr) (text : Arr) (textLong : Int) (rdd : Arr) (readMany : Int) (waits : Arr) (opn : Int) (place : Int) (built : Arr) (builtMany : Int) (parts : Arr) (partMany : Int) (taken : Arr) (calls : Arr) (lacks : Arr) (callMany : Int) (total : Int) (values : Arr) (told : Arr) (toldLong : Int) (p1 : Int) (res : Arr × Int) (hf : X10_tells told toldLong p1 = some res) : CT l K.1 vwCl (kT K) yX10_tells wsX10_tells rmX10_tells [.ref (a 0), ii p1] none (c10 K a all saved savedMany errors text textLong rdd readMany waits opn place built builtMany parts partMany taken calls lacks callMany total values told toldLong) (c10 K a all saved savedMany errors text textLong rdd readMany waits opn place built builtMany parts partMany taken calls lacks callMany total values res.1 res.2) :=
  CT.mk (cc := cX10_tells) (maxL := 2) (ret := none) (by decide) rfl (Nat.le_of_ble_eq_true rfl) (fun p e s m below meth c X hr hlk => X10_tells_go K l a _ X hr hlk all saved savedMany errors text textLong rdd readMany waits opn place built builtMany parts partMany taken calls lacks callMany total values told toldLong p1 res hf)
