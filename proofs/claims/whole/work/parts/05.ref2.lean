theorem iw_X10_parse_X10 : ∀ w ∈ u_ws RX10 TX10 23, w ∈ wsX10_parse := by decide +kernel
theorem fl_X10_parse_139 : Cond.fieldLink RX10 139 (TX10 10).1 (TX10 10).2.1 (TX10 10).2.2.1 ∈ wsX10_parse := by decide +kernel
theorem fl_X10_parse_151 : Cond.fieldLink RX10 151 (TX10 7).1 (TX10 7).2.1 (TX10 7).2.2.1 ∈ wsX10_parse := by decide +kernel
theorem fl_X10_parse_157 : Cond.fieldLink RX10 157 (TX10 9).1 (TX10 9).2.1 (TX10 9).2.2.1 ∈ wsX10_parse := by decide +kernel
theorem fl_X10_parse_119 : Cond.fieldLink RX10 119 (TX10 5).1 (TX10 5).2.1 (TX10 5).2.2.1 ∈ wsX10_parse := by decide +kernel
theorem fl_X10_parse_7 : Cond.fieldLink RX10 7 (TX10 0).1 (TX10 0).2.1 (TX10 0).2.2.1 ∈ wsX10_parse := by decide +kernel
theorem fl_X10_parse_22 : Cond.fieldLink RX10 22 (TX10 6).1 (TX10 6).2.1 (TX10 6).2.2.1 ∈ wsX10_parse := by decide +kernel
def rmX10_parse : Room := { frames := 3, cells := 0, slots := 0, locals := 69 }
def X10_parse_L15 (kx : Arr → Int → Arr → Int → Int → Option (Int × Arr × Arr × Int × Arr × Int × Arr × Int × Int)) (all : Arr) (saved : Arr) (savedMany : Int) (text : Arr) (textLong : Int) : Nat → Arr → Int → Arr → Int → Int → Option (Int × Arr × Arr × Int × Arr × Int × Arr × Int × Int)
  | 0, _, _, _, _, _ => none
  | n + 1, rdd, readMany, waits, opn, place => (X10_readsNode all text textLong rdd readMany waits opn place).bind (fun w1 => brEQ w1.1 0 (some (((-10) - w1.2.2.2.2.2), all, saved, savedMany, w1.2.1, w1.2.2.1, w1.2.2.2.1, w1.2.2.2.2.1, w1.2.2.2.2.2)) (brLE w1.2.2.2.2.1 0 (kx w1.2.1 w1.2.2.1 w1.2.2.2.1 w1.2.2.2.2.1 w1.2.2.2.2.2) (X10_parse_L15 kx all saved savedMany text textLong n w1.2.1 w1.2.2.1 w1.2.2.2.1 w1.2.2.2.2.1 w1.2.2.2.2.2)))
def X10_parse_L62 (kx : Arr → Option (Int × Arr × Arr × Int × Arr × Int × Arr × Int × Int)) (saved : Arr) (savedMany : Int) (text : Arr) (textLong : Int) (rdd : Arr) (readMany : Int) (waits : Arr) (opn : Int) (place : Int) : Nat → Int → Arr → Option (Int × Arr × Arr × Int × Arr × Int × Arr × Int × Int)
  | 0, _, _ => none
  | n + 1, y1, all => brLT y1 readMany (rdK 30 rdd y1 (fun v10 => wrK 186 all (149 + y1) v10 (fun f11 => X10_parse_L62 kx saved savedMany text textLong rdd readMany waits opn place n (y1 + 1) f11))) (kx all)
def X10_parse (all : Arr) (saved : Arr) (savedMany : Int) (text : Arr) (textLong : Int) (rdd : Arr) (readMany : Int) (waits : Arr) (opn : Int) (place : Int) : Option (Int × Arr × Arr × Int × Arr × Int × Arr × Int × Int) := X10_parse_L15 (fun w3 w4 w5 w6 w7 => brLT w7 textLong (some (((-10) - w7), all, saved, savedMany, w3, w4, w5, w6, w7)) ((X10_save all saved savedMany).bind (fun w8 => X10_parse_L62 (fun w12 => wrK 186 w12 148 w4 (fun f13 => some (w4, f13, w8.1, w8.2, w3, w4, w5, w6, w7))) w8.1 w8.2 text textLong w3 w4 w5 w6 w7 FU 0 all))) all saved savedMany text textLong FU rdd 0 waits 0 0
set_option maxHeartbeats 4000000 in
set_option maxRecDepth 100000 in
theorem X10_parse_L15_ok (K : KE) (l : Launch) (a : Nat → Nat) (WC : va_W) {p : Program} {e : Env} {s : State} {m : MethodId} {args : Array Value} {below : List Frame} {meth : Method} {c : Code} (X : CX p s m args c K.1 vwCl (kT K) (va_A WC s.heap.size) cX10_parse 2 wsX10_parse RX10) (hr : meth.sig.returnType = (some .int)) (hlk : meth.locks = false) (all : Arr) (saved : Arr) (savedMany : Int) (errors : Arr) (text : Arr) (textLong : Int) (built : Arr) (builtMany : Int) (parts : Arr) (partMany : Int) (taken : Arr) (calls : Arr) (lacks : Arr) (callMany : Int) (total : Int) (values : Arr) (told : Arr) (toldLong : Int)  (res : Int × Arr × Arr × Int × Arr × Int × Arr × Int × Int) {kx : Arr → Int → Arr → Int → Int → Option (Int × Arr × Arr × Int × Arr × Int × Arr × Int × Int)} : ∀ (n : Nat) (rdd : Arr) (readMany : Int) (waits : Arr) (opn : Int) (place : Int), X10_parse_L15 kx all saved savedMany text textLong n rdd readMany waits opn place = some res → (∀ (rddz : Arr) (readManyz : Int) (waitsz : Arr) (opnz : Int) (placez : Int), kx rddz readManyz waitsz opnz placez = some res → GO p l e rmX10_parse s m args below meth c K.1 vwCl (va_A WC s.heap.size) (MQ below (QC K.1 vwCl (some (ii res.1)) WC (c10 K a res.2.1 res.2.2.1 res.2.2.2.1 errors text textLong res.2.2.2.2.1 res.2.2.2.2.2.1 res.2.2.2.2.2.2.1 res.2.2.2.2.2.2.2.1 res.2.2.2.2.2.2.2.2 built builtMany parts partMany taken calls lacks callMany total values told toldLong) s.heap.size) args s 0 0 (va_A WC s.heap.size)) 2 0 0 37 [(0, .ref (a 0))] [] (c10 K a all saved savedMany errors text textLong rddz readManyz waitsz opnz placez built builtMany parts partMany taken calls lacks callMany total values told toldLong)) → GO p l e rmX10_parse s m args below meth c K.1 vwCl (va_A WC s.heap.size) (MQ below (QC K.1 vwCl (some (ii res.1)) WC (c10 K a res.2.1 res.2.2.1 res.2.2.2.1 errors text textLong res.2.2.2.2.1 res.2.2.2.2.2.1 res.2.2.2.2.2.2.1 res.2.2.2.2.2.2.2.1 res.2.2.2.2.2.2.2.2 built builtMany parts partMany taken calls lacks callMany total values told toldLong) s.heap.size) args s 0 0 (va_A WC s.heap.size)) 2 0 0 15 [(0, .ref (a 0))] [] (c10 K a all saved savedMany errors text textLong rdd readMany waits opn place built builtMany parts partMany taken calls lacks callMany total values told toldLong) := by
  intro n
  induction n with
  | zero =>
    intro rdd readMany waits opn place hf _
    rw [X10_parse_L15] at hf
    cases hf
  | succ n ih =>
    intro rdd readMany waits opn place hf hk
    rw [X10_parse_L15] at hf
    refine g_aload_n X dX10_parse_15 0 rfl rfl ?_
    obtain ⟨w1, hc2, hf⟩ := Option.bind_eq_some_iff.mp hf
    refine g_callV X (As := []) (st := []) (st1 := [ii w1.1]) (ws' := c10 K a all saved savedMany errors text textLong w1.2.1 w1.2.2.1 w1.2.2.2.1 w1.2.2.2.2.1 w1.2.2.2.2.2 built builtMany parts partMany taken calls lacks callMany total values told toldLong) (X10_readsNode_ok K l a all saved savedMany errors text textLong rdd readMany waits opn place built builtMany parts partMany taken calls lacks callMany total values told toldLong w1 hc2) gX10_parse_X10_readsNode rfl 0 (by decide +kernel) ⟨rfl, rfl⟩ ⟨Nat.le_of_ble_eq_true rfl, Nat.le_of_ble_eq_true rfl⟩ ⟨Nat.zero_le _, Nat.zero_le _⟩ 0 rfl rfl rfl rfl (Nat.le_of_ble_eq_true rfl) dX10_parse_16 (SG.all rfl) rfl ?_
    refine g_if_ne X hf 30 dX10_parse_19 (by decide) (fun hf => ?_) (fun hf => ?_)
    · refine g_bipush X dX10_parse_22 (by decide +kernel) ?_
      refine g_aload_n X dX10_parse_24 0 rfl rfl ?_
      refine g_get X (v := ii w1.2.2.2.2.2) 0 10 dX10_parse_25 rfl rfl iw_X10_parse_X10 (by decide) fl_X10_parse_139 rfl ?_
      refine g_isub X dX10_parse_28 ?_
      cases hf
      exact g_iret X hr hlk dX10_parse_29
    · refine g_aload_n X dX10_parse_30 0 rfl rfl ?_
      refine g_get X (v := ii w1.2.2.2.2.1) 0 9 dX10_parse_31 rfl rfl iw_X10_parse_X10 (by decide) fl_X10_parse_157 rfl ?_
      refine g_if_gt X hf 15 dX10_parse_34 (by decide) (fun hf => ?_) (fun hf => ?_)
      · exact hk w1.2.1 w1.2.2.1 w1.2.2.2.1 w1.2.2.2.2.1 w1.2.2.2.2.2 hf
      · exact ih w1.2.1 w1.2.2.1 w1.2.2.2.1 w1.2.2.2.2.1 w1.2.2.2.2.2 hf hk
set_option maxHeartbeats 4000000 in
set_option maxRecDepth 100000 in
theorem X10_parse_L62_ok (K : KE) (l : Launch) (a : Nat → Nat) (WC : va_W) {p : Program} {e : Env} {s : State} {m : MethodId} {args : Array Value} {below : List Frame} {meth : Method} {c : Code} (X : CX p s m args c K.1 vwCl (kT K) (va_A WC s.heap.size) cX10_parse 2 wsX10_parse RX10) (hr : meth.sig.returnType = (some .int)) (hlk : meth.locks = false) (saved : Arr) (savedMany : Int) (errors : Arr) (text : Arr) (textLong : Int) (rdd : Arr) (readMany : Int) (waits : Arr) (opn : Int) (place : Int) (built : Arr) (builtMany : Int) (parts : Arr) (partMany : Int) (taken : Arr) (calls : Arr) (lacks : Arr) (callMany : Int) (total : Int) (values : Arr) (told : Arr) (toldLong : Int)  (res : Int × Arr × Arr × Int × Arr × Int × Arr × Int × Int) {kx : Arr → Option (Int × Arr × Arr × Int × Arr × Int × Arr × Int × Int)} : ∀ (n : Nat) (y1 : Int) (all : Arr), X10_parse_L62 kx saved savedMany text textLong rdd readMany waits opn place n y1 all = some res → (∀ (allz : Arr), kx allz = some res → GO p l e rmX10_parse s m args below meth c K.1 vwCl (va_A WC s.heap.size) (MQ below (QC K.1 vwCl (some (ii res.1)) WC (c10 K a res.2.1 res.2.2.1 res.2.2.2.1 errors text textLong res.2.2.2.2.1 res.2.2.2.2.2.1 res.2.2.2.2.2.2.1 res.2.2.2.2.2.2.2.1 res.2.2.2.2.2.2.2.2 built builtMany parts partMany taken calls lacks callMany total values told toldLong) s.heap.size) args s 0 0 (va_A WC s.heap.size)) 2 0 0 92 [(0, .ref (a 0))] [] (c10 K a allz saved savedMany errors text textLong rdd readMany waits opn place built builtMany parts partMany taken calls lacks callMany total values told toldLong)) → GO p l e rmX10_parse s m args below meth c K.1 vwCl (va_A WC s.heap.size) (MQ below (QC K.1 vwCl (some (ii res.1)) WC (c10 K a res.2.1 res.2.2.1 res.2.2.2.1 errors text textLong res.2.2.2.2.1 res.2.2.2.2.2.1 res.2.2.2.2.2.2.1 res.2.2.2.2.2.2.2.1 res.2.2.2.2.2.2.2.2 built builtMany parts partMany taken calls lacks callMany total values told toldLong) s.heap.size) args s 0 0 (va_A WC s.heap.size)) 2 0 0 62 [(0, .ref (a 0)), (1, ii y1)] [] (c10 K a all saved savedMany errors text textLong rdd readMany waits opn place built builtMany parts partMany taken calls lacks callMany total values told toldLong) := by
  intro n
  induction n with
  | zero =>
    intro y1 all hf _
    rw [X10_parse_L62] at hf
    cases hf
  | succ n ih =>
    intro y1 all hf hk
    rw [X10_parse_L62] at hf
    refine g_iload_n X dX10_parse_62 1 rfl rfl ?_
    refine g_aload_n X dX10_parse_63 0 rfl rfl ?_
    refine g_get X (v := ii readMany) 0 7 dX10_parse_64 rfl rfl iw_X10_parse_X10 (by decide) fl_X10_parse_151 rfl ?_
    refine g_icmp_ge X hf 92 dX10_parse_67 (by decide) (fun hf => ?_) (fun hf => ?_)
    · refine g_aload_n X dX10_parse_70 0 rfl rfl ?_
      refine g_get X (v := .ref (a 1)) 0 0 dX10_parse_71 rfl rfl iw_X10_parse_X10 (by decide) fl_X10_parse_7 rfl ?_
      refine g_sipush X dX10_parse_74 (by decide +kernel) ?_
      refine g_iload_n X dX10_parse_77 1 rfl rfl ?_
      refine g_iadd X dX10_parse_78 ?_
      refine g_aload_n X dX10_parse_79 0 rfl rfl ?_
      refine g_get X (v := .ref (a 5)) 0 6 dX10_parse_80 rfl rfl iw_X10_parse_X10 (by decide) fl_X10_parse_22 rfl ?_
      refine g_iload_n X dX10_parse_83 1 rfl rfl ?_
      refine g_iald X hf (by decide) 5 0 dX10_parse_84 rfl rfl (fun v10 hf => ?_)
      refine g_iast X hf (by decide) 1 0 dX10_parse_85 rfl rfl (fun f11 => c10 K a f11 saved savedMany errors text textLong rdd readMany waits opn place built builtMany parts partMany taken calls lacks callMany total values told toldLong) (fun _ => rfl) (fun f11 hf => ?_)
      refine g_iinc X (lv' := [(1, ii (y1 + 1)), (0, .ref (a 0))]) dX10_parse_86 1 rfl (by decide) rfl ?_
      refine g_goto X 62 dX10_parse_89 (by decide) ?_
      refine g_sub (lv' := [(0, .ref (a 0)), (1, ii (y1 + 1))]) [1, 0] rfl ?_
      exact ih (y1 + 1) f11 hf hk
    · refine g_sub (lv' := [(0, .ref (a 0))]) [0] rfl ?_
      exact hk all hf
set_option maxHeartbeats 4000000 in
set_option maxRecDepth 100000 in
theorem X10_parse_go (K : KE) (l : Launch) (a : Nat → Nat) (WC : va_W) {p : Program} {e : Env} {s : State} {m : MethodId} {args : Array Value} {below : List Frame} {meth : Method} {c : Code} (X : CX p s m args c K.1 vwCl (kT K) (va_A WC s.heap.size) cX10_parse 2 wsX10_parse RX10) (hr : meth.sig.returnType = (some .int)) (hlk : meth.locks = false) (all : Arr) (saved : Arr) (savedMany : Int) (errors : Arr) (text : Arr) (textLong : Int) (rdd : Arr) (readMany : Int) (waits : Arr) (opn : Int) (place : Int) (built : Arr) (builtMany : Int) (parts : Arr) (partMany : Int) (taken : Arr) (calls : Arr) (lacks : Arr) (callMany : Int) (total : Int) (values : Arr) (told : Arr) (toldLong : Int) (res : Int × Arr × Arr × Int × Arr × Int × Arr × Int × Int) (hf : X10_parse all saved savedMany text textLong rdd readMany waits opn place = some res) : GO p l e rmX10_parse s m args below meth c K.1 vwCl (va_A WC s.heap.size) (MQ below (QC K.1 vwCl (some (ii res.1)) WC (c10 K a res.2.1 res.2.2.1 res.2.2.2.1 errors text textLong res.2.2.2.2.1 res.2.2.2.2.2.1 res.2.2.2.2.2.2.1 res.2.2.2.2.2.2.2.1 res.2.2.2.2.2.2.2.2 built builtMany parts partMany taken calls lacks callMany total values told toldLong) s.heap.size) args s 0 0 (va_A WC s.heap.size)) 2 0 0 0 [(0, .ref (a 0))] [] (c10 K a all saved savedMany errors text textLong rdd readMany waits opn place built builtMany parts partMany taken calls lacks callMany total values told toldLong) := by
  rw [X10_parse] at hf
  refine g_aload_n X dX10_parse_0 0 rfl rfl ?_
  refine g_iconst X dX10_parse_1 ?_
  refine g_puti X 0 10 dX10_parse_2 rfl rfl iw_X10_parse_X10 tyX10_ok nmX10 (by decide) fl_X10_parse_139 rfl rfl (Nat.le_of_ble_eq_true rfl) (ws' := c10 K a all saved savedMany errors text textLong rdd readMany waits opn 0 built builtMany parts partMany taken calls lacks callMany total values told toldLong) rfl ?_
  refine g_aload_n X dX10_parse_5 0 rfl rfl ?_
  refine g_iconst X dX10_parse_6 ?_
  refine g_puti X 0 7 dX10_parse_7 rfl rfl iw_X10_parse_X10 tyX10_ok nmX10 (by decide) fl_X10_parse_151 rfl rfl (Nat.le_of_ble_eq_true rfl) (ws' := c10 K a all saved savedMany errors text textLong rdd 0 waits opn 0 built builtMany parts partMany taken calls lacks callMany total values told toldLong) rfl ?_
  refine g_aload_n X dX10_parse_10 0 rfl rfl ?_
  refine g_iconst X dX10_parse_11 ?_
  refine g_puti X 0 9 dX10_parse_12 rfl rfl iw_X10_parse_X10 tyX10_ok nmX10 (by decide) fl_X10_parse_157 rfl rfl (Nat.le_of_ble_eq_true rfl) (ws' := c10 K a all saved savedMany errors text textLong rdd 0 waits 0 0 built builtMany parts partMany taken calls lacks callMany total values told toldLong) rfl ?_
  refine X10_parse_L15_ok K l a WC X hr hlk all saved savedMany errors text textLong built builtMany parts partMany taken calls lacks callMany total values told toldLong res FU rdd 0 waits 0 0 hf (fun w3 w4 w5 w6 w7 hf => ?_)
  refine g_aload_n X dX10_parse_37 0 rfl rfl ?_
  refine g_get X (v := ii w7) 0 10 dX10_parse_38 rfl rfl iw_X10_parse_X10 (by decide) fl_X10_parse_139 rfl ?_
  refine g_aload_n X dX10_parse_41 0 rfl rfl ?_
  refine g_get X (v := ii textLong) 0 5 dX10_parse_42 rfl rfl iw_X10_parse_X10 (by decide) fl_X10_parse_119 rfl ?_
  refine g_icmp_ge X hf 56 dX10_parse_45 (by decide) (fun hf => ?_) (fun hf => ?_)
  · refine g_bipush X dX10_parse_48 (by decide +kernel) ?_
    refine g_aload_n X dX10_parse_50 0 rfl rfl ?_
    refine g_get X (v := ii w7) 0 10 dX10_parse_51 rfl rfl iw_X10_parse_X10 (by decide) fl_X10_parse_139 rfl ?_
    refine g_isub X dX10_parse_54 ?_
    cases hf
    exact g_iret X hr hlk dX10_parse_55
  · refine g_aload_n X dX10_parse_56 0 rfl rfl ?_
    obtain ⟨w8, hc9, hf⟩ := Option.bind_eq_some_iff.mp hf
    refine g_callV X (As := []) (st := []) (st1 := []) (ws' := c10 K a all w8.1 w8.2 errors text textLong w3 w4 w5 w6 w7 built builtMany parts partMany taken calls lacks callMany total values told toldLong) (X10_save_ok K l a all saved savedMany errors text textLong w3 w4 w5 w6 w7 built builtMany parts partMany taken calls lacks callMany total values told toldLong w8 hc9) gX10_parse_X10_save rfl 0 (by decide +kernel) ⟨rfl, rfl⟩ ⟨Nat.le_of_ble_eq_true rfl, Nat.le_of_ble_eq_true rfl⟩ ⟨Nat.zero_le _, Nat.zero_le _⟩ 0 rfl rfl rfl rfl (Nat.le_of_ble_eq_true rfl) dX10_parse_57 (SG.all rfl) rfl ?_
    refine g_iconst X dX10_parse_60 ?_
    refine g_istore_n X (lv' := [(1, ii 0), (0, .ref (a 0))]) dX10_parse_61 rfl (by decide) rfl ?_
    refine g_sub (lv' := [(0, .ref (a 0)), (1, ii 0)]) [1, 0] rfl ?_
    refine X10_parse_L62_ok K l a WC X hr hlk w8.1 w8.2 errors text textLong w3 w4 w5 w6 w7 built builtMany parts partMany taken calls lacks callMany total values told toldLong res FU 0 all hf (fun w12 hf => ?_)
    refine g_aload_n X dX10_parse_92 0 rfl rfl ?_
    refine g_get X (v := .ref (a 1)) 0 0 dX10_parse_93 rfl rfl iw_X10_parse_X10 (by decide) fl_X10_parse_7 rfl ?_
    refine g_sipush X dX10_parse_96 (by decide +kernel) ?_
    refine g_aload_n X dX10_parse_99 0 rfl rfl ?_
    refine g_get X (v := ii w4) 0 7 dX10_parse_100 rfl rfl iw_X10_parse_X10 (by decide) fl_X10_parse_151 rfl ?_
    refine g_iast X hf (by decide) 1 0 dX10_parse_103 rfl rfl (fun f13 => c10 K a f13 w8.1 w8.2 errors text textLong w3 w4 w5 w6 w7 built builtMany parts partMany taken calls lacks callMany total values told toldLong) (fun _ => rfl) (fun f13 hf => ?_)
    refine g_aload_n X dX10_parse_104 0 rfl rfl ?_
    refine g_get X (v := ii w4) 0 7 dX10_parse_105 rfl rfl iw_X10_parse_X10 (by decide) fl_X10_parse_151 rfl ?_
    cases hf
    exact g_iret X hr hlk dX10_parse_108
set_option maxHeartbeats 4000000 in
set_option maxRecDepth 100000 in
theorem X10_parse_ok (K : KE) (l : Launch) (a : Nat → Nat) (all : Arr) (saved : Arr) (savedMany : Int) (errors : Arr) (text : Arr) (textLong : Int) (rdd : Arr) (readMany : Int) (waits : Arr) (opn : Int) (place : Int) (built : Arr) (builtMany : Int) (parts : Arr) (partMany : Int) (taken : Arr) (calls : Arr) (lacks : Arr) (callMany : Int) (total : Int) (values : Arr) (told : Arr) (toldLong : Int) (res : Int × Arr × Arr × Int × Arr × Int × Arr × Int × Int) (hf : X10_parse all saved savedMany text textLong rdd readMany waits opn place = some res) : CT l K.1 vwCl (kT K) yX10_parse wsX10_parse rmX10_parse [.ref (a 0)] (some (ii res.1)) (c10 K a all saved savedMany errors text textLong rdd readMany waits opn place built builtMany parts partMany taken calls lacks callMany total values told toldLong) (c10 K a res.2.1 res.2.2.1 res.2.2.2.1 errors text textLong res.2.2.2.2.1 res.2.2.2.2.2.1 res.2.2.2.2.2.2.1 res.2.2.2.2.2.2.2.1 res.2.2.2.2.2.2.2.2 built builtMany parts partMany taken calls lacks callMany total values told toldLong) :=
  CT.mk (cc := cX10_parse) (maxL := 2) (ret := (some .int)) (by decide) rfl (Nat.le_of_ble_eq_true rfl) (fun p e s m below meth c X hr hlk => X10_parse_go K l a _ X hr hlk all saved savedMany errors text textLong rdd readMany waits opn place built builtMany parts partMany taken calls lacks callMany total values told toldLong res hf)
theorem iw_X10_hasEffect_X10 : ∀ w ∈ u_ws RX10 TX10 23, w ∈ wsX10_hasEffect := by decide +kernel
theorem fl_X10_hasEffect_31 : Cond.fieldLink RX10 31 (TX10 13).1 (TX10 13).2.1 (TX10 13).2.2.1 ∈ wsX10_hasEffect := by decide +kernel
theorem fl_X10_hasEffect_28 : Cond.fieldLink RX10 28 (TX10 11).1 (TX10 11).2.1 (TX10 11).2.2.1 ∈ wsX10_hasEffect := by decide +kernel
theorem fl_X10_hasEffect_7 : Cond.fieldLink RX10 7 (TX10 0).1 (TX10 0).2.1 (TX10 0).2.2.1 ∈ wsX10_hasEffect := by decide +kernel
def rmX10_hasEffect : Room := { frames := 2, cells := 0, slots := 0, locals := 41 }
def X10_hasEffect_L9 (kx : Int → Option (Int)) (all : Arr) (built : Arr) (parts : Arr) (x1 : Int) : Nat → Int → Int → Option (Int)
  | 0, _, _ => none
  | n + 1, y2, y3 => rdK 31 parts (x1 + 1) (fun v2 => brLT y3 v2 (ltK (fun q3 : Int => X10_hasEffect_L9 kx all built parts x1 n q3 (y3 + 1)) (fun j4 => ltK (fun q5 : Unit => j4 1) (fun j6 => brEQ y2 0 (rdK 30 built y3 (fun v7 => (X10_kind v7).bind (fun v8 => ltK (fun q10 : Unit => j4 0) (fun j11 => brLE v8 2 (j11 ()) (rdK 30 built y3 (fun v12 => (X10_function v12).bind (fun v13 => rdK 186 all (v13 + 1) (fun v15 => brEQ v15 1 (j6 ()) (j11 ()))))))))) (j6 ())))) (kx y2))
def X10_hasEffect (all : Arr) (built : Arr) (parts : Arr) (p1 : Int) : Option (Int) := rdK 31 parts p1 (fun v1 => X10_hasEffect_L9 (fun w16 => boK w16 (some w16)) all built parts p1 FU 0 v1)
set_option maxHeartbeats 4000000 in
set_option maxRecDepth 100000 in
theorem X10_hasEffect_L9_ok (K : KE) (l : Launch) (a : Nat → Nat) (WC : va_W) {p : Program} {e : Env} {s : State} {m : MethodId} {args : Array Value} {below : List Frame} {meth : Method} {c : Code} (X : CX p s m args c K.1 vwCl (kT K) (va_A WC s.heap.size) cX10_hasEffect 4 wsX10_hasEffect RX10) (hr : meth.sig.returnType = (some .boolean)) (hlk : meth.locks = false) (all : Arr) (saved : Arr) (savedMany : Int) (errors : Arr) (text : Arr) (textLong : Int) (rdd : Arr) (readMany : Int) (waits : Arr) (opn : Int) (place : Int) (built : Arr) (builtMany : Int) (parts : Arr) (partMany : Int) (taken : Arr) (calls : Arr) (lacks : Arr) (callMany : Int) (total : Int) (values : Arr) (told : Arr) (toldLong : Int) (x1 : Int) (res : Int) {kx : Int → Option (Int)} : ∀ (n : Nat) (y2 : Int) (y3 : Int), X10_hasEffect_L9 kx all built parts x1 n y2 y3 = some res → (∀ (z2 : Int), kx z2 = some res → GO p l e rmX10_hasEffect s m args below meth c K.1 vwCl (va_A WC s.heap.size) (MQ below (QC K.1 vwCl (some (ii res)) WC (c10 K a all saved savedMany errors text textLong rdd readMany waits opn place built builtMany parts partMany taken calls lacks callMany total values told toldLong) s.heap.size) args s 0 0 (va_A WC s.heap.size)) 4 0 0 71 [(2, ii z2)] [] (c10 K a all saved savedMany errors text textLong rdd readMany waits opn place built builtMany parts partMany taken calls lacks callMany total values told toldLong)) → GO p l e rmX10_hasEffect s m args below meth c K.1 vwCl (va_A WC s.heap.size) (MQ below (QC K.1 vwCl (some (ii res)) WC (c10 K a all saved savedMany errors text textLong rdd readMany waits opn place built builtMany parts partMany taken calls lacks callMany total values told toldLong) s.heap.size) args s 0 0 (va_A WC s.heap.size)) 4 0 0 9 [(0, .ref (a 0)), (1, ii x1), (2, ii y2), (3, ii y3)] [] (c10 K a all saved savedMany errors text textLong rdd readMany waits opn place built builtMany parts partMany taken calls lacks callMany total values told toldLong) := by
  intro n
  induction n with
  | zero =>
    intro y2 y3 hf _
    rw [X10_hasEffect_L9] at hf
    cases hf
  | succ n ih =>
    intro y2 y3 hf hk
    rw [X10_hasEffect_L9] at hf
    refine g_iload_n X dX10_hasEffect_9 3 rfl rfl ?_
    refine g_aload_n X dX10_hasEffect_10 0 rfl rfl ?_
    refine g_get X (v := .ref (a 8)) 0 13 dX10_hasEffect_11 rfl rfl iw_X10_hasEffect_X10 (by decide) fl_X10_hasEffect_31 rfl ?_
    refine g_iload_n X dX10_hasEffect_14 1 rfl rfl ?_
    refine g_iconst X dX10_hasEffect_15 ?_
    refine g_iadd X dX10_hasEffect_16 ?_
    refine g_iald X hf (by decide) 8 0 dX10_hasEffect_17 rfl rfl (fun v2 hf => ?_)
    refine g_icmp_ge X hf 71 dX10_hasEffect_18 (by decide) (fun hf => ?_) (fun hf => ?_)
    · refine g_iload_n X dX10_hasEffect_21 2 rfl rfl ?_
      refine g_let (G := fun q3 : Int => GO p l e rmX10_hasEffect s m args below meth c K.1 vwCl (va_A WC s.heap.size) (MQ below (QC K.1 vwCl (some (ii res)) WC (c10 K a all saved savedMany errors text textLong rdd readMany waits opn place built builtMany parts partMany taken calls lacks callMany total values told toldLong) s.heap.size) args s 0 0 (va_A WC s.heap.size)) 4 0 0 64 [(0, .ref (a 0)), (1, ii x1), (3, ii y3)] [ii q3] (c10 K a all saved savedMany errors text textLong rdd readMany waits opn place built builtMany parts partMany taken calls lacks callMany total values told toldLong)) hf (fun q3 hf => ?_) (fun j4 hj4 hf => ?_)
      · refine g_istore_n X (lv' := [(2, ii q3), (0, .ref (a 0)), (1, ii x1), (3, ii y3)]) dX10_hasEffect_64 rfl (by decide) rfl ?_
        refine g_iinc X (lv' := [(3, ii (y3 + 1)), (2, ii q3), (0, .ref (a 0)), (1, ii x1)]) dX10_hasEffect_65 3 rfl (by decide) rfl ?_
        refine g_goto X 9 dX10_hasEffect_68 (by decide) ?_
        refine g_sub (lv' := [(0, .ref (a 0)), (1, ii x1), (2, ii q3), (3, ii (y3 + 1))]) [2, 3, 1, 0] rfl ?_
        exact ih q3 (y3 + 1) hf hk
      · refine g_let (G := fun q5 : Unit => GO p l e rmX10_hasEffect s m args below meth c K.1 vwCl (va_A WC s.heap.size) (MQ below (QC K.1 vwCl (some (ii res)) WC (c10 K a all saved savedMany errors text textLong rdd readMany waits opn place built builtMany parts partMany taken calls lacks callMany total values told toldLong) s.heap.size) args s 0 0 (va_A WC s.heap.size)) 4 0 0 59 [(0, .ref (a 0)), (1, ii x1), (3, ii y3)] [] (c10 K a all saved savedMany errors text textLong rdd readMany waits opn place built builtMany parts partMany taken calls lacks callMany total values told toldLong)) hf (fun q5 hf => ?_) (fun j6 hj6 hf => ?_)
        · refine g_iconst X dX10_hasEffect_59 ?_
          refine g_goto X 64 dX10_hasEffect_60 (by decide) ?_
          exact hj4 1 hf
        · refine g_if_ne X hf 59 dX10_hasEffect_22 (by decide) (fun hf => ?_) (fun hf => ?_)
          · refine g_aload_n X dX10_hasEffect_25 0 rfl rfl ?_
            refine g_get X (v := .ref (a 7)) 0 11 dX10_hasEffect_26 rfl rfl iw_X10_hasEffect_X10 (by decide) fl_X10_hasEffect_28 rfl ?_
            refine g_iload_n X dX10_hasEffect_29 3 rfl rfl ?_
            refine g_iald X hf (by decide) 7 0 dX10_hasEffect_30 rfl rfl (fun v7 hf => ?_)
            obtain ⟨v8, hc9, hf⟩ := Option.bind_eq_some_iff.mp hf
            refine g_callS X (As := [ii v7]) (st := []) (st1 := [ii v8]) (ws' := c10 K a all saved savedMany errors text textLong rdd readMany waits opn place built builtMany parts partMany taken calls lacks callMany total values told toldLong) (X10_kind_ok K l v7 v8 hc9) gX10_hasEffect_X10_kind rfl 1 (by decide +kernel) ⟨rfl, rfl⟩ ⟨Nat.le_of_ble_eq_true rfl, Nat.le_of_ble_eq_true rfl⟩ ⟨Nat.zero_le _, Nat.zero_le _⟩ rfl rfl (Nat.le_of_ble_eq_true rfl) dX10_hasEffect_31 SG.none rfl ?_
            refine g_iconst X dX10_hasEffect_34 ?_
            refine g_let (G := fun q10 : Unit => GO p l e rmX10_hasEffect s m args below meth c K.1 vwCl (va_A WC s.heap.size) (MQ below (QC K.1 vwCl (some (ii res)) WC (c10 K a all saved savedMany errors text textLong rdd readMany waits opn place built builtMany parts partMany taken calls lacks callMany total values told toldLong) s.heap.size) args s 0 0 (va_A WC s.heap.size)) 4 0 0 63 [(0, .ref (a 0)), (1, ii x1), (3, ii y3)] [] (c10 K a all saved savedMany errors text textLong rdd readMany waits opn place built builtMany parts partMany taken calls lacks callMany total values told toldLong)) hf (fun q10 hf => ?_) (fun j11 hj11 hf => ?_)
            · refine g_iconst X dX10_hasEffect_63 ?_
              exact hj4 0 hf
            · refine g_icmp_le X hf 63 dX10_hasEffect_35 (by decide) (fun hf => ?_) (fun hf => ?_)
              · refine g_sub (lv' := [(0, .ref (a 0)), (1, ii x1), (3, ii y3)]) [0, 1, 3] rfl ?_
                exact hj11 () hf
              · refine g_aload_n X dX10_hasEffect_38 0 rfl rfl ?_
                refine g_get X (v := .ref (a 1)) 0 0 dX10_hasEffect_39 rfl rfl iw_X10_hasEffect_X10 (by decide) fl_X10_hasEffect_7 rfl ?_
                refine g_aload_n X dX10_hasEffect_42 0 rfl rfl ?_
                refine g_aload_n X dX10_hasEffect_43 0 rfl rfl ?_
                refine g_get X (v := .ref (a 7)) 0 11 dX10_hasEffect_44 rfl rfl iw_X10_hasEffect_X10 (by decide) fl_X10_hasEffect_28 rfl ?_
                refine g_iload_n X dX10_hasEffect_47 3 rfl rfl ?_
                refine g_iald X hf (by decide) 7 0 dX10_hasEffect_48 rfl rfl (fun v12 hf => ?_)
                obtain ⟨v13, hc14, hf⟩ := Option.bind_eq_some_iff.mp hf
                refine g_callV X (As := [ii v12]) (st := [.ref (a 1)]) (st1 := [ii v13, .ref (a 1)]) (ws' := c10 K a all saved savedMany errors text textLong rdd readMany waits opn place built builtMany parts partMany taken calls lacks callMany total values told toldLong) (X10_function_ok K l a all saved savedMany errors text textLong rdd readMany waits opn place built builtMany parts partMany taken calls lacks callMany total values told toldLong v12 v13 hc14) gX10_hasEffect_X10_function rfl 1 (by decide +kernel) ⟨rfl, rfl⟩ ⟨Nat.le_of_ble_eq_true rfl, Nat.le_of_ble_eq_true rfl⟩ ⟨Nat.zero_le _, Nat.zero_le _⟩ 0 rfl rfl rfl rfl (Nat.le_of_ble_eq_true rfl) dX10_hasEffect_49 (SG.all rfl) rfl ?_
                refine g_iconst X dX10_hasEffect_52 ?_
                refine g_iadd X dX10_hasEffect_53 ?_
                refine g_iald X hf (by decide) 1 0 dX10_hasEffect_54 rfl rfl (fun v15 hf => ?_)
                refine g_iconst X dX10_hasEffect_55 ?_
                refine g_icmp_ne X hf 63 dX10_hasEffect_56 (by decide) (fun hf => ?_) (fun hf => ?_)
                · refine g_sub (lv' := [(0, .ref (a 0)), (1, ii x1), (3, ii y3)]) [0, 1, 3] rfl ?_
                  exact hj6 () hf
                · refine g_sub (lv' := [(0, .ref (a 0)), (1, ii x1), (3, ii y3)]) [0, 1, 3] rfl ?_
                  exact hj11 () hf
          · refine g_sub (lv' := [(0, .ref (a 0)), (1, ii x1), (3, ii y3)]) [0, 1, 3] rfl ?_
            exact hj6 () hf
    · refine g_sub (lv' := [(2, ii y2)]) [2] rfl ?_
      exact hk y2 hf
set_option maxHeartbeats 4000000 in
set_option maxRecDepth 100000 in
theorem X10_hasEffect_go (K : KE) (l : Launch) (a : Nat → Nat) (WC : va_W) {p : Program} {e : Env} {s : State} {m : MethodId} {args : Array Value} {below : List Frame} {meth : Method} {c : Code} (X : CX p s m args c K.1 vwCl (kT K) (va_A WC s.heap.size) cX10_hasEffect 4 wsX10_hasEffect RX10) (hr : meth.sig.returnType = (some .boolean)) (hlk : meth.locks = false) (all : Arr) (saved : Arr) (savedMany : Int) (errors : Arr) (text : Arr) (textLong : Int) (rdd : Arr) (readMany : Int) (waits : Arr) (opn : Int) (place : Int) (built : Arr) (builtMany : Int) (parts : Arr) (partMany : Int) (taken : Arr) (calls : Arr) (lacks : Arr) (callMany : Int) (total : Int) (values : Arr) (told : Arr) (toldLong : Int) (p1 : Int) (res : Int) (hf : X10_hasEffect all built parts p1 = some res) : GO p l e rmX10_hasEffect s m args below meth c K.1 vwCl (va_A WC s.heap.size) (MQ below (QC K.1 vwCl (some (ii res)) WC (c10 K a all saved savedMany errors text textLong rdd readMany waits opn place built builtMany parts partMany taken calls lacks callMany total values told toldLong) s.heap.size) args s 0 0 (va_A WC s.heap.size)) 4 0 0 0 [(0, .ref (a 0)), (1, ii p1)] [] (c10 K a all saved savedMany errors text textLong rdd readMany waits opn place built builtMany parts partMany taken calls lacks callMany total values told toldLong) := by
  rw [X10_hasEffect] at hf
  refine g_iconst X dX10_hasEffect_0 ?_
  refine g_istore_n X (lv' := [(2, ii 0), (0, .ref (a 0)), (1, ii p1)]) dX10_hasEffect_1 rfl (by decide) rfl ?_
  refine g_aload_n X dX10_hasEffect_2 1 rfl rfl ?_
  refine g_get X (v := .ref (a 8)) 0 13 dX10_hasEffect_3 rfl rfl iw_X10_hasEffect_X10 (by decide) fl_X10_hasEffect_31 rfl ?_
  refine g_iload_n X dX10_hasEffect_6 2 rfl rfl ?_
  refine g_iald X hf (by decide) 8 0 dX10_hasEffect_7 rfl rfl (fun v1 hf => ?_)
  refine g_istore_n X (lv' := [(3, ii v1), (2, ii 0), (0, .ref (a 0)), (1, ii p1)]) dX10_hasEffect_8 rfl (by decide) rfl ?_
  refine g_sub (lv' := [(0, .ref (a 0)), (1, ii p1), (2, ii 0), (3, ii v1)]) [2, 3, 1, 0] rfl ?_
  refine X10_hasEffect_L9_ok K l a WC X hr hlk all saved savedMany errors text textLong rdd readMany waits opn place built builtMany parts partMany taken calls lacks callMany total values told toldLong p1 res FU 0 v1 hf (fun w16 hf => ?_)
  refine g_iload_n X dX10_hasEffect_71 0 rfl rfl ?_
  obtain ⟨hb17, hf⟩ := boK_some hf
  cases hf
  exact g_zret X hb17 hr hlk dX10_hasEffect_72
set_option maxHeartbeats 4000000 in
set_option maxRecDepth 100000 in
theorem X10_hasEffect_ok (K : KE) (l : Launch) (a : Nat → Nat) (all : Arr) (saved : Arr) (savedMany : Int) (errors : Arr) (text : Arr) (textLong : Int) (rdd : Arr) (readMany : Int) (waits : Arr) (opn : Int) (place : Int) (built : Arr) (builtMany : Int) (parts : Arr) (partMany : Int) (taken : Arr) (calls : Arr) (lacks : Arr) (callMany : Int) (total : Int) (values : Arr) (told : Arr) (toldLong : Int) (p1 : Int) (res : Int) (hf : X10_hasEffect all built parts p1 = some res) : CT l K.1 vwCl (kT K) yX10_hasEffect wsX10_hasEffect rmX10_hasEffect [.ref (a 0), ii p1] (some (ii res)) (c10 K a all saved savedMany errors text textLong rdd readMany waits opn place built builtMany parts partMany taken calls lacks callMany total values told toldLong) (c10 K a all saved savedMany errors text textLong rdd readMany waits opn place built builtMany parts partMany taken calls lacks callMany total values told toldLong) :=
  CT.mk (cc := cX10_hasEffect) (maxL := 4) (ret := (some .boolean)) (by decide) rfl (Nat.le_of_ble_eq_true rfl) (fun p e s m below meth c X hr hlk => X10_hasEffect_go K l a _ X hr hlk all saved savedMany errors text textLong rdd readMany waits opn place built builtMany parts partMany taken calls lacks callMany total values told toldLong p1 res hf)
theorem iw_X10_putsCall_X10 : ∀ w ∈ u_ws RX10 TX10 23, w ∈ wsX10_putsCall := by decide +kernel
theorem fl_X10_putsCall_31 : Cond.fieldLink RX10 31 (TX10 13).1 (TX10 13).2.1 (TX10 13).2.2.1 ∈ wsX10_putsCall := by decide +kernel
theorem fl_X10_putsCall_170 : Cond.fieldLink RX10 170 (TX10 14).1 (TX10 14).2.1 (TX10 14).2.2.1 ∈ wsX10_putsCall := by decide +kernel
theorem fl_X10_putsCall_173 : Cond.fieldLink RX10 173 (TX10 12).1 (TX10 12).2.1 (TX10 12).2.2.1 ∈ wsX10_putsCall := by decide +kernel
theorem fl_X10_putsCall_28 : Cond.fieldLink RX10 28 (TX10 11).1 (TX10 11).2.1 (TX10 11).2.2.1 ∈ wsX10_putsCall := by decide +kernel
def rmX10_putsCall : Room := { frames := 1, cells := 0, slots := 0, locals := 20 }
def X10_putsCall_L23 (kx : Arr → Option (Arr × Int × Arr × Int)) (builtMany : Int) (parts : Arr) (partMany : Int) (x1 : Int) (x2 : Int) (x3 : Int) : Nat → Int → Arr → Option (Arr × Int × Arr × Int)
  | 0, _, _ => none
  | n + 1, y4, built => brLE y4 x3 (kx built) (rdK 30 built (y4 - 1) (fun v4 => wrK 30 built y4 v4 (fun f5 => X10_putsCall_L23 kx builtMany parts partMany x1 x2 x3 n (y4 + (-1)) f5)))
def X10_putsCall (built : Arr) (builtMany : Int) (parts : Arr) (partMany : Int) (p1 : Int) : Option (Arr × Int × Arr × Int) := (X10_arguments p1).bind (fun v1 => rdK 31 parts (partMany - v1) (fun v3 => X10_putsCall_L23 (fun w6 => wrK 30 w6 v3 p1 (fun f7 => wrK 31 parts (partMany + (1 - v1)) (builtMany + 1) (fun f8 => some (f7, (builtMany + 1), f8, (partMany + (1 - v1)))))) builtMany parts partMany p1 v1 v3 FU builtMany built))
set_option maxHeartbeats 4000000 in
set_option maxRecDepth 100000 in
theorem X10_putsCall_L23_ok (K : KE) (l : Launch) (a : Nat → Nat) (WC : va_W) {p : Program} {e : Env} {s : State} {m : MethodId} {args : Array Value} {below : List Frame} {meth : Method} {c : Code} (X : CX p s m args c K.1 vwCl (kT K) (va_A WC s.heap.size) cX10_putsCall 5 wsX10_putsCall RX10) (hr : meth.sig.returnType = none) (hlk : meth.locks = false) (all : Arr) (saved : Arr) (savedMany : Int) (errors : Arr) (text : Arr) (textLong : Int) (rdd : Arr) (readMany : Int) (waits : Arr) (opn : Int) (place : Int) (builtMany : Int) (parts : Arr) (partMany : Int) (taken : Arr) (calls : Arr) (lacks : Arr) (callMany : Int) (total : Int) (values : Arr) (told : Arr) (toldLong : Int) (x1 : Int) (x2 : Int) (x3 : Int) (res : Arr × Int × Arr × Int) {kx : Arr → Option (Arr × Int × Arr × Int)} : ∀ (n : Nat) (y4 : Int) (built : Arr), X10_putsCall_L23 kx builtMany parts partMany x1 x2 x3 n y4 built = some res → (∀ (builtz : Arr), kx builtz = some res → GO p l e rmX10_putsCall s m args below meth c K.1 vwCl (va_A WC s.heap.size) (MQ below (QC K.1 vwCl none WC (c10 K a all saved savedMany errors text textLong rdd readMany waits opn place res.1 res.2.1 res.2.2.1 res.2.2.2 taken calls lacks callMany total values told toldLong) s.heap.size) args s 0 0 (va_A WC s.heap.size)) 5 0 0 51 [(0, .ref (a 0)), (1, ii x1), (2, ii x2), (3, ii x3)] [] (c10 K a all saved savedMany errors text textLong rdd readMany waits opn place builtz builtMany parts partMany taken calls lacks callMany total values told toldLong)) → GO p l e rmX10_putsCall s m args below meth c K.1 vwCl (va_A WC s.heap.size) (MQ below (QC K.1 vwCl none WC (c10 K a all saved savedMany errors text textLong rdd readMany waits opn place res.1 res.2.1 res.2.2.1 res.2.2.2 taken calls lacks callMany total values told toldLong) s.heap.size) args s 0 0 (va_A WC s.heap.size)) 5 0 0 23 [(0, .ref (a 0)), (1, ii x1), (2, ii x2), (3, ii x3), (4, ii y4)] [] (c10 K a all saved savedMany errors text textLong rdd readMany waits opn place built builtMany parts partMany taken calls lacks callMany total values told toldLong) := by
  intro n
  induction n with
  | zero =>
    intro y4 built hf _
    rw [X10_putsCall_L23] at hf
    cases hf
  | succ n ih =>
    intro y4 built hf hk
    rw [X10_putsCall_L23] at hf
    refine g_iload X dX10_putsCall_23 4 rfl ?_
    refine g_iload_n X dX10_putsCall_25 3 rfl rfl ?_
    refine g_icmp_le X hf 51 dX10_putsCall_26 (by decide) (fun hf => ?_) (fun hf => ?_)
    · refine g_sub (lv' := [(0, .ref (a 0)), (1, ii x1), (2, ii x2), (3, ii x3)]) [0, 1, 2, 3] rfl ?_
      exact hk built hf
    · refine g_aload_n X dX10_putsCall_29 0 rfl rfl ?_
      refine g_get X (v := .ref (a 7)) 0 11 dX10_putsCall_30 rfl rfl iw_X10_putsCall_X10 (by decide) fl_X10_putsCall_28 rfl ?_
      refine g_iload X dX10_putsCall_33 4 rfl ?_
      refine g_aload_n X dX10_putsCall_35 0 rfl rfl ?_
      refine g_get X (v := .ref (a 7)) 0 11 dX10_putsCall_36 rfl rfl iw_X10_putsCall_X10 (by decide) fl_X10_putsCall_28 rfl ?_
      refine g_iload X dX10_putsCall_39 4 rfl ?_
      refine g_iconst X dX10_putsCall_41 ?_
      refine g_isub X dX10_putsCall_42 ?_
      refine g_iald X hf (by decide) 7 0 dX10_putsCall_43 rfl rfl (fun v4 hf => ?_)
      refine g_iast X hf (by decide) 7 0 dX10_putsCall_44 rfl rfl (fun f5 => c10 K a all saved savedMany errors text textLong rdd readMany waits opn place f5 builtMany parts partMany taken calls lacks callMany total values told toldLong) (fun _ => rfl) (fun f5 hf => ?_)
      refine g_iinc X (lv' := [(4, ii (y4 + (-1))), (0, .ref (a 0)), (1, ii x1), (2, ii x2), (3, ii x3)]) dX10_putsCall_45 4 rfl (by decide) rfl ?_
      refine g_goto X 23 dX10_putsCall_48 (by decide) ?_
      refine g_sub (lv' := [(0, .ref (a 0)), (1, ii x1), (2, ii x2), (3, ii x3), (4, ii (y4 + (-1)))]) [1, 2, 3, 4, 0] rfl ?_
      exact ih (y4 + (-1)) f5 hf hk
set_option maxHeartbeats 4000000 in
set_option maxRecDepth 100000 in
theorem X10_putsCall_go (K : KE) (l : Launch) (a : Nat → Nat) (WC : va_W) {p : Program} {e : Env} {s : State} {m : MethodId} {args : Array Value} {below : List Frame} {meth : Method} {c : Code} (X : CX p s m args c K.1 vwCl (kT K) (va_A WC s.heap.size) cX10_putsCall 5 wsX10_putsCall RX10) (hr : meth.sig.returnType = none) (hlk : meth.locks = false) (all : Arr) (saved : Arr) (savedMany : Int) (errors : Arr) (text : Arr) (textLong : Int) (rdd : Arr) (readMany : Int) (waits : Arr) (opn : Int) (place : Int) (built : Arr) (builtMany : Int) (parts : Arr) (partMany : Int) (taken : Arr) (calls : Arr) (lacks : Arr) (callMany : Int) (total : Int) (values : Arr) (told : Arr) (toldLong : Int) (p1 : Int) (res : Arr × Int × Arr × Int) (hf : X10_putsCall built builtMany parts partMany p1 = some res) : GO p l e rmX10_putsCall s m args below meth c K.1 vwCl (va_A WC s.heap.size) (MQ below (QC K.1 vwCl none WC (c10 K a all saved savedMany errors text textLong rdd readMany waits opn place res.1 res.2.1 res.2.2.1 res.2.2.2 taken calls lacks callMany total values told toldLong) s.heap.size) args s 0 0 (va_A WC s.heap.size)) 5 0 0 0 [(0, .ref (a 0)), (1, ii p1)] [] (c10 K a all saved savedMany errors text textLong rdd readMany waits opn place built builtMany parts partMany taken calls lacks callMany total values told toldLong) := by
  rw [X10_putsCall] at hf
  refine g_iload_n X dX10_putsCall_0 1 rfl rfl ?_
  obtain ⟨v1, hc2, hf⟩ := Option.bind_eq_some_iff.mp hf
  refine g_callS X (As := [ii p1]) (st := []) (st1 := [ii v1]) (ws' := c10 K a all saved savedMany errors text textLong rdd readMany waits opn place built builtMany parts partMany taken calls lacks callMany total values told toldLong) (X10_arguments_ok K l p1 v1 hc2) gX10_putsCall_X10_arguments rfl 1 (by decide +kernel) ⟨rfl, rfl⟩ ⟨Nat.le_of_ble_eq_true rfl, Nat.le_of_ble_eq_true rfl⟩ ⟨Nat.zero_le _, Nat.zero_le _⟩ rfl rfl (Nat.le_of_ble_eq_true rfl) dX10_putsCall_1 SG.none rfl ?_
  refine g_istore_n X (lv' := [(2, ii v1), (0, .ref (a 0)), (1, ii p1)]) dX10_putsCall_4 rfl (by decide) rfl ?_
  refine g_aload_n X dX10_putsCall_5 1 rfl rfl ?_
  refine g_get X (v := .ref (a 8)) 0 13 dX10_putsCall_6 rfl rfl iw_X10_putsCall_X10 (by decide) fl_X10_putsCall_31 rfl ?_
  refine g_aload_n X dX10_putsCall_9 1 rfl rfl ?_
  refine g_get X (v := ii partMany) 0 14 dX10_putsCall_10 rfl rfl iw_X10_putsCall_X10 (by decide) fl_X10_putsCall_170 rfl ?_
  refine g_iload_n X dX10_putsCall_13 0 rfl rfl ?_
  refine g_isub X dX10_putsCall_14 ?_
  refine g_iald X hf (by decide) 8 0 dX10_putsCall_15 rfl rfl (fun v3 hf => ?_)
  refine g_istore_n X (lv' := [(3, ii v3), (2, ii v1), (0, .ref (a 0)), (1, ii p1)]) dX10_putsCall_16 rfl (by decide) rfl ?_
  refine g_aload_n X dX10_putsCall_17 2 rfl rfl ?_
  refine g_get X (v := ii builtMany) 0 12 dX10_putsCall_18 rfl rfl iw_X10_putsCall_X10 (by decide) fl_X10_putsCall_173 rfl ?_
  refine g_istore X (lv' := [(4, ii builtMany), (3, ii v3), (2, ii v1), (0, .ref (a 0)), (1, ii p1)]) dX10_putsCall_21 (by decide) rfl ?_
  refine g_sub (lv' := [(0, .ref (a 0)), (1, ii p1), (2, ii v1), (3, ii v3), (4, ii builtMany)]) [3, 4, 2, 1, 0] rfl ?_
  refine X10_putsCall_L23_ok K l a WC X hr hlk all saved savedMany errors text textLong rdd readMany waits opn place builtMany parts partMany taken calls lacks callMany total values told toldLong p1 v1 v3 res FU builtMany built hf (fun w6 hf => ?_)
  refine g_aload_n X dX10_putsCall_51 0 rfl rfl ?_
  refine g_get X (v := .ref (a 7)) 0 11 dX10_putsCall_52 rfl rfl iw_X10_putsCall_X10 (by decide) fl_X10_putsCall_28 rfl ?_
  refine g_iload_n X dX10_putsCall_55 3 rfl rfl ?_
  refine g_iload_n X dX10_putsCall_56 1 rfl rfl ?_
  refine g_iast X hf (by decide) 7 0 dX10_putsCall_57 rfl rfl (fun f7 => c10 K a all saved savedMany errors text textLong rdd readMany waits opn place f7 builtMany parts partMany taken calls lacks callMany total values told toldLong) (fun _ => rfl) (fun f7 hf => ?_)
  refine g_aload_n X dX10_putsCall_58 0 rfl rfl ?_
  refine g_dup X dX10_putsCall_59 rfl ?_
  refine g_get X (v := ii builtMany) 0 12 dX10_putsCall_60 rfl rfl iw_X10_putsCall_X10 (by decide) fl_X10_putsCall_173 rfl ?_
  refine g_iconst X dX10_putsCall_63 ?_
  refine g_iadd X dX10_putsCall_64 ?_
  refine g_puti X 0 12 dX10_putsCall_65 rfl rfl iw_X10_putsCall_X10 tyX10_ok nmX10 (by decide) fl_X10_putsCall_173 rfl rfl (Nat.le_of_ble_eq_true rfl) (ws' := c10 K a all saved savedMany errors text textLong rdd readMany waits opn place f7 (builtMany + 1) parts partMany taken calls lacks callMany total values told toldLong) rfl ?_
  refine g_aload_n X dX10_putsCall_68 0 rfl rfl ?_
  refine g_dup X dX10_putsCall_69 rfl ?_
  refine g_get X (v := ii partMany) 0 14 dX10_putsCall_70 rfl rfl iw_X10_putsCall_X10 (by decide) fl_X10_putsCall_170 rfl ?_
  refine g_iconst X dX10_putsCall_73 ?_
  refine g_iload_n X dX10_putsCall_74 2 rfl rfl ?_
  refine g_isub X dX10_putsCall_75 ?_
  refine g_iadd X dX10_putsCall_76 ?_
  refine g_puti X 0 14 dX10_putsCall_77 rfl rfl iw_X10_putsCall_X10 tyX10_ok nmX10 (by decide) fl_X10_putsCall_170 rfl rfl (Nat.le_of_ble_eq_true rfl) (ws' := c10 K a all saved savedMany errors text textLong rdd readMany waits opn place f7 (builtMany + 1) parts (partMany + (1 - v1)) taken calls lacks callMany total values told toldLong) rfl ?_
  refine g_aload_n X dX10_putsCall_80 0 rfl rfl ?_
  refine g_get X (v := .ref (a 8)) 0 13 dX10_putsCall_81 rfl rfl iw_X10_putsCall_X10 (by decide) fl_X10_putsCall_31 rfl ?_
  refine g_aload_n X dX10_putsCall_84 0 rfl rfl ?_
  refine g_get X (v := ii (partMany + (1 - v1))) 0 14 dX10_putsCall_85 rfl rfl iw_X10_putsCall_X10 (by decide) fl_X10_putsCall_170 rfl ?_
  refine g_aload_n X dX10_putsCall_88 0 rfl rfl ?_
  refine g_get X (v := ii (builtMany + 1)) 0 12 dX10_putsCall_89 rfl rfl iw_X10_putsCall_X10 (by decide) fl_X10_putsCall_173 rfl ?_
  refine g_iast X hf (by decide) 8 0 dX10_putsCall_92 rfl rfl (fun f8 => c10 K a all saved savedMany errors text textLong rdd readMany waits opn place f7 (builtMany + 1) f8 (partMany + (1 - v1)) taken calls lacks callMany total values told toldLong) (fun _ => rfl) (fun f8 hf => ?_)
  cases hf
  exact g_vret X hr hlk dX10_putsCall_93
set_option maxHeartbeats 4000000 in
set_option maxRecDepth 100000 in
theorem X10_putsCall_ok (K : KE) (l : Launch) (a : Nat → Nat) (all : Arr) (saved : Arr) (savedMany : Int) (errors : Arr) (text : Arr) (textLong : Int) (rdd : Arr) (readMany : Int) (waits : Arr) (opn : Int) (place : Int) (built : Arr) (builtMany : Int) (parts : Arr) (partMany : Int) (taken : Arr) (calls : Arr) (lacks : Arr) (callMany : Int) (total : Int) (values : Arr) (told : Arr) (toldLong : Int) (p1 : Int) (res : Arr × Int × Arr × Int) (hf : X10_putsCall built builtMany parts partMany p1 = some res) : CT l K.1 vwCl (kT K) yX10_putsCall wsX10_putsCall rmX10_putsCall [.ref (a 0), ii p1] none (c10 K a all saved savedMany errors text textLong rdd readMany waits opn place built builtMany parts partMany taken calls lacks callMany total values told toldLong) (c10 K a all saved savedMany errors text textLong rdd readMany waits opn place res.1 res.2.1 res.2.2.1 res.2.2.2 taken calls lacks callMany total values told toldLong) :=
  CT.mk (cc := cX10_putsCall) (maxL := 5) (ret := none) (by decide) rfl (Nat.le_of_ble_eq_true rfl) (fun p e s m below meth c X hr hlk => X10_putsCall_go K l a _ X hr hlk all saved savedMany errors text textLong rdd readMany waits opn place built builtMany parts partMany taken calls lacks callMany total values told toldLong p1 res hf)
theorem iw_X10_first_X10 : ∀ w ∈ u_ws RX10 TX10 23, w ∈ wsX10_first := by decide +kernel
theorem fl_X10_first_170 : Cond.fieldLink RX10 170 (TX10 14).1 (TX10 14).2.1 (TX10 14).2.2.1 ∈ wsX10_first := by decide +kernel
def rmX10_first : Room := { frames := 1, cells := 0, slots := 0, locals := 20 }
def X10_first (partMany : Int) (p1 : Int) : Option (Int) := (X10_arguments p1).bind (fun v1 => some (partMany - v1))
set_option maxHeartbeats 4000000 in
set_option maxRecDepth 100000 in
theorem X10_first_go (K : KE) (l : Launch) (a : Nat → Nat) (WC : va_W) {p : Program} {e : Env} {s : State} {m : MethodId} {args : Array Value} {below : List Frame} {meth : Method} {c : Code} (X : CX p s m args c K.1 vwCl (kT K) (va_A WC s.heap.size) cX10_first 2 wsX10_first RX10) (hr : meth.sig.returnType = (some .int)) (hlk : meth.locks = false) (all : Arr) (saved : Arr) (savedMany : Int) (errors : Arr) (text : Arr) (textLong : Int) (rdd : Arr) (readMany : Int) (waits : Arr) (opn : Int) (place : Int) (built : Arr) (builtMany : Int) (parts : Arr) (partMany : Int) (taken : Arr) (calls : Arr) (lacks : Arr) (callMany : Int) (total : Int) (values : Arr) (told : Arr) (toldLong : Int) (p1 : Int) (res : Int) (hf : X10_first partMany p1 = some res) : GO p l e rmX10_first s m args below meth c K.1 vwCl (va_A WC s.heap.size) (MQ below (QC K.1 vwCl (some (ii res)) WC (c10 K a all saved savedMany errors text textLong rdd readMany waits opn place built builtMany parts partMany taken calls lacks callMany total values told toldLong) s.heap.size) args s 0 0 (va_A WC s.heap.size)) 2 0 0 0 [(0, .ref (a 0)), (1, ii p1)] [] (c10 K a all saved savedMany errors text textLong rdd readMany waits opn place built builtMany parts partMany taken calls lacks callMany total values told toldLong) := by
  rw [X10_first] at hf
  refine g_aload_n X dX10_first_0 0 rfl rfl ?_
  refine g_get X (v := ii partMany) 0 14 dX10_first_1 rfl rfl iw_X10_first_X10 (by decide) fl_X10_first_170 rfl ?_
  refine g_iload_n X dX10_first_4 1 rfl rfl ?_
  obtain ⟨v1, hc2, hf⟩ := Option.bind_eq_some_iff.mp hf
  refine g_callS X (As := [ii p1]) (st := [ii partMany]) (st1 := [ii v1, ii partMany]) (ws' := c10 K a all saved savedMany errors text textLong rdd readMany waits opn place built builtMany parts partMany taken calls lacks callMany total values told toldLong) (X10_arguments_ok K l p1 v1 hc2) gX10_first_X10_arguments rfl 1 (by decide +kernel) ⟨rfl, rfl⟩ ⟨Nat.le_of_ble_eq_true rfl, Nat.le_of_ble_eq_true rfl⟩ ⟨Nat.zero_le _, Nat.zero_le _⟩ rfl rfl (Nat.le_of_ble_eq_true rfl) dX10_first_5 SG.none rfl ?_
  refine g_isub X dX10_first_8 ?_
  cases hf
  exact g_iret X hr hlk dX10_first_9
set_option maxHeartbeats 4000000 in
set_option maxRecDepth 100000 in
theorem X10_first_ok (K : KE) (l : Launch) (a : Nat → Nat) (all : Arr) (saved : Arr) (savedMany : Int) (errors : Arr) (text : Arr) (textLong : Int) (rdd : Arr) (readMany : Int) (waits : Arr) (opn : Int) (place : Int) (built : Arr) (builtMany : Int) (parts : Arr) (partMany : Int) (taken : Arr) (calls : Arr) (lacks : Arr) (callMany : Int) (total : Int) (values : Arr) (told : Arr) (toldLong : Int) (p1 : Int) (res : Int) (hf : X10_first partMany p1 = some res) : CT l K.1 vwCl (kT K) yX10_first wsX10_first rmX10_first [.ref (a 0), ii p1] (some (ii res)) (c10 K a all saved savedMany errors text textLong rdd readMany waits opn place built builtMany parts partMany taken calls lacks callMany total values told toldLong) (c10 K a all saved savedMany errors text textLong rdd readMany waits opn place built builtMany parts partMany taken calls lacks callMany total values told toldLong) :=
  CT.mk (cc := cX10_first) (maxL := 2) (ret := (some .int)) (by decide) rfl (Nat.le_of_ble_eq_true rfl) (fun p e s m below meth c X hr hlk => X10_first_go K l a _ X hr hlk all saved savedMany errors text textLong rdd readMany waits opn place built builtMany parts partMany taken calls lacks callMany total values told toldLong p1 res hf)
def rmX10_uses : Room := { frames := 2, cells := 0, slots := 0, locals := 42 }
def X10_uses_L5 (kx : Int → Option (Int)) (all : Arr) (x1 : Int) (x2 : Int) : Nat → Int → Int → Option (Int)
  | 0, _, _ => none
  | n + 1, y3, y4 => (X10_used all x1).bind (fun v1 => brLT y4 v1 ((X10_entry all x1 y4).bind (fun v3 => ltK (fun q5 : Int => X10_uses_L5 kx all x1 x2 n (y3 + q5) (y4 + 1)) (fun j6 => brEQ v3 x2 (j6 1) (j6 0)))) (kx y3))
def X10_uses (all : Arr) (p1 : Int) (p2 : Int) : Option (Int) := X10_uses_L5 (fun w7 => some w7) all p1 p2 FU 0 0
set_option maxHeartbeats 4000000 in
set_option maxRecDepth 100000 in
theorem X10_uses_L5_ok (K : KE) (l : Launch) (a : Nat → Nat) (WC : va_W) {p : Program} {e : Env} {s : State} {m : MethodId} {args : Array Value} {below : List Frame} {meth : Method} {c : Code} (X : CX p s m args c K.1 vwCl (kT K) (va_A WC s.heap.size) cX10_uses 5 wsX10_uses RX10) (hr : meth.sig.returnType = (some .int)) (hlk : meth.locks = false) (all : Arr) (saved : Arr) (savedMany : Int) (errors : Arr) (text : Arr) (textLong : Int) (rdd : Arr) (readMany : Int) (waits : Arr) (opn : Int) (place : Int) (built : Arr) (builtMany : Int) (parts : Arr) (partMany : Int) (taken : Arr) (calls : Arr) (lacks : Arr) (callMany : Int) (total : Int) (values : Arr) (told : Arr) (toldLong : Int) (x1 : Int) (x2 : Int) (res : Int) {kx : Int → Option (Int)} : ∀ (n : Nat) (y3 : Int) (y4 : Int), X10_uses_L5 kx all x1 x2 n y3 y4 = some res → (∀ (z3 : Int), kx z3 = some res → GO p l e rmX10_uses s m args below meth c K.1 vwCl (va_A WC s.heap.size) (MQ below (QC K.1 vwCl (some (ii res)) WC (c10 K a all saved savedMany errors text textLong rdd readMany waits opn place built builtMany parts partMany taken calls lacks callMany total values told toldLong) s.heap.size) args s 0 0 (va_A WC s.heap.size)) 5 0 0 40 [(3, ii z3)] [] (c10 K a all saved savedMany errors text textLong rdd readMany waits opn place built builtMany parts partMany taken calls lacks callMany total values told toldLong)) → GO p l e rmX10_uses s m args below meth c K.1 vwCl (va_A WC s.heap.size) (MQ below (QC K.1 vwCl (some (ii res)) WC (c10 K a all saved savedMany errors text textLong rdd readMany waits opn place built builtMany parts partMany taken calls lacks callMany total values told toldLong) s.heap.size) args s 0 0 (va_A WC s.heap.size)) 5 0 0 5 [(0, .ref (a 0)), (1, ii x1), (2, ii x2), (3, ii y3), (4, ii y4)] [] (c10 K a all saved savedMany errors text textLong rdd readMany waits opn place built builtMany parts partMany taken calls lacks callMany total values told toldLong) := by
  intro n
  induction n with
  | zero =>
    intro y3 y4 hf _
    rw [X10_uses_L5] at hf
    cases hf
  | succ n ih =>
    intro y3 y4 hf hk
    rw [X10_uses_L5] at hf
    refine g_iload X dX10_uses_5 4 rfl ?_
    refine g_aload_n X dX10_uses_7 0 rfl rfl ?_
    refine g_iload_n X dX10_uses_8 1 rfl rfl ?_
    obtain ⟨v1, hc2, hf⟩ := Option.bind_eq_some_iff.mp hf
    refine g_callV X (As := [ii x1]) (st := [ii y4]) (st1 := [ii v1, ii y4]) (ws' := c10 K a all saved savedMany errors text textLong rdd readMany waits opn place built builtMany parts partMany taken calls lacks callMany total values told toldLong) (X10_used_ok K l a all saved savedMany errors text textLong rdd readMany waits opn place built builtMany parts partMany taken calls lacks callMany total values told toldLong x1 v1 hc2) gX10_uses_X10_used rfl 1 (by decide +kernel) ⟨rfl, rfl⟩ ⟨Nat.le_of_ble_eq_true rfl, Nat.le_of_ble_eq_true rfl⟩ ⟨Nat.zero_le _, Nat.zero_le _⟩ 0 rfl rfl rfl rfl (Nat.le_of_ble_eq_true rfl) dX10_uses_9 (SG.all rfl) rfl ?_
    refine g_icmp_ge X hf 40 dX10_uses_12 (by decide) (fun hf => ?_) (fun hf => ?_)
    · refine g_iload_n X dX10_uses_15 3 rfl rfl ?_
      refine g_aload_n X dX10_uses_16 0 rfl rfl ?_
      refine g_iload_n X dX10_uses_17 1 rfl rfl ?_
      refine g_iload X dX10_uses_18 4 rfl ?_
      obtain ⟨v3, hc4, hf⟩ := Option.bind_eq_some_iff.mp hf
      refine g_callV X (As := [ii x1, ii y4]) (st := [ii y3]) (st1 := [ii v3, ii y3]) (ws' := c10 K a all saved savedMany errors text textLong rdd readMany waits opn place built builtMany parts partMany taken calls lacks callMany total values told toldLong) (X10_entry_ok K l a all saved savedMany errors text textLong rdd readMany waits opn place built builtMany parts partMany taken calls lacks callMany total values told toldLong x1 y4 v3 hc4) gX10_uses_X10_entry rfl 2 (by decide +kernel) ⟨rfl, rfl⟩ ⟨Nat.le_of_ble_eq_true rfl, Nat.le_of_ble_eq_true rfl⟩ ⟨Nat.zero_le _, Nat.zero_le _⟩ 0 rfl rfl rfl rfl (Nat.le_of_ble_eq_true rfl) dX10_uses_20 (SG.all rfl) rfl ?_
      refine g_iload_n X dX10_uses_23 2 rfl rfl ?_
      refine g_let (G := fun q5 : Int => GO p l e rmX10_uses s m args below meth c K.1 vwCl (va_A WC s.heap.size) (MQ below (QC K.1 vwCl (some (ii res)) WC (c10 K a all saved savedMany errors text textLong rdd readMany waits opn place built builtMany parts partMany taken calls lacks callMany total values told toldLong) s.heap.size) args s 0 0 (va_A WC s.heap.size)) 5 0 0 32 [(0, .ref (a 0)), (1, ii x1), (2, ii x2), (4, ii y4)] [ii q5, ii y3] (c10 K a all saved savedMany errors text textLong rdd readMany waits opn place built builtMany parts partMany taken calls lacks callMany total values told toldLong)) hf (fun q5 hf => ?_) (fun j6 hj6 hf => ?_)
      · refine g_iadd X dX10_uses_32 ?_
        refine g_istore_n X (lv' := [(3, ii (y3 + q5)), (0, .ref (a 0)), (1, ii x1), (2, ii x2), (4, ii y4)]) dX10_uses_33 rfl (by decide) rfl ?_
        refine g_iinc X (lv' := [(4, ii (y4 + 1)), (3, ii (y3 + q5)), (0, .ref (a 0)), (1, ii x1), (2, ii x2)]) dX10_uses_34 4 rfl (by decide) rfl ?_
        refine g_goto X 5 dX10_uses_37 (by decide) ?_
        refine g_sub (lv' := [(0, .ref (a 0)), (1, ii x1), (2, ii x2), (3, ii (y3 + q5)), (4, ii (y4 + 1))]) [2, 3, 4, 1, 0] rfl ?_
        exact ih (y3 + q5) (y4 + 1) hf hk
      · refine g_icmp_ne X hf 31 dX10_uses_24 (by decide) (fun hf => ?_) (fun hf => ?_)
        · refine g_iconst X dX10_uses_27 ?_
          refine g_goto X 32 dX10_uses_28 (by decide) ?_
          refine g_sub (lv' := [(0, .ref (a 0)), (1, ii x1), (2, ii x2), (4, ii y4)]) [0, 1, 2, 4] rfl ?_
          exact hj6 1 hf
        · refine g_iconst X dX10_uses_31 ?_
          refine g_sub (lv' := [(0, .ref (a 0)), (1, ii x1), (2, ii x2), (4, ii y4)]) [0, 1, 2, 4] rfl ?_
          exact hj6 0 hf
    · refine g_sub (lv' := [(3, ii y3)]) [3] rfl ?_
      exact hk y3 hf
set_option maxHeartbeats 4000000 in
set_option maxRecDepth 100000 in
theorem X10_uses_go (K : KE) (l : Launch) (a : Nat → Nat) (WC : va_W) {p : Program} {e : Env} {s : State} {m : MethodId} {args : Array Value} {below : List Frame} {meth : Method} {c : Code} (X : CX p s m args c K.1 vwCl (kT K) (va_A WC s.heap.size) cX10_uses 5 wsX10_uses RX10) (hr : meth.sig.returnType = (some .int)) (hlk : meth.locks = false) (all : Arr) (saved : Arr) (savedMany : Int) (errors : Arr) (text : Arr) (textLong : Int) (rdd : Arr) (readMany : Int) (waits : Arr) (opn : Int) (place : Int) (built : Arr) (builtMany : Int) (parts : Arr) (partMany : Int) (taken : Arr) (calls : Arr) (lacks : Arr) (callMany : Int) (total : Int) (values : Arr) (told : Arr) (toldLong : Int) (p1 : Int) (p2 : Int) (res : Int) (hf : X10_uses all p1 p2 = some res) : GO p l e rmX10_uses s m args below meth c K.1 vwCl (va_A WC s.heap.size) (MQ below (QC K.1 vwCl (some (ii res)) WC (c10 K a all saved savedMany errors text textLong rdd readMany waits opn place built builtMany parts partMany taken calls lacks callMany total values told toldLong) s.heap.size) args s 0 0 (va_A WC s.heap.size)) 5 0 0 0 [(0, .ref (a 0)), (1, ii p1), (2, ii p2)] [] (c10 K a all saved savedMany errors text textLong rdd readMany waits opn place built builtMany parts partMany taken calls lacks callMany total values told toldLong) := by
  rw [X10_uses] at hf
  refine g_iconst X dX10_uses_0 ?_
  refine g_istore_n X (lv' := [(3, ii 0), (0, .ref (a 0)), (1, ii p1), (2, ii p2)]) dX10_uses_1 rfl (by decide) rfl ?_
  refine g_iconst X dX10_uses_2 ?_
  refine g_istore X (lv' := [(4, ii 0), (3, ii 0), (0, .ref (a 0)), (1, ii p1), (2, ii p2)]) dX10_uses_3 (by decide) rfl ?_
  refine g_sub (lv' := [(0, .ref (a 0)), (1, ii p1), (2, ii p2), (3, ii 0), (4, ii 0)]) [2, 3, 4, 1, 0] rfl ?_
  refine X10_uses_L5_ok K l a WC X hr hlk all saved savedMany errors text textLong rdd readMany waits opn place built builtMany parts partMany taken calls lacks callMany total values told toldLong p1 p2 res FU 0 0 hf (fun w7 hf => ?_)
  refine g_iload_n X dX10_uses_40 0 rfl rfl ?_
  cases hf
  exact g_iret X hr hlk dX10_uses_41
set_option maxHeartbeats 4000000 in
set_option maxRecDepth 100000 in
theorem X10_uses_ok (K : KE) (l : Launch) (a : Nat → Nat) (all : Arr) (saved : Arr) (savedMany : Int) (errors : Arr) (text : Arr) (textLong : Int) (rdd : Arr) (readMany : Int) (waits : Arr) (opn : Int) (place : Int) (built : Arr) (builtMany : Int) (parts : Arr) (partMany : Int) (taken : Arr) (calls : Arr) (lacks : Arr) (callMany : Int) (total : Int) (values : Arr) (told : Arr) (toldLong : Int) (p1 : Int) (p2 : Int) (res : Int) (hf : X10_uses all p1 p2 = some res) : CT l K.1 vwCl (kT K) yX10_uses wsX10_uses rmX10_uses [.ref (a 0), ii p1, ii p2] (some (ii res)) (c10 K a all saved savedMany errors text textLong rdd readMany waits opn place built builtMany parts partMany taken calls lacks callMany total values told toldLong) (c10 K a all saved savedMany errors text textLong rdd readMany waits opn place built builtMany parts partMany taken calls lacks callMany total values told toldLong) :=
  CT.mk (cc := cX10_uses) (maxL := 5) (ret := (some .int)) (by decide) rfl (Nat.le_of_ble_eq_true rfl) (fun p e s m below meth c X hr hlk => X10_uses_go K l a _ X hr hlk all saved savedMany errors text textLong rdd readMany waits opn place built builtMany parts partMany taken calls lacks callMany total values told toldLong p1 p2 res hf)
theorem iw_X10_size_X10 : ∀ w ∈ u_ws RX10 TX10 23, w ∈ wsX10_size := by decide +kernel
theorem fl_X10_size_31 : Cond.fieldLink RX10 31 (TX10 13).1 (TX10 13).2.1 (TX10 13).2.2.1 ∈ wsX10_size := by decide +kernel
def rmX10_size : Room := { frames := 0, cells := 0, slots := 0, locals := 0 }
def X10_size (parts : Arr) (p1 : Int) (p2 : Int) : Option (Int) := rdK 31 parts p2 (fun v1 => rdK 31 parts p1 (fun v2 => some (v1 - v2)))
set_option maxHeartbeats 4000000 in
set_option maxRecDepth 100000 in
theorem X10_size_go (K : KE) (l : Launch) (a : Nat → Nat) (WC : va_W) {p : Program} {e : Env} {s : State} {m : MethodId} {args : Array Value} {below : List Frame} {meth : Method} {c : Code} (X : CX p s m args c K.1 vwCl (kT K) (va_A WC s.heap.size) cX10_size 3 wsX10_size RX10) (hr : meth.sig.returnType = (some .int)) (hlk : meth.locks = false) (all : Arr) (saved : Arr) (savedMany : Int) (errors : Arr) (text : Arr) (textLong : Int) (rdd : Arr) (readMany : Int) (waits : Arr) (opn : Int) (place : Int) (built : Arr) (builtMany : Int) (parts : Arr) (partMany : Int) (taken : Arr) (calls : Arr) (lacks : Arr) (callMany : Int) (total : Int) (values : Arr) (told : Arr) (toldLong : Int) (p1 : Int) (p2 : Int) (res : Int) (hf : X10_size parts p1 p2 = some res) : GO p l e rmX10_size s m args below meth c K.1 vwCl (va_A WC s.heap.size) (MQ below (QC K.1 vwCl (some (ii res)) WC (c10 K a all saved savedMany errors text textLong rdd readMany waits opn place built builtMany parts partMany taken calls lacks callMany total values told toldLong) s.heap.size) args s 0 0 (va_A WC s.heap.size)) 3 0 0 0 [(0, .ref (a 0)), (1, ii p1), (2, ii p2)] [] (c10 K a all saved savedMany errors text textLong rdd readMany waits opn place built builtMany parts partMany taken calls lacks callMany total values told toldLong) := by
  rw [X10_size] at hf
  refine g_aload_n X dX10_size_0 0 rfl rfl ?_
  refine g_get X (v := .ref (a 8)) 0 13 dX10_size_1 rfl rfl iw_X10_size_X10 (by decide) fl_X10_size_31 rfl ?_
  refine g_iload_n X dX10_size_4 2 rfl rfl ?_
  refine g_iald X hf (by decide) 8 0 dX10_size_5 rfl rfl (fun v1 hf => ?_)
  refine g_aload_n X dX10_size_6 0 rfl rfl ?_
  refine g_get X (v := .ref (a 8)) 0 13 dX10_size_7 rfl rfl iw_X10_size_X10 (by decide) fl_X10_size_31 rfl ?_
  refine g_iload_n X dX10_size_10 1 rfl rfl ?_
  refine g_iald X hf (by decide) 8 0 dX10_size_11 rfl rfl (fun v2 hf => ?_)
  refine g_isub X dX10_size_12 ?_
  cases hf
  exact g_iret X hr hlk dX10_size_13
set_option maxHeartbeats 4000000 in
set_option maxRecDepth 100000 in
theorem X10_size_ok (K : KE) (l : Launch) (a : Nat → Nat) (all : Arr) (saved : Arr) (savedMany : Int) (errors : Arr) (text : Arr) (textLong : Int) (rdd : Arr) (readMany : Int) (waits : Arr) (opn : Int) (place : Int) (built : Arr) (builtMany : Int) (parts : Arr) (partMany : Int) (taken : Arr) (calls : Arr) (lacks : Arr) (callMany : Int) (total : Int) (values : Arr) (told : Arr) (toldLong : Int) (p1 : Int) (p2 : Int) (res : Int) (hf : X10_size parts p1 p2 = some res) : CT l K.1 vwCl (kT K) yX10_size wsX10_size rmX10_size [.ref (a 0), ii p1, ii p2] (some (ii res)) (c10 K a all saved savedMany errors text textLong rdd readMany waits opn place built builtMany parts partMany taken calls lacks callMany total values told toldLong) (c10 K a all saved savedMany errors text textLong rdd readMany waits opn place built builtMany parts partMany taken calls lacks callMany total values told toldLong) :=
  CT.mk (cc := cX10_size) (maxL := 3) (ret := (some .int)) (by decide) rfl (Nat.le_of_ble_eq_true rfl) (fun p e s m below meth c X hr hlk => X10_size_go K l a _ X hr hlk all saved savedMany errors text textLong rdd readMany waits opn place built builtMany parts partMany taken calls lacks callMany total values told toldLong p1 p2 res hf)
def rmX10_sizeThen : Room := { frames := 2, cells := 0, slots := 0, locals := 42 }
def X10_sizeThen_L5 (kx : Int → Option (Int)) (all : Arr) (parts : Arr) (x1 : Int) (x2 : Int) : Nat → Int → Int → Option (Int)
  | 0, _, _ => none
  | n + 1, y3, y4 => (X10_used all x1).bind (fun v1 => brLT y4 v1 ((X10_entry all x1 y4).bind (fun v3 => ltK (fun q5 : Int => X10_sizeThen_L5 kx all parts x1 x2 n (y3 + q5) (y4 + 1)) (fun j6 => brLT v3 100 ((X10_size parts (x2 + v3) ((x2 + v3) + 1)).bind (fun v7 => j6 v7)) (j6 1)))) (kx y3))
def X10_sizeThen (all : Arr) (parts : Arr) (p1 : Int) (p2 : Int) : Option (Int) := X10_sizeThen_L5 (fun w9 => some w9) all parts p1 p2 FU 0 0
set_option maxHeartbeats 4000000 in
set_option maxRecDepth 100000 in
theorem X10_sizeThen_L5_ok (K : KE) (l : Launch) (a : Nat → Nat) (WC : va_W) {p : Program} {e : Env} {s : State} {m : MethodId} {args : Array Value} {below : List Frame} {meth : Method} {c : Code} (X : CX p s m args c K.1 vwCl (kT K) (va_A WC s.heap.size) cX10_sizeThen 6 wsX10_sizeThen RX10) (hr : meth.sig.returnType = (some .int)) (hlk : meth.locks = false) (all : Arr) (saved : Arr) (savedMany : Int) (errors : Arr) (text : Arr) (textLong : Int) (rdd : Arr) (readMany : Int) (waits : Arr) (opn : Int) (place : Int) (built : Arr) (builtMany : Int) (parts : Arr) (partMany : Int) (taken : Arr) (calls : Arr) (lacks : Arr) (callMany : Int) (total : Int) (values : Arr) (told : Arr) (toldLong : Int) (x1 : Int) (x2 : Int) (res : Int) {kx : Int → Option (Int)} : ∀ (n : Nat) (y3 : Int) (y4 : Int), X10_sizeThen_L5 kx all parts x1 x2 n y3 y4 = some res → (∀ (z3 : Int), kx z3 = some res → GO p l e rmX10_sizeThen s m args below meth c K.1 vwCl (va_A WC s.heap.size) (MQ below (QC K.1 vwCl (some (ii res)) WC (c10 K a all saved savedMany errors text textLong rdd readMany waits opn place built builtMany parts partMany taken calls lacks callMany total values told toldLong) s.heap.size) args s 0 0 (va_A WC s.heap.size)) 6 0 0 58 [(3, ii z3)] [] (c10 K a all saved savedMany errors text textLong rdd readMany waits opn place built builtMany parts partMany taken calls lacks callMany total values told toldLong)) → GO p l e rmX10_sizeThen s m args below meth c K.1 vwCl (va_A WC s.heap.size) (MQ below (QC K.1 vwCl (some (ii res)) WC (c10 K a all saved savedMany errors text textLong rdd readMany waits opn place built builtMany parts partMany taken calls lacks callMany total values told toldLong) s.heap.size) args s 0 0 (va_A WC s.heap.size)) 6 0 0 5 [(0, .ref (a 0)), (1, ii x1), (2, ii x2), (3, ii y3), (4, ii y4)] [] (c10 K a all saved savedMany errors text textLong rdd readMany waits opn place built builtMany parts partMany taken calls lacks callMany total values told toldLong) := by
  intro n
  induction n with
  | zero =>
    intro y3 y4 hf _
    rw [X10_sizeThen_L5] at hf
    cases hf
  | succ n ih =>
    intro y3 y4 hf hk
    rw [X10_sizeThen_L5] at hf
    refine g_iload X dX10_sizeThen_5 4 rfl ?_
    refine g_aload_n X dX10_sizeThen_7 0 rfl rfl ?_
    refine g_iload_n X dX10_sizeThen_8 1 rfl rfl ?_
    obtain ⟨v1, hc2, hf⟩ := Option.bind_eq_some_iff.mp hf
    refine g_callV X (As := [ii x1]) (st := [ii y4]) (st1 := [ii v1, ii y4]) (ws' := c10 K a all saved savedMany errors text textLong rdd readMany waits opn place built builtMany parts partMany taken calls lacks callMany total values told toldLong) (X10_used_ok K l a all saved savedMany errors text textLong rdd readMany waits opn place built builtMany parts partMany taken calls lacks callMany total values told toldLong x1 v1 hc2) gX10_sizeThen_X10_used rfl 1 (by decide +kernel) ⟨rfl, rfl⟩ ⟨Nat.le_of_ble_eq_true rfl, Nat.le_of_ble_eq_true rfl⟩ ⟨Nat.zero_le _, Nat.zero_le _⟩ 0 rfl rfl rfl rfl (Nat.le_of_ble_eq_true rfl) dX10_sizeThen_9 (SG.all rfl) rfl ?_
    refine g_icmp_ge X hf 58 dX10_sizeThen_12 (by decide) (fun hf => ?_) (fun hf => ?_)
    · refine g_aload_n X dX10_sizeThen_15 0 rfl rfl ?_
      refine g_iload_n X dX10_sizeThen_16 1 rfl rfl ?_
      refine g_iload X dX10_sizeThen_17 4 rfl ?_
      obtain ⟨v3, hc4, hf⟩ := Option.bind_eq_some_iff.mp hf
      refine g_callV X (As := [ii x1, ii y4]) (st := []) (st1 := [ii v3]) (ws' := c10 K a all saved savedMany errors text textLong rdd readMany waits opn place built builtMany parts partMany taken calls lacks callMany total values told toldLong) (X10_entry_ok K l a all saved savedMany errors text textLong rdd readMany waits opn place built builtMany parts partMany taken calls lacks callMany total values told toldLong x1 y4 v3 hc4) gX10_sizeThen_X10_entry rfl 2 (by decide +kernel) ⟨rfl, rfl⟩ ⟨Nat.le_of_ble_eq_true rfl, Nat.le_of_ble_eq_true rfl⟩ ⟨Nat.zero_le _, Nat.zero_le _⟩ 0 rfl rfl rfl rfl (Nat.le_of_ble_eq_true rfl) dX10_sizeThen_19 (SG.all rfl) rfl ?_
      refine g_istore X (lv' := [(5, ii v3), (0, .ref (a 0)), (1, ii x1), (2, ii x2), (3, ii y3), (4, ii y4)]) dX10_sizeThen_22 (by decide) rfl ?_
      refine g_iload_n X dX10_sizeThen_24 4 rfl rfl ?_
      refine g_iload X dX10_sizeThen_25 0 rfl ?_
      refine g_bipush X dX10_sizeThen_27 (by decide +kernel) ?_
      refine g_let (G := fun q5 : Int => GO p l e rmX10_sizeThen s m args below meth c K.1 vwCl (va_A WC s.heap.size) (MQ below (QC K.1 vwCl (some (ii res)) WC (c10 K a all saved savedMany errors text textLong rdd readMany waits opn place built builtMany parts partMany taken calls lacks callMany total values told toldLong) s.heap.size) args s 0 0 (va_A WC s.heap.size)) 6 0 0 50 [(0, .ref (a 0)), (1, ii x1), (2, ii x2), (4, ii y4)] [ii q5, ii y3] (c10 K a all saved savedMany errors text textLong rdd readMany waits opn place built builtMany parts partMany taken calls lacks callMany total values told toldLong)) hf (fun q5 hf => ?_) (fun j6 hj6 hf => ?_)
      · refine g_iadd X dX10_sizeThen_50 ?_
        refine g_istore_n X (lv' := [(3, ii (y3 + q5)), (0, .ref (a 0)), (1, ii x1), (2, ii x2), (4, ii y4)]) dX10_sizeThen_51 rfl (by decide) rfl ?_
        refine g_iinc X (lv' := [(4, ii (y4 + 1)), (3, ii (y3 + q5)), (0, .ref (a 0)), (1, ii x1), (2, ii x2)]) dX10_sizeThen_52 4 rfl (by decide) rfl ?_
        refine g_goto X 5 dX10_sizeThen_55 (by decide) ?_
        refine g_sub (lv' := [(0, .ref (a 0)), (1, ii x1), (2, ii x2), (3, ii (y3 + q5)), (4, ii (y4 + 1))]) [2, 3, 4, 1, 0] rfl ?_
        exact ih (y3 + q5) (y4 + 1) hf hk
      · refine g_icmp_ge X hf 49 dX10_sizeThen_29 (by decide) (fun hf => ?_) (fun hf => ?_)
        · refine g_aload_n X dX10_sizeThen_32 1 rfl rfl ?_
          refine g_iload_n X dX10_sizeThen_33 3 rfl rfl ?_
          refine g_iload X dX10_sizeThen_34 0 rfl ?_
          refine g_iadd X dX10_sizeThen_36 ?_
          refine g_iload_n X dX10_sizeThen_37 3 rfl rfl ?_
          refine g_iload X dX10_sizeThen_38 0 rfl ?_
          refine g_iadd X dX10_sizeThen_40 ?_
          refine g_iconst X dX10_sizeThen_41 ?_
          refine g_iadd X dX10_sizeThen_42 ?_
          obtain ⟨v7, hc8, hf⟩ := Option.bind_eq_some_iff.mp hf
          refine g_callV X (As := [ii (x2 + v3), ii ((x2 + v3) + 1)]) (st := [ii y3]) (st1 := [ii v7, ii y3]) (ws' := c10 K a all saved savedMany errors text textLong rdd readMany waits opn place built builtMany parts partMany taken calls lacks callMany total values told toldLong) (X10_size_ok K l a all saved savedMany errors text textLong rdd readMany waits opn place built builtMany parts partMany taken calls lacks callMany total values told toldLong (x2 + v3) ((x2 + v3) + 1) v7 hc8) gX10_sizeThen_X10_size rfl 2 (by decide +kernel) ⟨rfl, rfl⟩ ⟨Nat.le_of_ble_eq_true rfl, Nat.le_of_ble_eq_true rfl⟩ ⟨Nat.zero_le _, Nat.zero_le _⟩ 0 rfl rfl rfl rfl (Nat.le_of_ble_eq_true rfl) dX10_sizeThen_43 (SG.all rfl) rfl ?_
          refine g_goto X 50 dX10_sizeThen_46 (by decide) ?_
          refine g_sub (lv' := [(0, .ref (a 0)), (1, ii x1), (2, ii x2), (4, ii y4)]) [1, 2, 3, 5] rfl ?_
          exact hj6 v7 hf
        · refine g_iconst X dX10_sizeThen_49 ?_
          refine g_sub (lv' := [(0, .ref (a 0)), (1, ii x1), (2, ii x2), (4, ii y4)]) [1, 2, 3, 5] rfl ?_
          exact hj6 1 hf
    · refine g_sub (lv' := [(3, ii y3)]) [3] rfl ?_
      exact hk y3 hf
set_option maxHeartbeats 4000000 in
set_option maxRecDepth 100000 in
theorem X10_sizeThen_go (K : KE) (l : Launch) (a : Nat → Nat) (WC : va_W) {p : Program} {e : Env} {s : State} {m : MethodId} {args : Array Value} {below : List Frame} {meth : Method} {c : Code} (X : CX p s m args c K.1 vwCl (kT K) (va_A WC s.heap.size) cX10_sizeThen 6 wsX10_sizeThen RX10) (hr : meth.sig.returnType = (some .int)) (hlk : meth.locks = false) (all : Arr) (saved : Arr) (savedMany : Int) (errors : Arr) (text : Arr) (textLong : Int) (rdd : Arr) (readMany : Int) (waits : Arr) (opn : Int) (place : Int) (built : Arr) (builtMany : Int) (parts : Arr) (partMany : Int) (taken : Arr) (calls : Arr) (lacks : Arr) (callMany : Int) (total : Int) (values : Arr) (told : Arr) (toldLong : Int) (p1 : Int) (p2 : Int) (res : Int) (hf : X10_sizeThen all parts p1 p2 = some res) : GO p l e rmX10_sizeThen s m args below meth c K.1 vwCl (va_A WC s.heap.size) (MQ below (QC K.1 vwCl (some (ii res)) WC (c10 K a all saved savedMany errors text textLong rdd readMany waits opn place built builtMany parts partMany taken calls lacks callMany total values told toldLong) s.heap.size) args s 0 0 (va_A WC s.heap.size)) 6 0 0 0 [(0, .ref (a 0)), (1, ii p1), (2, ii p2)] [] (c10 K a all saved savedMany errors text textLong rdd readMany waits opn place built builtMany parts partMany taken calls lacks callMany total values told toldLong) := by
  rw [X10_sizeThen] at hf
  refine g_iconst X dX10_sizeThen_0 ?_
  refine g_istore_n X (lv' := [(3, ii 0), (0, .ref (a 0)), (1, ii p1), (2, ii p2)]) dX10_sizeThen_1 rfl (by decide) rfl ?_
  refine g_iconst X dX10_sizeThen_2 ?_
  refine g_istore X (lv' := [(4, ii 0), (3, ii 0), (0, .ref (a 0)), (1, ii p1), (2, ii p2)]) dX10_sizeThen_3 (by decide) rfl ?_
  refine g_sub (lv' := [(0, .ref (a 0)), (1, ii p1), (2, ii p2), (3, ii 0), (4, ii 0)]) [2, 3, 4, 1, 0] rfl ?_
  refine X10_sizeThen_L5_ok K l a WC X hr hlk all saved savedMany errors text textLong rdd readMany waits opn place built builtMany parts partMany taken calls lacks callMany total values told toldLong p1 p2 res FU 0 0 hf (fun w9 hf => ?_)
  refine g_iload_n X dX10_sizeThen_58 0 rfl rfl ?_
  cases hf
  exact g_iret X hr hlk dX10_sizeThen_59
set_option maxHeartbeats 4000000 in
set_option maxRecDepth 100000 in
theorem X10_sizeThen_ok (K : KE) (l : Launch) (a : Nat → Nat) (all : Arr) (saved : Arr) (savedMany : Int) (errors : Arr) (text : Arr) (textLong : Int) (rdd : Arr) (readMany : Int) (waits : Arr) (opn : Int) (place : Int) (built : Arr) (builtMany : Int) (parts : Arr) (partMany : Int) (taken : Arr) (calls : Arr) (lacks : Arr) (callMany : Int) (total : Int) (values : Arr) (told : Arr) (toldLong : Int) (p1 : Int) (p2 : Int) (res : Int) (hf : X10_sizeThen all parts p1 p2 = some res) : CT l K.1 vwCl (kT K) yX10_sizeThen wsX10_sizeThen rmX10_sizeThen [.ref (a 0), ii p1, ii p2] (some (ii res)) (c10 K a all saved savedMany errors text textLong rdd readMany waits opn place built builtMany parts partMany taken calls lacks callMany total values told toldLong) (c10 K a all saved savedMany errors text textLong rdd readMany waits opn place built builtMany parts partMany taken calls lacks callMany total values told toldLong) :=
  CT.mk (cc := cX10_sizeThen) (maxL := 6) (ret := (some .int)) (by decide) rfl (Nat.le_of_ble_eq_true rfl) (fun p e s m below meth c X hr hlk => X10_sizeThen_go K l a _ X hr hlk all saved savedMany errors text textLong rdd readMany waits opn place built builtMany parts partMany taken calls lacks callMany total values told toldLong p1 p2 res hf)
theorem iw_X10_reason_X10 : ∀ w ∈ u_ws RX10 TX10 23, w ∈ wsX10_reason := by decide +kernel
theorem fl_X10_reason_185 : Cond.fieldLink RX10 185 (TX10 19).1 (TX10 19).2.1 (TX10 19).2.2.1 ∈ wsX10_reason := by decide +kernel
theorem fl_X10_reason_170 : Cond.fieldLink RX10 170 (TX10 14).1 (TX10 14).2.1 (TX10 14).2.2.1 ∈ wsX10_reason := by decide +kernel
def rmX10_reason : Room := { frames := 3, cells := 0, slots := 0, locals := 67 }
def X10_reason_L20 (kx : Int → Int → Option (Int)) (all : Arr) (built : Arr) (parts : Arr) (partMany : Int) (total : Int) (x1 : Int) (x2 : Int) (x3 : Int) : Nat → Int → Int → Int → Option (Int)
  | 0, _, _, _ => none
  | n + 1, y4, y5, y6 => (X10_arguments x1).bind (fun v5 => brLT y6 v5 (ltK (fun q7 : Int => ltK (fun q9 : Int => X10_reason_L20 kx all built parts partMany total x1 x2 x3 n q7 q9 (y6 + 1)) (fun j10 => ltK (fun q11 : Unit => j10 1) (fun j12 => brEQ y5 0 ((X10_hasEffect all built parts (x3 + y6)).bind (fun v13 => ltK (fun q15 : Unit => j10 0) (fun j16 => brEQ v13 0 (j16 ()) ((X10_uses all x2 y6).bind (fun v17 => brEQ v17 0 (j12 ()) (j16 ())))))) (j12 ())))) (fun j8 => ltK (fun q19 : Unit => j8 1) (fun j20 => brEQ y4 0 ((X10_hasEffect all built parts (x3 + y6)).bind (fun v21 => ltK (fun q23 : Unit => j8 0) (fun j24 => brEQ v21 0 (j24 ()) ((X10_uses all x2 y6).bind (fun v25 => brLE v25 1 (j24 ()) (j20 ())))))) (j20 ())))) (kx y4 y5))
def X10_reason_L129 (kx : Option (Int)) (all : Arr) (built : Arr) (parts : Arr) (partMany : Int) (total : Int) (x2 : Int) (x3 : Int) : Nat → Int → Int → Option (Int)
  | 0, _, _ => none
  | n + 1, y6, y7 => (X10_used all x2).bind (fun v29 => brLT y7 v29 ((X10_entry all x2 y7).bind (fun v31 => ltK (fun q33 : Int => X10_reason_L129 kx all built parts partMany total x2 x3 n q33 (y7 + 1)) (fun j34 => brLT v31 100 ((X10_hasEffect all built parts (x3 + v31)).bind (fun v35 => brEQ v35 0 (j34 y6) (brLT v31 y6 (some 6) (j34 v31)))) (j34 y6)))) (kx))
def X10_reason (all : Arr) (built : Arr) (parts : Arr) (partMany : Int) (total : Int) (p1 : Int) : Option (Int) := (X10_which p1).bind (fun v1 => (X10_first partMany p1).bind (fun v3 => X10_reason_L20 (fun w27 w28 => brEQ w27 0 (brEQ w28 0 (X10_reason_L129 ((X10_size parts v3 partMany).bind (fun v37 => (X10_sizeThen all parts v1 v3).bind (fun v39 => brLE ((total - v37) + v39) 30 (some 0) (some 7)))) all built parts partMany total v1 v3 FU (-1) 0) (brEQ w27 0 (some 5) (some 4))) (brEQ w27 0 (some 5) (some 4))) all built parts partMany total p1 v1 v3 FU 0 0 0))
set_option maxHeartbeats 4000000 in
set_option maxRecDepth 100000 in
theorem X10_reason_L20_ok (K : KE) (l : Launch) (a : Nat → Nat) (WC : va_W) {p : Program} {e : Env} {s : State} {m : MethodId} {args : Array Value} {below : List Frame} {meth : Method} {c : Code} (X : CX p s m args c K.1 vwCl (kT K) (va_A WC s.heap.size) cX10_reason 9 wsX10_reason RX10) (hr : meth.sig.returnType = (some .int)) (hlk : meth.locks = false) (all : Arr) (saved : Arr) (savedMany : Int) (errors : Arr) (text : Arr) (textLong : Int) (rdd : Arr) (readMany : Int) (waits : Arr) (opn : Int) (place : Int) (built : Arr) (builtMany : Int) (parts : Arr) (partMany : Int) (taken : Arr) (calls : Arr) (lacks : Arr) (callMany : Int) (total : Int) (values : Arr) (told : Arr) (toldLong : Int) (x1 : Int) (x2 : Int) (x3 : Int) (res : Int) {kx : Int → Int → Option (Int)} : ∀ (n : Nat) (y4 : Int) (y5 : Int) (y6 : Int), X10_reason_L20 kx all built parts partMany total x1 x2 x3 n y4 y5 y6 = some res → (∀ (z4 : Int) (z5 : Int), kx z4 z5 = some res → GO p l e rmX10_reason s m args below meth c K.1 vwCl (va_A WC s.heap.size) (MQ below (QC K.1 vwCl (some (ii res)) WC (c10 K a all saved savedMany errors text textLong rdd readMany waits opn place built builtMany parts partMany taken calls lacks callMany total values told toldLong) s.heap.size) args s 0 0 (va_A WC s.heap.size)) 9 0 0 102 [(0, .ref (a 0)), (2, ii x2), (3, ii x3), (4, ii z4), (5, ii z5)] [] (c10 K a all saved savedMany errors text textLong rdd readMany waits opn place built builtMany parts partMany taken calls lacks callMany total values told toldLong)) → GO p l e rmX10_reason s m args below meth c K.1 vwCl (va_A WC s.heap.size) (MQ below (QC K.1 vwCl (some (ii res)) WC (c10 K a all saved savedMany errors text textLong rdd readMany waits opn place built builtMany parts partMany taken calls lacks callMany total values told toldLong) s.heap.size) args s 0 0 (va_A WC s.heap.size)) 9 0 0 20 [(0, .ref (a 0)), (1, ii x1), (2, ii x2), (3, ii x3), (4, ii y4), (5, ii y5), (6, ii y6)] [] (c10 K a all saved savedMany errors text textLong rdd readMany waits opn place built builtMany parts partMany taken calls lacks callMany total values told toldLong) := by
  intro n
  induction n with
  | zero =>
    intro y4 y5 y6 hf _
    rw [X10_reason_L20] at hf
    cases hf
  | succ n ih =>
    intro y4 y5 y6 hf hk
    rw [X10_reason_L20] at hf
    refine g_iload X dX10_reason_20 6 rfl ?_
    refine g_iload_n X dX10_reason_22 1 rfl rfl ?_
    obtain ⟨v5, hc6, hf⟩ := Option.bind_eq_some_iff.mp hf
    refine g_callS X (As := [ii x1]) (st := [ii y6]) (st1 := [ii v5, ii y6]) (ws' := c10 K a all saved savedMany errors text textLong rdd readMany waits opn place built builtMany parts partMany taken calls lacks callMany total values told toldLong) (X10_arguments_ok K l x1 v5 hc6) gX10_reason_X10_arguments rfl 1 (by decide +kernel) ⟨rfl, rfl⟩ ⟨Nat.le_of_ble_eq_true rfl, Nat.le_of_ble_eq_true rfl⟩ ⟨Nat.zero_le _, Nat.zero_le _⟩ rfl rfl (Nat.le_of_ble_eq_true rfl) dX10_reason_23 SG.none rfl ?_
    refine g_icmp_ge X hf 102 dX10_reason_26 (by decide) (fun hf => ?_) (fun hf => ?_)
    · refine g_iload X dX10_reason_29 4 rfl ?_
      refine g_let (G := fun q7 : Int => GO p l e rmX10_reason s m args below meth c K.1 vwCl (va_A WC s.heap.size) (MQ below (QC K.1 vwCl (some (ii res)) WC (c10 K a all saved savedMany errors text textLong rdd readMany waits opn place built builtMany parts partMany taken calls lacks callMany total values told toldLong) s.heap.size) args s 0 0 (va_A WC s.heap.size)) 9 0 0 61 [(0, .ref (a 0)), (1, ii x1), (2, ii x2), (3, ii x3), (5, ii y5), (6, ii y6)] [ii q7] (c10 K a all saved savedMany errors text textLong rdd readMany waits opn place built builtMany parts partMany taken calls lacks callMany total values told toldLong)) hf (fun q7 hf => ?_) (fun j8 hj8 hf => ?_)
      · refine g_istore X (lv' := [(4, ii q7), (0, .ref (a 0)), (1, ii x1), (2, ii x2), (3, ii x3), (5, ii y5), (6, ii y6)]) dX10_reason_61 (by decide) rfl ?_
        refine g_iload X dX10_reason_63 5 rfl ?_
        refine g_let (G := fun q9 : Int => GO p l e rmX10_reason s m args below meth c K.1 vwCl (va_A WC s.heap.size) (MQ below (QC K.1 vwCl (some (ii res)) WC (c10 K a all saved savedMany errors text textLong rdd readMany waits opn place built builtMany parts partMany taken calls lacks callMany total values told toldLong) s.heap.size) args s 0 0 (va_A WC s.heap.size)) 9 0 0 94 [(0, .ref (a 0)), (1, ii x1), (2, ii x2), (3, ii x3), (4, ii q7), (6, ii y6)] [ii q9] (c10 K a all saved savedMany errors text textLong rdd readMany waits opn place built builtMany parts partMany taken calls lacks callMany total values told toldLong)) hf (fun q9 hf => ?_) (fun j10 hj10 hf => ?_)
        · refine g_istore X (lv' := [(5, ii q9), (0, .ref (a 0)), (1, ii x1), (2, ii x2), (3, ii x3), (4, ii q7), (6, ii y6)]) dX10_reason_94 (by decide) rfl ?_
          refine g_iinc X (lv' := [(6, ii (y6 + 1)), (5, ii q9), (0, .ref (a 0)), (1, ii x1), (2, ii x2), (3, ii x3), (4, ii q7)]) dX10_reason_96 6 rfl (by decide) rfl ?_
          refine g_goto X 20 dX10_reason_99 (by decide) ?_
          refine g_sub (lv' := [(0, .ref (a 0)), (1, ii x1), (2, ii x2), (3, ii x3), (4, ii q7), (5, ii q9), (6, ii (y6 + 1))]) [2, 3, 4, 5, 6, 1, 0] rfl ?_
          exact ih q7 q9 (y6 + 1) hf hk
        · refine g_let (G := fun q11 : Unit => GO p l e rmX10_reason s m args below meth c K.1 vwCl (va_A WC s.heap.size) (MQ below (QC K.1 vwCl (some (ii res)) WC (c10 K a all saved savedMany errors text textLong rdd readMany waits opn place built builtMany parts partMany taken calls lacks callMany total values told toldLong) s.heap.size) args s 0 0 (va_A WC s.heap.size)) 9 0 0 89 [(0, .ref (a 0)), (1, ii x1), (2, ii x2), (3, ii x3), (4, ii q7), (6, ii y6)] [] (c10 K a all saved savedMany errors text textLong rdd readMany waits opn place built builtMany parts partMany taken calls lacks callMany total values told toldLong)) hf (fun q11 hf => ?_) (fun j12 hj12 hf => ?_)
          · refine g_iconst X dX10_reason_89 ?_
            refine g_goto X 94 dX10_reason_90 (by decide) ?_
            exact hj10 1 hf
          · refine g_if_ne X hf 89 dX10_reason_65 (by decide) (fun hf => ?_) (fun hf => ?_)
            · refine g_aload_n X dX10_reason_68 1 rfl rfl ?_
              refine g_iload_n X dX10_reason_69 4 rfl rfl ?_
              refine g_iload X dX10_reason_70 6 rfl ?_
              refine g_iadd X dX10_reason_72 ?_
              obtain ⟨v13, hc14, hf⟩ := Option.bind_eq_some_iff.mp hf
              refine g_callV X (As := [ii (x3 + y6)]) (st := []) (st1 := [ii v13]) (ws' := c10 K a all saved savedMany errors text textLong rdd readMany waits opn place built builtMany parts partMany taken calls lacks callMany total values told toldLong) (X10_hasEffect_ok K l a all saved savedMany errors text textLong rdd readMany waits opn place built builtMany parts partMany taken calls lacks callMany total values told toldLong (x3 + y6) v13 hc14) gX10_reason_X10_hasEffect rfl 1 (by decide +kernel) ⟨rfl, rfl⟩ ⟨Nat.le_of_ble_eq_true rfl, Nat.le_of_ble_eq_true rfl⟩ ⟨Nat.zero_le _, Nat.zero_le _⟩ 0 rfl rfl rfl rfl (Nat.le_of_ble_eq_true rfl) dX10_reason_73 (SG.all rfl) rfl ?_
              refine g_let (G := fun q15 : Unit => GO p l e rmX10_reason s m args below meth c K.1 vwCl (va_A WC s.heap.size) (MQ below (QC K.1 vwCl (some (ii res)) WC (c10 K a all saved savedMany errors text textLong rdd readMany waits opn place built builtMany parts partMany taken calls lacks callMany total values told toldLong) s.heap.size) args s 0 0 (va_A WC s.heap.size)) 9 0 0 93 [(0, .ref (a 0)), (1, ii x1), (2, ii x2), (3, ii x3), (4, ii q7), (6, ii y6)] [] (c10 K a all saved savedMany errors text textLong rdd readMany waits opn place built builtMany parts partMany taken calls lacks callMany total values told toldLong)) hf (fun q15 hf => ?_) (fun j16 hj16 hf => ?_)
              · refine g_iconst X dX10_reason_93 ?_
                exact hj10 0 hf
              · refine g_if_eq X hf 93 dX10_reason_76 (by decide) (fun hf => ?_) (fun hf => ?_)
                · refine g_sub (lv' := [(0, .ref (a 0)), (1, ii x1), (2, ii x2), (3, ii x3), (4, ii q7), (6, ii y6)]) [1, 2, 3, 4, 0, 6] rfl ?_
                  exact hj16 () hf
                · refine g_aload_n X dX10_reason_79 1 rfl rfl ?_
                  refine g_iload_n X dX10_reason_80 3 rfl rfl ?_
                  refine g_iload X dX10_reason_81 6 rfl ?_
                  obtain ⟨v17, hc18, hf⟩ := Option.bind_eq_some_iff.mp hf
                  refine g_callV X (As := [ii x2, ii y6]) (st := []) (st1 := [ii v17]) (ws' := c10 K a all saved savedMany errors text textLong rdd readMany waits opn place built builtMany parts partMany taken calls lacks callMany total values told toldLong) (X10_uses_ok K l a all saved savedMany errors text textLong rdd readMany waits opn place built builtMany parts partMany taken calls lacks callMany total values told toldLong x2 y6 v17 hc18) gX10_reason_X10_uses rfl 2 (by decide +kernel) ⟨rfl, rfl⟩ ⟨Nat.le_of_ble_eq_true rfl, Nat.le_of_ble_eq_true rfl⟩ ⟨Nat.zero_le _, Nat.zero_le _⟩ 0 rfl rfl rfl rfl (Nat.le_of_ble_eq_true rfl) dX10_reason_83 (SG.all rfl) rfl ?_
                  refine g_if_ne X hf 93 dX10_reason_86 (by decide) (fun hf => ?_) (fun hf => ?_)
                  · refine g_sub (lv' := [(0, .ref (a 0)), (1, ii x1), (2, ii x2), (3, ii x3), (4, ii q7), (6, ii y6)]) [1, 2, 3, 4, 0, 6] rfl ?_
                    exact hj12 () hf
                  · refine g_sub (lv' := [(0, .ref (a 0)), (1, ii x1), (2, ii x2), (3, ii x3), (4, ii q7), (6, ii y6)]) [1, 2, 3, 4, 0, 6] rfl ?_
                    exact hj16 () hf
            · refine g_sub (lv' := [(0, .ref (a 0)), (1, ii x1), (2, ii x2), (3, ii x3), (4, ii q7), (6, ii y6)]) [1, 2, 3, 4, 0, 6] rfl ?_
              exact hj12 () hf
      · refine g_let (G := fun q19 : Unit => GO p l e rmX10_reason s m args below meth c K.1 vwCl (va_A WC s.heap.size) (MQ below (QC K.1 vwCl (some (ii res)) WC (c10 K a all saved savedMany errors text textLong rdd readMany waits opn place built builtMany parts partMany taken calls lacks callMany total values told toldLong) s.heap.size) args s 0 0 (va_A WC s.heap.size)) 9 0 0 56 [(0, .ref (a 0)), (1, ii x1), (2, ii x2), (3, ii x3), (5, ii y5), (6, ii y6)] [] (c10 K a all saved savedMany errors text textLong rdd readMany waits opn place built builtMany parts partMany taken calls lacks callMany total values told toldLong)) hf (fun q19 hf => ?_) (fun j20 hj20 hf => ?_)
        · refine g_iconst X dX10_reason_56 ?_
          refine g_goto X 61 dX10_reason_57 (by decide) ?_
          exact hj8 1 hf
        · refine g_if_ne X hf 56 dX10_reason_31 (by decide) (fun hf => ?_) (fun hf => ?_)
          · refine g_aload_n X dX10_reason_34 0 rfl rfl ?_
            refine g_iload_n X dX10_reason_35 3 rfl rfl ?_
            refine g_iload X dX10_reason_36 6 rfl ?_
            refine g_iadd X dX10_reason_38 ?_
            obtain ⟨v21, hc22, hf⟩ := Option.bind_eq_some_iff.mp hf
            refine g_callV X (As := [ii (x3 + y6)]) (st := []) (st1 := [ii v21]) (ws' := c10 K a all saved savedMany errors text textLong rdd readMany waits opn place built builtMany parts partMany taken calls lacks callMany total values told toldLong) (X10_hasEffect_ok K l a all saved savedMany errors text textLong rdd readMany waits opn place built builtMany parts partMany taken calls lacks callMany total values told toldLong (x3 + y6) v21 hc22) gX10_reason_X10_hasEffect rfl 1 (by decide +kernel) ⟨rfl, rfl⟩ ⟨Nat.le_of_ble_eq_true rfl, Nat.le_of_ble_eq_true rfl⟩ ⟨Nat.zero_le _, Nat.zero_le _⟩ 0 rfl rfl rfl rfl (Nat.le_of_ble_eq_true rfl) dX10_reason_39 (SG.all rfl) rfl ?_
            refine g_let (G := fun q23 : Unit => GO p l e rmX10_reason s m args below meth c K.1 vwCl (va_A WC s.heap.size) (MQ below (QC K.1 vwCl (some (ii res)) WC (c10 K a all saved savedMany errors text textLong rdd readMany waits opn place built builtMany parts partMany taken calls lacks callMany total values told toldLong) s.heap.size) args s 0 0 (va_A WC s.heap.size)) 9 0 0 60 [(0, .ref (a 0)), (1, ii x1), (2, ii x2), (3, ii x3), (5, ii y5), (6, ii y6)] [] (c10 K a all saved savedMany errors text textLong rdd readMany waits opn place built builtMany parts partMany taken calls lacks callMany total values told toldLong)) hf (fun q23 hf => ?_) (fun j24 hj24 hf => ?_)
            · refine g_iconst X dX10_reason_60 ?_
              exact hj8 0 hf
            · refine g_if_eq X hf 60 dX10_reason_42 (by decide) (fun hf => ?_) (fun hf => ?_)
              · refine g_sub (lv' := [(0, .ref (a 0)), (1, ii x1), (2, ii x2), (3, ii x3), (5, ii y5), (6, ii y6)]) [0, 1, 2, 3, 5, 6] rfl ?_
                exact hj24 () hf
              · refine g_aload_n X dX10_reason_45 0 rfl rfl ?_
                refine g_iload_n X dX10_reason_46 2 rfl rfl ?_
                refine g_iload X dX10_reason_47 6 rfl ?_
                obtain ⟨v25, hc26, hf⟩ := Option.bind_eq_some_iff.mp hf
                refine g_callV X (As := [ii x2, ii y6]) (st := []) (st1 := [ii v25]) (ws' := c10 K a all saved savedMany errors text textLong rdd readMany waits opn place built builtMany parts partMany taken calls lacks callMany total values told toldLong) (X10_uses_ok K l a all saved savedMany errors text textLong rdd readMany waits opn place built builtMany parts partMany taken calls lacks callMany total values told toldLong x2 y6 v25 hc26) gX10_reason_X10_uses rfl 2 (by decide +kernel) ⟨rfl, rfl⟩ ⟨Nat.le_of_ble_eq_true rfl, Nat.le_of_ble_eq_true rfl⟩ ⟨Nat.zero_le _, Nat.zero_le _⟩ 0 rfl rfl rfl rfl (Nat.le_of_ble_eq_true rfl) dX10_reason_49 (SG.all rfl) rfl ?_
                refine g_iconst X dX10_reason_52 ?_
                refine g_icmp_le X hf 60 dX10_reason_53 (by decide) (fun hf => ?_) (fun hf => ?_)
                · refine g_sub (lv' := [(0, .ref (a 0)), (1, ii x1), (2, ii x2), (3, ii x3), (5, ii y5), (6, ii y6)]) [0, 1, 2, 3, 5, 6] rfl ?_
                  exact hj24 () hf
                · refine g_sub (lv' := [(0, .ref (a 0)), (1, ii x1), (2, ii x2), (3, ii x3), (5, ii y5), (6, ii y6)]) [0, 1, 2, 3, 5, 6] rfl ?_
                  exact hj20 () hf
          · refine g_sub (lv' := [(0, .ref (a 0)), (1, ii x1), (2, ii x2), (3, ii x3), (5, ii y5), (6, ii y6)]) [0, 1, 2, 3, 5, 6] rfl ?_
            exact hj20 () hf
    · refine g_sub (lv' := [(0, .ref (a 0)), (2, ii x2), (3, ii x3), (4, ii y4), (5, ii y5)]) [0, 2, 3, 4, 5] rfl ?_
      exact hk y4 y5 hf
set_option maxHeartbeats 4000000 in
set_option maxRecDepth 100000 in
theorem X10_reason_L129_ok (K : KE) (l : Launch) (a : Nat → Nat) (WC : va_W) {p : Program} {e : Env} {s : State} {m : MethodId} {args : Array Value} {below : List Frame} {meth : Method} {c : Code} (X : CX p s m args c K.1 vwCl (kT K) (va_A WC s.heap.size) cX10_reason 9 wsX10_reason RX10) (hr : meth.sig.returnType = (some .int)) (hlk : meth.locks = false) (all : Arr) (saved : Arr) (savedMany : Int) (errors : Arr) (text : Arr) (textLong : Int) (rdd : Arr) (readMany : Int) (waits : Arr) (opn : Int) (place : Int) (built : Arr) (builtMany : Int) (parts : Arr) (partMany : Int) (taken : Arr) (calls : Arr) (lacks : Arr) (callMany : Int) (total : Int) (values : Arr) (told : Arr) (toldLong : Int) (x2 : Int) (x3 : Int) (res : Int) {kx : Option (Int)} : ∀ (n : Nat) (y6 : Int) (y7 : Int), X10_reason_L129 kx all built parts partMany total x2 x3 n y6 y7 = some res → (kx = some res → GO p l e rmX10_reason s m args below meth c K.1 vwCl (va_A WC s.heap.size) (MQ below (QC K.1 vwCl (some (ii res)) WC (c10 K a all saved savedMany errors text textLong rdd readMany waits opn place built builtMany parts partMany taken calls lacks callMany total values told toldLong) s.heap.size) args s 0 0 (va_A WC s.heap.size)) 9 0 0 186 [(0, .ref (a 0)), (2, ii x2), (3, ii x3)] [] (c10 K a all saved savedMany errors text textLong rdd readMany waits opn place built builtMany parts partMany taken calls lacks callMany total values told toldLong)) → GO p l e rmX10_reason s m args below meth c K.1 vwCl (va_A WC s.heap.size) (MQ below (QC K.1 vwCl (some (ii res)) WC (c10 K a all saved savedMany errors text textLong rdd readMany waits opn place built builtMany parts partMany taken calls lacks callMany total values told toldLong) s.heap.size) args s 0 0 (va_A WC s.heap.size)) 9 0 0 129 [(0, .ref (a 0)), (2, ii x2), (3, ii x3), (6, ii y6), (7, ii y7)] [] (c10 K a all saved savedMany errors text textLong rdd readMany waits opn place built builtMany parts partMany taken calls lacks callMany total values told toldLong) := by
  intro n
  induction n with
  | zero =>
    intro y6 y7 hf _
    rw [X10_reason_L129] at hf
    cases hf
  | succ n ih =>
    intro y6 y7 hf hk
    rw [X10_reason_L129] at hf
    refine g_iload X dX10_reason_129 4 rfl ?_
    refine g_aload_n X dX10_reason_131 0 rfl rfl ?_
    refine g_iload_n X dX10_reason_132 1 rfl rfl ?_
    obtain ⟨v29, hc30, hf⟩ := Option.bind_eq_some_iff.mp hf
    refine g_callV X (As := [ii x2]) (st := [ii y7]) (st1 := [ii v29, ii y7]) (ws' := c10 K a all saved savedMany errors text textLong rdd readMany waits opn place built builtMany parts partMany taken calls lacks callMany total values told toldLong) (X10_used_ok K l a all saved savedMany errors text textLong rdd readMany waits opn place built builtMany parts partMany taken calls lacks callMany total values told toldLong x2 v29 hc30) gX10_reason_X10_used rfl 1 (by decide +kernel) ⟨rfl, rfl⟩ ⟨Nat.le_of_ble_eq_true rfl, Nat.le_of_ble_eq_true rfl⟩ ⟨Nat.zero_le _, Nat.zero_le _⟩ 0 rfl rfl rfl rfl (Nat.le_of_ble_eq_true rfl) dX10_reason_133 (SG.all rfl) rfl ?_
    refine g_icmp_ge X hf 186 dX10_reason_136 (by decide) (fun hf => ?_) (fun hf => ?_)
    · refine g_aload_n X dX10_reason_139 0 rfl rfl ?_
      refine g_iload_n X dX10_reason_140 1 rfl rfl ?_
      refine g_iload X dX10_reason_141 4 rfl ?_
      obtain ⟨v31, hc32, hf⟩ := Option.bind_eq_some_iff.mp hf
      refine g_callV X (As := [ii x2, ii y7]) (st := []) (st1 := [ii v31]) (ws' := c10 K a all saved savedMany errors text textLong rdd readMany waits opn place built builtMany parts partMany taken calls lacks callMany total values told toldLong) (X10_entry_ok K l a all saved savedMany errors text textLong rdd readMany waits opn place built builtMany parts partMany taken calls lacks callMany total values told toldLong x2 y7 v31 hc32) gX10_reason_X10_entry rfl 2 (by decide +kernel) ⟨rfl, rfl⟩ ⟨Nat.le_of_ble_eq_true rfl, Nat.le_of_ble_eq_true rfl⟩ ⟨Nat.zero_le _, Nat.zero_le _⟩ 0 rfl rfl rfl rfl (Nat.le_of_ble_eq_true rfl) dX10_reason_143 (SG.all rfl) rfl ?_
      refine g_istore X (lv' := [(8, ii v31), (0, .ref (a 0)), (2, ii x2), (3, ii x3), (6, ii y6), (7, ii y7)]) dX10_reason_146 (by decide) rfl ?_
      refine g_iload X dX10_reason_148 0 rfl ?_
      refine g_bipush X dX10_reason_150 (by decide +kernel) ?_
      refine g_let (G := fun q33 : Int => GO p l e rmX10_reason s m args below meth c K.1 vwCl (va_A WC s.heap.size) (MQ below (QC K.1 vwCl (some (ii res)) WC (c10 K a all saved savedMany errors text textLong rdd readMany waits opn place built builtMany parts partMany taken calls lacks callMany total values told toldLong) s.heap.size) args s 0 0 (va_A WC s.heap.size)) 9 0 0 180 [(0, .ref (a 0)), (2, ii x2), (3, ii x3), (6, ii q33), (7, ii y7)] [] (c10 K a all saved savedMany errors text textLong rdd readMany waits opn place built builtMany parts partMany taken calls lacks callMany total values told toldLong)) hf (fun q33 hf => ?_) (fun j34 hj34 hf => ?_)
      · refine g_iinc X (lv' := [(7, ii (y7 + 1)), (0, .ref (a 0)), (2, ii x2), (3, ii x3), (6, ii q33)]) dX10_reason_180 4 rfl (by decide) rfl ?_
        refine g_goto X 129 dX10_reason_183 (by decide) ?_
        refine g_sub (lv' := [(0, .ref (a 0)), (2, ii x2), (3, ii x3), (6, ii q33), (7, ii (y7 + 1))]) [1, 2, 3, 4, 0] rfl ?_
        exact ih q33 (y7 + 1) hf hk
      · refine g_icmp_ge X hf 180 dX10_reason_152 (by decide) (fun hf => ?_) (fun hf => ?_)
        · refine g_aload_n X dX10_reason_155 1 rfl rfl ?_
          refine g_iload_n X dX10_reason_156 3 rfl rfl ?_
          refine g_iload X dX10_reason_157 0 rfl ?_
          refine g_iadd X dX10_reason_159 ?_
          obtain ⟨v35, hc36, hf⟩ := Option.bind_eq_some_iff.mp hf
          refine g_callV X (As := [ii (x3 + v31)]) (st := []) (st1 := [ii v35]) (ws' := c10 K a all saved savedMany errors text textLong rdd readMany waits opn place built builtMany parts partMany taken calls lacks callMany total values told toldLong) (X10_hasEffect_ok K l a all saved savedMany errors text textLong rdd readMany waits opn place built builtMany parts partMany taken calls lacks callMany total values told toldLong (x3 + v31) v35 hc36) gX10_reason_X10_hasEffect rfl 1 (by decide +kernel) ⟨rfl, rfl⟩ ⟨Nat.le_of_ble_eq_true rfl, Nat.le_of_ble_eq_true rfl⟩ ⟨Nat.zero_le _, Nat.zero_le _⟩ 0 rfl rfl rfl rfl (Nat.le_of_ble_eq_true rfl) dX10_reason_160 (SG.all rfl) rfl ?_
          refine g_if_eq X hf 180 dX10_reason_163 (by decide) (fun hf => ?_) (fun hf => ?_)
          · refine g_sub (lv' := [(0, .ref (a 0)), (2, ii x2), (3, ii x3), (6, ii y6), (7, ii y7)]) [1, 2, 3, 4, 5] rfl ?_
            exact hj34 y6 hf
          · refine g_iload X dX10_reason_166 0 rfl ?_
            refine g_iload X dX10_reason_168 4 rfl ?_
            refine g_icmp_ge X hf 176 dX10_reason_170 (by decide) (fun hf => ?_) (fun hf => ?_)
            · refine g_bipush X dX10_reason_173 (by decide +kernel) ?_
              cases hf
              exact g_iret X hr hlk dX10_reason_175
            · refine g_iload X dX10_reason_176 0 rfl ?_
              refine g_istore X (lv' := [(6, ii v31), (8, ii v31), (0, .ref (a 0)), (2, ii x2), (3, ii x3), (7, ii y7)]) dX10_reason_178 (by decide) rfl ?_
              refine g_sub (lv' := [(0, .ref (a 0)), (2, ii x2), (3, ii x3), (6, ii v31), (7, ii y7)]) [2, 3, 4, 0, 5] rfl ?_
              exact hj34 v31 hf
        · refine g_sub (lv' := [(0, .ref (a 0)), (2, ii x2), (3, ii x3), (6, ii y6), (7, ii y7)]) [1, 2, 3, 4, 5] rfl ?_
          exact hj34 y6 hf
    · refine g_sub (lv' := [(0, .ref (a 0)), (2, ii x2), (3, ii x3)]) [0, 1, 2] rfl ?_
      exact hk hf
set_option maxHeartbeats 4000000 in
set_option maxRecDepth 100000 in
theorem X10_reason_go (K : KE) (l : Launch) (a : Nat → Nat) (WC : va_W) {p : Program} {e : Env} {s : State} {m : MethodId} {args : Array Value} {below : List Frame} {meth : Method} {c : Code} (X : CX p s m args c K.1 vwCl (kT K) (va_A WC s.heap.size) cX10_reason 9 wsX10_reason RX10) (hr : meth.sig.returnType = (some .int)) (hlk : meth.locks = false) (all : Arr) (saved : Arr) (savedMany : Int) (errors : Arr) (text : Arr) (textLong : Int) (rdd : Arr) (readMany : Int) (waits : Arr) (opn : Int) (place : Int) (built : Arr) (builtMany : Int) (parts : Arr) (partMany : Int) (taken : Arr) (calls : Arr) (lacks : Arr) (callMany : Int) (total : Int) (values : Arr) (told : Arr) (toldLong : Int) (p1 : Int) (res : Int) (hf : X10_reason all built parts partMany total p1 = some res) : GO p l e rmX10_reason s m args below meth c K.1 vwCl (va_A WC s.heap.size) (MQ below (QC K.1 vwCl (some (ii res)) WC (c10 K a all saved savedMany errors text textLong rdd readMany waits opn place built builtMany parts partMany taken calls lacks callMany total values told toldLong) s.heap.size) args s 0 0 (va_A WC s.heap.size)) 9 0 0 0 [(0, .ref (a 0)), (1, ii p1)] [] (c10 K a all saved savedMany errors text textLong rdd readMany waits opn place built builtMany parts partMany taken calls lacks callMany total values told toldLong) := by
  rw [X10_reason] at hf
  refine g_iload_n X dX10_reason_0 1 rfl rfl ?_
  obtain ⟨v1, hc2, hf⟩ := Option.bind_eq_some_iff.mp hf
  refine g_callS X (As := [ii p1]) (st := []) (st1 := [ii v1]) (ws' := c10 K a all saved savedMany errors text textLong rdd readMany waits opn place built builtMany parts partMany taken calls lacks callMany total values told toldLong) (X10_which_ok K l p1 v1 hc2) gX10_reason_X10_which rfl 1 (by decide +kernel) ⟨rfl, rfl⟩ ⟨Nat.le_of_ble_eq_true rfl, Nat.le_of_ble_eq_true rfl⟩ ⟨Nat.zero_le _, Nat.zero_le _⟩ rfl rfl (Nat.le_of_ble_eq_true rfl) dX10_reason_1 SG.none rfl ?_
  refine g_istore_n X (lv' := [(2, ii v1), (0, .ref (a 0)), (1, ii p1)]) dX10_reason_4 rfl (by decide) rfl ?_
  refine g_aload_n X dX10_reason_5 1 rfl rfl ?_
  refine g_iload_n X dX10_reason_6 2 rfl rfl ?_
  obtain ⟨v3, hc4, hf⟩ := Option.bind_eq_some_iff.mp hf
  refine g_callV X (As := [ii p1]) (st := []) (st1 := [ii v3]) (ws' := c10 K a all saved savedMany errors text textLong rdd readMany waits opn place built builtMany parts partMany taken calls lacks callMany total values told toldLong) (X10_first_ok K l a all saved savedMany errors text textLong rdd readMany waits opn place built builtMany parts partMany taken calls lacks callMany total values told toldLong p1 v3 hc4) gX10_reason_X10_first rfl 1 (by decide +kernel) ⟨rfl, rfl⟩ ⟨Nat.le_of_ble_eq_true rfl, Nat.le_of_ble_eq_true rfl⟩ ⟨Nat.zero_le _, Nat.zero_le _⟩ 0 rfl rfl rfl rfl (Nat.le_of_ble_eq_true rfl) dX10_reason_7 (SG.all rfl) rfl ?_
  refine g_istore_n X (lv' := [(3, ii v3), (2, ii v1), (0, .ref (a 0)), (1, ii p1)]) dX10_reason_10 rfl (by decide) rfl ?_
  refine g_iconst X dX10_reason_11 ?_
  refine g_istore X (lv' := [(4, ii 0), (3, ii v3), (2, ii v1), (0, .ref (a 0)), (1, ii p1)]) dX10_reason_12 (by decide) rfl ?_
  refine g_iconst X dX10_reason_14 ?_
  refine g_istore X (lv' := [(5, ii 0), (4, ii 0), (3, ii v3), (2, ii v1), (0, .ref (a 0)), (1, ii p1)]) dX10_reason_15 (by decide) rfl ?_
  refine g_iconst X dX10_reason_17 ?_
  refine g_istore X (lv' := [(6, ii 0), (5, ii 0), (4, ii 0), (3, ii v3), (2, ii v1), (0, .ref (a 0)), (1, ii p1)]) dX10_reason_18 (by decide) rfl ?_
  refine g_sub (lv' := [(0, .ref (a 0)), (1, ii p1), (2, ii v1), (3, ii v3), (4, ii 0), (5, ii 0), (6, ii 0)]) [5, 6, 4, 3, 2, 1, 0] rfl ?_
  refine X10_reason_L20_ok K l a WC X hr hlk all saved savedMany errors text textLong rdd readMany waits opn place built builtMany parts partMany taken calls lacks callMany total values told toldLong p1 v1 v3 res FU 0 0 0 hf (fun w27 w28 hf => ?_)
  refine g_iload X dX10_reason_102 3 rfl ?_
  refine g_if_ne X hf 112 dX10_reason_104 (by decide) (fun hf => ?_) (fun hf => ?_)
  · refine g_iload X dX10_reason_107 4 rfl ?_
    refine g_if_eq X hf 123 dX10_reason_109 (by decide) (fun hf => ?_) (fun hf => ?_)
    · refine g_iconst X dX10_reason_123 ?_
      refine g_istore X (lv' := [(6, ii (-1)), (0, .ref (a 0)), (2, ii v1), (3, ii v3), (4, ii w27), (5, ii w28)]) dX10_reason_124 (by decide) rfl ?_
      refine g_iconst X dX10_reason_126 ?_
      refine g_istore X (lv' := [(7, ii 0), (6, ii (-1)), (0, .ref (a 0)), (2, ii v1), (3, ii v3), (4, ii w27), (5, ii w28)]) dX10_reason_127 (by decide) rfl ?_
      refine g_sub (lv' := [(0, .ref (a 0)), (2, ii v1), (3, ii v3), (6, ii (-1)), (7, ii 0)]) [2, 3, 4, 1, 0] rfl ?_
      refine X10_reason_L129_ok K l a WC X hr hlk all saved savedMany errors text textLong rdd readMany waits opn place built builtMany parts partMany taken calls lacks callMany total values told toldLong v1 v3 res FU (-1) 0 hf (fun hf => ?_)
      refine g_aload_n X dX10_reason_186 0 rfl rfl ?_
      refine g_get X (v := ii total) 0 19 dX10_reason_187 rfl rfl iw_X10_reason_X10 (by decide) fl_X10_reason_185 rfl ?_
      refine g_aload_n X dX10_reason_190 0 rfl rfl ?_
      refine g_iload_n X dX10_reason_191 2 rfl rfl ?_
      refine g_aload_n X dX10_reason_192 0 rfl rfl ?_
      refine g_get X (v := ii partMany) 0 14 dX10_reason_193 rfl rfl iw_X10_reason_X10 (by decide) fl_X10_reason_170 rfl ?_
      obtain ⟨v37, hc38, hf⟩ := Option.bind_eq_some_iff.mp hf
      refine g_callV X (As := [ii v3, ii partMany]) (st := [ii total]) (st1 := [ii v37, ii total]) (ws' := c10 K a all saved savedMany errors text textLong rdd readMany waits opn place built builtMany parts partMany taken calls lacks callMany total values told toldLong) (X10_size_ok K l a all saved savedMany errors text textLong rdd readMany waits opn place built builtMany parts partMany taken calls lacks callMany total values told toldLong v3 partMany v37 hc38) gX10_reason_X10_size rfl 2 (by decide +kernel) ⟨rfl, rfl⟩ ⟨Nat.le_of_ble_eq_true rfl, Nat.le_of_ble_eq_true rfl⟩ ⟨Nat.zero_le _, Nat.zero_le _⟩ 0 rfl rfl rfl rfl (Nat.le_of_ble_eq_true rfl) dX10_reason_196 (SG.all rfl) rfl ?_
      refine g_isub X dX10_reason_199 ?_
      refine g_aload_n X dX10_reason_200 0 rfl rfl ?_
      refine g_iload_n X dX10_reason_201 1 rfl rfl ?_
      refine g_iload_n X dX10_reason_202 2 rfl rfl ?_
      obtain ⟨v39, hc40, hf⟩ := Option.bind_eq_some_iff.mp hf
      refine g_callV X (As := [ii v1, ii v3]) (st := [ii (total - v37)]) (st1 := [ii v39, ii (total - v37)]) (ws' := c10 K a all saved savedMany errors text textLong rdd readMany waits opn place built builtMany parts partMany taken calls lacks callMany total values told toldLong) (X10_sizeThen_ok K l a all saved savedMany errors text textLong rdd readMany waits opn place built builtMany parts partMany taken calls lacks callMany total values told toldLong v1 v3 v39 hc40) gX10_reason_X10_sizeThen rfl 2 (by decide +kernel) ⟨rfl, rfl⟩ ⟨Nat.le_of_ble_eq_true rfl, Nat.le_of_ble_eq_true rfl⟩ ⟨Nat.zero_le _, Nat.zero_le _⟩ 0 rfl rfl rfl rfl (Nat.le_of_ble_eq_true rfl) dX10_reason_203 (SG.all rfl) rfl ?_
      refine g_iadd X dX10_reason_206 ?_
      refine g_bipush X dX10_reason_207 (by decide +kernel) ?_
      refine g_icmp_le X hf 217 dX10_reason_209 (by decide) (fun hf => ?_) (fun hf => ?_)
      · refine g_iconst X dX10_reason_217 ?_
        cases hf
        exact g_iret X hr hlk dX10_reason_218
      · refine g_bipush X dX10_reason_212 (by decide +kernel) ?_
        refine g_goto X 218 dX10_reason_214 (by decide) ?_
        cases hf
        exact g_iret X hr hlk dX10_reason_218
    · refine g_iload X dX10_reason_112 3 rfl ?_
      refine g_if_eq X hf 121 dX10_reason_114 (by decide) (fun hf => ?_) (fun hf => ?_)
      · refine g_iconst X dX10_reason_121 ?_
        cases hf
        exact g_iret X hr hlk dX10_reason_122
      · refine g_iconst X dX10_reason_117 ?_
        refine g_goto X 122 dX10_reason_118 (by decide) ?_
        cases hf
        exact g_iret X hr hlk dX10_reason_122
  · refine g_iload X dX10_reason_112 3 rfl ?_
    refine g_if_eq X hf 121 dX10_reason_114 (by decide) (fun hf => ?_) (fun hf => ?_)
    · refine g_iconst X dX10_reason_121 ?_
      cases hf
      exact g_iret X hr hlk dX10_reason_122
    · refine g_iconst X dX10_reason_117 ?_
      refine g_goto X 122 dX10_reason_118 (by decide) ?_
      cases hf
      exact g_iret X hr hlk dX10_reason_122
set_option maxHeartbeats 4000000 in
set_option maxRecDepth 100000 in
theorem X10_reason_ok (K : KE) (l : Launch) (a : Nat → Nat) (all : Arr) (saved : Arr) (savedMany : Int) (errors : Arr) (text : Arr) (textLong : Int) (rdd : Arr) (readMany : Int) (waits : Arr) (opn : Int) (place : Int) (built : Arr) (builtMany : Int) (parts : Arr) (partMany : Int) (taken : Arr) (calls : Arr) (lacks : Arr) (callMany : Int) (total : Int) (values : Arr) (told : Arr) (toldLong : Int) (p1 : Int) (res : Int) (hf : X10_reason all built parts partMany total p1 = some res) : CT l K.1 vwCl (kT K) yX10_reason wsX10_reason rmX10_reason [.ref (a 0), ii p1] (some (ii res)) (c10 K a all saved savedMany errors text textLong rdd readMany waits opn place built builtMany parts partMany taken calls lacks callMany total values told toldLong) (c10 K a all saved savedMany errors text textLong rdd readMany waits opn place built builtMany parts partMany taken calls lacks callMany total values told toldLong) :=
  CT.mk (cc := cX10_reason) (maxL := 9) (ret := (some .int)) (by decide) rfl (Nat.le_of_ble_eq_true rfl) (fun p e s m below meth c X hr hlk => X10_reason_go K l a _ X hr hlk all saved savedMany errors text textLong rdd readMany waits opn place built builtMany parts partMany taken calls lacks callMany total values told toldLong p1 res hf)
theorem iw_X10_becomesNew_X10 : ∀ w ∈ u_ws RX10 TX10 23, w ∈ wsX10_becomesNew := by decide +kernel
theorem fl_X10_becomesNew_34 : Cond.fieldLink RX10 34 (TX10 15).1 (TX10 15).2.1 (TX10 15).2.2.1 ∈ wsX10_becomesNew := by decide +kernel
theorem fl_X10_becomesNew_185 : Cond.fieldLink RX10 185 (TX10 19).1 (TX10 19).2.1 (TX10 19).2.2.1 ∈ wsX10_becomesNew := by decide +kernel
theorem fl_X10_becomesNew_170 : Cond.fieldLink RX10 170 (TX10 14).1 (TX10 14).2.1 (TX10 14).2.2.1 ∈ wsX10_becomesNew := by decide +kernel
theorem fl_X10_becomesNew_31 : Cond.fieldLink RX10 31 (TX10 13).1 (TX10 13).2.1 (TX10 13).2.2.1 ∈ wsX10_becomesNew := by decide +kernel
theorem fl_X10_becomesNew_28 : Cond.fieldLink RX10 28 (TX10 11).1 (TX10 11).2.1 (TX10 11).2.2.1 ∈ wsX10_becomesNew := by decide +kernel
theorem fl_X10_becomesNew_173 : Cond.fieldLink RX10 173 (TX10 12).1 (TX10 12).2.1 (TX10 12).2.2.1 ∈ wsX10_becomesNew := by decide +kernel
def rmX10_becomesNew : Room := { frames := 3, cells := 0, slots := 0, locals := 67 }
def X10_becomesNew_L126 (kx : Int → Arr → Option (Arr × Int × Arr × Int × Arr × Int)) (all : Arr) (built : Arr) (builtMany : Int) (parts : Arr) (partMany : Int) (total : Int) (x2 : Int) (x3 : Int) (x5 : Int) (x6 : Int) : Nat → Int → Int → Arr → Option (Arr × Int × Arr × Int × Arr × Int)
  | 0, _, _, _ => none
  | n + 1, y4, y7, taken => rdK 31 parts ((x3 + x6) + 1) (fun v23 => brLT y7 v23 (rdK 30 built y7 (fun v24 => wrK 30 taken y4 v24 (fun f25 => X10_becomesNew_L126 kx all built builtMany parts partMany total x2 x3 x5 x6 n (y4 + 1) (y7 + 1) f25))) (kx y4 taken))
def X10_becomesNew_L66 (kx : Int → Arr → Option (Arr × Int × Arr × Int × Arr × Int)) (all : Arr) (built : Arr) (builtMany : Int) (parts : Arr) (partMany : Int) (total : Int) (x2 : Int) (x3 : Int) : Nat → Int → Int → Arr → Option (Arr × Int × Arr × Int × Arr × Int)
  | 0, _, _, _ => none
  | n + 1, y4, y5, taken => (X10_used all x2).bind (fun v16 => brLT y5 v16 ((X10_entry all x2 y5).bind (fun v18 => ltK (fun q20 : Int × Arr => X10_becomesNew_L66 kx all built builtMany parts partMany total x2 x3 n q20.1 (y5 + 1) q20.2) (fun j21 => brLT v18 100 (rdK 31 parts (x3 + v18) (fun v22 => X10_becomesNew_L126 (fun w26 w27 => j21 (w26, w27)) all built builtMany parts partMany total x2 x3 y5 v18 FU y4 v22 taken)) ((X10_node 0 (v18 - 100) 0).bind (fun v28 => wrK 30 taken y4 v28 (fun f30 => j21 ((y4 + 1), f30))))))) (kx y4 taken))
def X10_becomesNew_L182 (kx : Arr → Option (Arr × Int × Arr × Int × Arr × Int)) (all : Arr) (builtMany : Int) (parts : Arr) (partMany : Int) (taken : Arr) (total : Int) (x3 : Int) (x4 : Int) (x5 : Int) : Nat → Int → Arr → Option (Arr × Int × Arr × Int × Arr × Int)
  | 0, _, _ => none
  | n + 1, y6, built => brLT y6 x4 (rdK 30 taken y6 (fun v34 => wrK 30 built (x5 + y6) v34 (fun f35 => X10_becomesNew_L182 kx all builtMany parts partMany taken total x3 x4 x5 n (y6 + 1) f35))) (kx built)
def X10_becomesNew (all : Arr) (built : Arr) (builtMany : Int) (parts : Arr) (partMany : Int) (taken : Arr) (total : Int) (p1 : Int) : Option (Arr × Int × Arr × Int × Arr × Int) := (X10_which p1).bind (fun v1 => (X10_first partMany p1).bind (fun v3 => (X10_newOf all v1).bind (fun v5 => (X10_used all v1).bind (fun v7 => (X10_node 4 v5 v7).bind (fun v9 => wrK 30 taken 0 v9 (fun f11 => (X10_sizeThen all parts v1 v3).bind (fun v12 => (X10_size parts v3 partMany).bind (fun v14 => X10_becomesNew_L66 (fun w31 w32 => rdK 31 parts v3 (fun v33 => X10_becomesNew_L182 (fun w36 => wrK 31 parts (v3 + 1) (v33 + w31) (fun f37 => some (w36, (v33 + w31), f37, (v3 + 1), w32, (total + (v12 - v14))))) all builtMany parts partMany w32 (total + (v12 - v14)) v3 w31 v33 FU 0 built)) all built builtMany parts partMany (total + (v12 - v14)) v1 v3 FU (0 + 1) 0 f11))))))))
set_option maxHeartbeats 4000000 in
set_option maxRecDepth 100000 in
theorem X10_becomesNew_L126_ok (K : KE) (l : Launch) (a : Nat → Nat) (WC : va_W) {p : Program} {e : Env} {s : State} {m : MethodId} {args : Array Value} {below : List Frame} {meth : Method} {c : Code} (X : CX p s m args c K.1 vwCl (kT K) (va_A WC s.heap.size) cX10_becomesNew 8 wsX10_becomesNew RX10) (hr : meth.sig.returnType = none) (hlk : meth.locks = false) (all : Arr) (saved : Arr) (savedMany : Int) (errors : Arr) (text : Arr) (textLong : Int) (rdd : Arr) (readMany : Int) (waits : Arr) (opn : Int) (place : Int) (built : Arr) (builtMany : Int) (parts : Arr) (partMany : Int) (calls : Arr) (lacks : Arr) (callMany : Int) (total : Int) (values : Arr) (told : Arr) (toldLong : Int) (x2 : Int) (x3 : Int) (x5 : Int) (x6 : Int) (res : Arr × Int × Arr × Int × Arr × Int) {kx : Int → Arr → Option (Arr × Int × Arr × Int × Arr × Int)} : ∀ (n : Nat) (y4 : Int) (y7 : Int) (taken : Arr), X10_becomesNew_L126 kx all built builtMany parts partMany total x2 x3 x5 x6 n y4 y7 taken = some res → (∀ (z4 : Int) (takenz : Arr), kx z4 takenz = some res → GO p l e rmX10_becomesNew s m args below meth c K.1 vwCl (va_A WC s.heap.size) (MQ below (QC K.1 vwCl none WC (c10 K a all saved savedMany errors text textLong rdd readMany waits opn place res.1 res.2.1 res.2.2.1 res.2.2.2.1 res.2.2.2.2.1 calls lacks callMany res.2.2.2.2.2 values told toldLong) s.heap.size) args s 0 0 (va_A WC s.heap.size)) 8 0 0 165 [(0, .ref (a 0)), (2, ii x2), (3, ii x3), (4, ii z4), (5, ii x5)] [] (c10 K a all saved savedMany errors text textLong rdd readMany waits opn place built builtMany parts partMany takenz calls lacks callMany total values told toldLong)) → GO p l e rmX10_becomesNew s m args below meth c K.1 vwCl (va_A WC s.heap.size) (MQ below (QC K.1 vwCl none WC (c10 K a all saved savedMany errors text textLong rdd readMany waits opn place res.1 res.2.1 res.2.2.1 res.2.2.2.1 res.2.2.2.2.1 calls lacks callMany res.2.2.2.2.2 values told toldLong) s.heap.size) args s 0 0 (va_A WC s.heap.size)) 8 0 0 126 [(0, .ref (a 0)), (2, ii x2), (3, ii x3), (4, ii y4), (5, ii x5), (6, ii x6), (7, ii y7)] [] (c10 K a all saved savedMany errors text textLong rdd readMany waits opn place built builtMany parts partMany taken calls lacks callMany total values told toldLong) := by
  intro n
  induction n with
  | zero =>
    intro y4 y7 taken hf _
    rw [X10_becomesNew_L126] at hf
    cases hf
  | succ n ih =>
    intro y4 y7 taken hf hk
    rw [X10_becomesNew_L126] at hf
    refine g_iload X dX10_becomesNew_126 6 rfl ?_
    refine g_aload_n X dX10_becomesNew_128 0 rfl rfl ?_
    refine g_get X (v := .ref (a 8)) 0 13 dX10_becomesNew_129 rfl rfl iw_X10_becomesNew_X10 (by decide) fl_X10_becomesNew_31 rfl ?_
    refine g_iload_n X dX10_becomesNew_132 2 rfl rfl ?_
    refine g_iload X dX10_becomesNew_133 5 rfl ?_
    refine g_iadd X dX10_becomesNew_135 ?_
    refine g_iconst X dX10_becomesNew_136 ?_
    refine g_iadd X dX10_becomesNew_137 ?_
    refine g_iald X hf (by decide) 8 0 dX10_becomesNew_138 rfl rfl (fun v23 hf => ?_)
    refine g_icmp_ge X hf 165 dX10_becomesNew_139 (by decide) (fun hf => ?_) (fun hf => ?_)
    · refine g_aload_n X dX10_becomesNew_142 0 rfl rfl ?_
      refine g_get X (v := .ref (a 9)) 0 15 dX10_becomesNew_143 rfl rfl iw_X10_becomesNew_X10 (by decide) fl_X10_becomesNew_34 rfl ?_
      refine g_iload X dX10_becomesNew_146 3 rfl ?_
      refine g_aload_n X dX10_becomesNew_148 0 rfl rfl ?_
      refine g_get X (v := .ref (a 7)) 0 11 dX10_becomesNew_149 rfl rfl iw_X10_becomesNew_X10 (by decide) fl_X10_becomesNew_28 rfl ?_
      refine g_iload X dX10_becomesNew_152 6 rfl ?_
      refine g_iald X hf (by decide) 7 0 dX10_becomesNew_154 rfl rfl (fun v24 hf => ?_)
      refine g_iast X hf (by decide) 9 0 dX10_becomesNew_155 rfl rfl (fun f25 => c10 K a all saved savedMany errors text textLong rdd readMany waits opn place built builtMany parts partMany f25 calls lacks callMany total values told toldLong) (fun _ => rfl) (fun f25 hf => ?_)
      refine g_iinc X (lv' := [(4, ii (y4 + 1)), (0, .ref (a 0)), (2, ii x2), (3, ii x3), (5, ii x5), (6, ii x6), (7, ii y7)]) dX10_becomesNew_156 3 rfl (by decide) rfl ?_
      refine g_iinc X (lv' := [(7, ii (y7 + 1)), (4, ii (y4 + 1)), (0, .ref (a 0)), (2, ii x2), (3, ii x3), (5, ii x5), (6, ii x6)]) dX10_becomesNew_159 6 rfl (by decide) rfl ?_
      refine g_goto X 126 dX10_becomesNew_162 (by decide) ?_
      refine g_sub (lv' := [(0, .ref (a 0)), (2, ii x2), (3, ii x3), (4, ii (y4 + 1)), (5, ii x5), (6, ii x6), (7, ii (y7 + 1))]) [2, 3, 4, 1, 5, 6, 0] rfl ?_
      exact ih (y4 + 1) (y7 + 1) f25 hf hk
    · refine g_sub (lv' := [(0, .ref (a 0)), (2, ii x2), (3, ii x3), (4, ii y4), (5, ii x5)]) [0, 1, 2, 3, 4] rfl ?_
      exact hk y4 taken hf
set_option maxHeartbeats 4000000 in
set_option maxRecDepth 100000 in
theorem X10_becomesNew_L66_ok (K : KE) (l : Launch) (a : Nat → Nat) (WC : va_W) {p : Program} {e : Env} {s : State} {m : MethodId} {args : Array Value} {below : List Frame} {meth : Method} {c : Code} (X : CX p s m args c K.1 vwCl (kT K) (va_A WC s.heap.size) cX10_becomesNew 8 wsX10_becomesNew RX10) (hr : meth.sig.returnType = none) (hlk : meth.locks = false) (all : Arr) (saved : Arr) (savedMany : Int) (errors : Arr) (text : Arr) (textLong : Int) (rdd : Arr) (readMany : Int) (waits : Arr) (opn : Int) (place : Int) (built : Arr) (builtMany : Int) (parts : Arr) (partMany : Int) (calls : Arr) (lacks : Arr) (callMany : Int) (total : Int) (values : Arr) (told : Arr) (toldLong : Int) (x2 : Int) (x3 : Int) (res : Arr × Int × Arr × Int × Arr × Int) {kx : Int → Arr → Option (Arr × Int × Arr × Int × Arr × Int)} : ∀ (n : Nat) (y4 : Int) (y5 : Int) (taken : Arr), X10_becomesNew_L66 kx all built builtMany parts partMany total x2 x3 n y4 y5 taken = some res → (∀ (z4 : Int) (takenz : Arr), kx z4 takenz = some res → GO p l e rmX10_becomesNew s m args below meth c K.1 vwCl (va_A WC s.heap.size) (MQ below (QC K.1 vwCl none WC (c10 K a all saved savedMany errors text textLong rdd readMany waits opn place res.1 res.2.1 res.2.2.1 res.2.2.2.1 res.2.2.2.2.1 calls lacks callMany res.2.2.2.2.2 values told toldLong) s.heap.size) args s 0 0 (va_A WC s.heap.size)) 8 0 0 171 [(0, .ref (a 0)), (3, ii x3), (4, ii z4)] [] (c10 K a all saved savedMany errors text textLong rdd readMany waits opn place built builtMany parts partMany takenz calls lacks callMany total values told toldLong)) → GO p l e rmX10_becomesNew s m args below meth c K.1 vwCl (va_A WC s.heap.size) (MQ below (QC K.1 vwCl none WC (c10 K a all saved savedMany errors text textLong rdd readMany waits opn place res.1 res.2.1 res.2.2.1 res.2.2.2.1 res.2.2.2.2.1 calls lacks callMany res.2.2.2.2.2 values told toldLong) s.heap.size) args s 0 0 (va_A WC s.heap.size)) 8 0 0 66 [(0, .ref (a 0)), (2, ii x2), (3, ii x3), (4, ii y4), (5, ii y5)] [] (c10 K a all saved savedMany errors text textLong rdd readMany waits opn place built builtMany parts partMany taken calls lacks callMany total values told toldLong) := by
  intro n
  induction n with
  | zero =>
    intro y4 y5 taken hf _
    rw [X10_becomesNew_L66] at hf
    cases hf
  | succ n ih =>
    intro y4 y5 taken hf hk
    rw [X10_becomesNew_L66] at hf
    refine g_iload X dX10_becomesNew_66 4 rfl ?_
    refine g_aload_n X dX10_becomesNew_68 0 rfl rfl ?_
    refine g_iload_n X dX10_becomesNew_69 1 rfl rfl ?_
    obtain ⟨v16, hc17, hf⟩ := Option.bind_eq_some_iff.mp hf
    refine g_callV X (As := [ii x2]) (st := [ii y5]) (st1 := [ii v16, ii y5]) (ws' := c10 K a all saved savedMany errors text textLong rdd readMany waits opn place built builtMany parts partMany taken calls lacks callMany total values told toldLong) (X10_used_ok K l a all saved savedMany errors text textLong rdd readMany waits opn place built builtMany parts partMany taken calls lacks callMany total values told toldLong x2 v16 hc17) gX10_becomesNew_X10_used rfl 1 (by decide +kernel) ⟨rfl, rfl⟩ ⟨Nat.le_of_ble_eq_true rfl, Nat.le_of_ble_eq_true rfl⟩ ⟨Nat.zero_le _, Nat.zero_le _⟩ 0 rfl rfl rfl rfl (Nat.le_of_ble_eq_true rfl) dX10_becomesNew_70 (SG.all rfl) rfl ?_
    refine g_icmp_ge X hf 171 dX10_becomesNew_73 (by decide) (fun hf => ?_) (fun hf => ?_)
    · refine g_aload_n X dX10_becomesNew_76 0 rfl rfl ?_
      refine g_iload_n X dX10_becomesNew_77 1 rfl rfl ?_
      refine g_iload X dX10_becomesNew_78 4 rfl ?_
      obtain ⟨v18, hc19, hf⟩ := Option.bind_eq_some_iff.mp hf
      refine g_callV X (As := [ii x2, ii y5]) (st := []) (st1 := [ii v18]) (ws' := c10 K a all saved savedMany errors text textLong rdd readMany waits opn place built builtMany parts partMany taken calls lacks callMany total values told toldLong) (X10_entry_ok K l a all saved savedMany errors text textLong rdd readMany waits opn place built builtMany parts partMany taken calls lacks callMany total values told toldLong x2 y5 v18 hc19) gX10_becomesNew_X10_entry rfl 2 (by decide +kernel) ⟨rfl, rfl⟩ ⟨Nat.le_of_ble_eq_true rfl, Nat.le_of_ble_eq_true rfl⟩ ⟨Nat.zero_le _, Nat.zero_le _⟩ 0 rfl rfl rfl rfl (Nat.le_of_ble_eq_true rfl) dX10_becomesNew_80 (SG.all rfl) rfl ?_
      refine g_istore X (lv' := [(6, ii v18), (0, .ref (a 0)), (2, ii x2), (3, ii x3), (4, ii y4), (5, ii y5)]) dX10_becomesNew_83 (by decide) rfl ?_
      refine g_iload X dX10_becomesNew_85 0 rfl ?_
      refine g_bipush X dX10_becomesNew_87 (by decide +kernel) ?_
      refine g_let (G := fun q20 : Int × Arr => GO p l e rmX10_becomesNew s m args below meth c K.1 vwCl (va_A WC s.heap.size) (MQ below (QC K.1 vwCl none WC (c10 K a all saved savedMany errors text textLong rdd readMany waits opn place res.1 res.2.1 res.2.2.1 res.2.2.2.1 res.2.2.2.2.1 calls lacks callMany res.2.2.2.2.2 values told toldLong) s.heap.size) args s 0 0 (va_A WC s.heap.size)) 8 0 0 165 [(0, .ref (a 0)), (2, ii x2), (3, ii x3), (4, ii q20.1), (5, ii y5)] [] (c10 K a all saved savedMany errors text textLong rdd readMany waits opn place built builtMany parts partMany q20.2 calls lacks callMany total values told toldLong)) hf (fun q20 hf => ?_) (fun j21 hj21 hf => ?_)
      · refine g_iinc X (lv' := [(5, ii (y5 + 1)), (0, .ref (a 0)), (2, ii x2), (3, ii x3), (4, ii q20.1)]) dX10_becomesNew_165 4 rfl (by decide) rfl ?_
        refine g_goto X 66 dX10_becomesNew_168 (by decide) ?_
        refine g_sub (lv' := [(0, .ref (a 0)), (2, ii x2), (3, ii x3), (4, ii q20.1), (5, ii (y5 + 1))]) [1, 2, 3, 4, 0] rfl ?_
        exact ih q20.1 (y5 + 1) q20.2 hf hk
      · refine g_icmp_lt X hf 115 dX10_becomesNew_89 (by decide) (fun hf => ?_) (fun hf => ?_)
        · refine g_aload_n X dX10_becomesNew_115 1 rfl rfl ?_
          refine g_get X (v := .ref (a 8)) 0 13 dX10_becomesNew_116 rfl rfl iw_X10_becomesNew_X10 (by decide) fl_X10_becomesNew_31 rfl ?_
          refine g_iload_n X dX10_becomesNew_119 3 rfl rfl ?_
          refine g_iload X dX10_becomesNew_120 0 rfl ?_
          refine g_iadd X dX10_becomesNew_122 ?_
          refine g_iald X hf (by decide) 8 0 dX10_becomesNew_123 rfl rfl (fun v22 hf => ?_)
          refine g_istore X (lv' := [(7, ii v22), (6, ii v18), (0, .ref (a 0)), (2, ii x2), (3, ii x3), (4, ii y4), (5, ii y5)]) dX10_becomesNew_124 (by decide) rfl ?_
          refine g_sub (lv' := [(0, .ref (a 0)), (2, ii x2), (3, ii x3), (4, ii y4), (5, ii y5), (6, ii v18), (7, ii v22)]) [2, 3, 4, 5, 6, 1, 0] rfl ?_
          refine X10_becomesNew_L126_ok K l a WC X hr hlk all saved savedMany errors text textLong rdd readMany waits opn place built builtMany parts partMany calls lacks callMany total values told toldLong x2 x3 y5 v18 res FU y4 v22 taken hf (fun w26 w27 hf => ?_)
          exact hj21 (w26, w27) hf
        · refine g_aload_n X dX10_becomesNew_92 1 rfl rfl ?_
          refine g_get X (v := .ref (a 9)) 0 15 dX10_becomesNew_93 rfl rfl iw_X10_becomesNew_X10 (by decide) fl_X10_becomesNew_34 rfl ?_
          refine g_iload X dX10_becomesNew_96 4 rfl ?_
          refine g_iconst X dX10_becomesNew_98 ?_
          refine g_iload X dX10_becomesNew_99 0 rfl ?_
          refine g_bipush X dX10_becomesNew_101 (by decide +kernel) ?_
          refine g_isub X dX10_becomesNew_103 ?_
          refine g_iconst X dX10_becomesNew_104 ?_
          obtain ⟨v28, hc29, hf⟩ := Option.bind_eq_some_iff.mp hf
          refine g_callS X (As := [ii 0, ii (v18 - 100), ii 0]) (st := [ii y4, .ref (a 9)]) (st1 := [ii v28, ii y4, .ref (a 9)]) (ws' := c10 K a all saved savedMany errors text textLong rdd readMany waits opn place built builtMany parts partMany taken calls lacks callMany total values told toldLong) (X10_node_ok K l 0 (v18 - 100) 0 v28 hc29) gX10_becomesNew_X10_node rfl 3 (by decide +kernel) ⟨rfl, rfl⟩ ⟨Nat.le_of_ble_eq_true rfl, Nat.le_of_ble_eq_true rfl⟩ ⟨Nat.zero_le _, Nat.zero_le _⟩ rfl rfl (Nat.le_of_ble_eq_true rfl) dX10_becomesNew_105 SG.none rfl ?_
          refine g_iast X hf (by decide) 9 0 dX10_becomesNew_108 rfl rfl (fun f30 => c10 K a all saved savedMany errors text textLong rdd readMany waits opn place built builtMany parts partMany f30 calls lacks callMany total values told toldLong) (fun _ => rfl) (fun f30 hf => ?_)
          refine g_iinc X (lv' := [(4, ii (y4 + 1)), (6, ii v18), (0, .ref (a 0)), (2, ii x2), (3, ii x3), (5, ii y5)]) dX10_becomesNew_109 4 rfl (by decide) rfl ?_
          refine g_goto X 165 dX10_becomesNew_112 (by decide) ?_
          refine g_sub (lv' := [(0, .ref (a 0)), (2, ii x2), (3, ii x3), (4, ii (y4 + 1)), (5, ii y5)]) [2, 3, 4, 0, 5] rfl ?_
          exact hj21 ((y4 + 1), f30) hf
    · refine g_sub (lv' := [(0, .ref (a 0)), (3, ii x3), (4, ii y4)]) [0, 2, 3] rfl ?_
      exact hk y4 taken hf
set_option maxHeartbeats 4000000 in
set_option maxRecDepth 100000 in
theorem X10_becomesNew_L182_ok (K : KE) (l : Launch) (a : Nat → Nat) (WC : va_W) {p : Program} {e : Env} {s : State} {m : MethodId} {args : Array Value} {below : List Frame} {meth : Method} {c : Code} (X : CX p s m args c K.1 vwCl (kT K) (va_A WC s.heap.size) cX10_becomesNew 8 wsX10_becomesNew RX10) (hr : meth.sig.returnType = none) (hlk : meth.locks = false) (all : Arr) (saved : Arr) (savedMany : Int) (errors : Arr) (text : Arr) (textLong : Int) (rdd : Arr) (readMany : Int) (waits : Arr) (opn : Int) (place : Int) (builtMany : Int) (parts : Arr) (partMany : Int) (taken : Arr) (calls : Arr) (lacks : Arr) (callMany : Int) (total : Int) (values : Arr) (told : Arr) (toldLong : Int) (x3 : Int) (x4 : Int) (x5 : Int) (res : Arr × Int × Arr × Int × Arr × Int) {kx : Arr → Option (Arr × Int × Arr × Int × Arr × Int)} : ∀ (n : Nat) (y6 : Int) (built : Arr), X10_becomesNew_L182 kx all builtMany parts partMany taken total x3 x4 x5 n y6 built = some res → (∀ (builtz : Arr), kx builtz = some res → GO p l e rmX10_becomesNew s m args below meth c K.1 vwCl (va_A WC s.heap.size) (MQ below (QC K.1 vwCl none WC (c10 K a all saved savedMany errors text textLong rdd readMany waits opn place res.1 res.2.1 res.2.2.1 res.2.2.2.1 res.2.2.2.2.1 calls lacks callMany res.2.2.2.2.2 values told toldLong) s.heap.size) args s 0 0 (va_A WC s.heap.size)) 8 0 0 212 [(0, .ref (a 0)), (3, ii x3), (4, ii x4), (5, ii x5)] [] (c10 K a all saved savedMany errors text textLong rdd readMany waits opn place builtz builtMany parts partMany taken calls lacks callMany total values told toldLong)) → GO p l e rmX10_becomesNew s m args below meth c K.1 vwCl (va_A WC s.heap.size) (MQ below (QC K.1 vwCl none WC (c10 K a all saved savedMany errors text textLong rdd readMany waits opn place res.1 res.2.1 res.2.2.1 res.2.2.2.1 res.2.2.2.2.1 calls lacks callMany res.2.2.2.2.2 values told toldLong) s.heap.size) args s 0 0 (va_A WC s.heap.size)) 8 0 0 182 [(0, .ref (a 0)), (3, ii x3), (4, ii x4), (5, ii x5), (6, ii y6)] [] (c10 K a all saved savedMany errors text textLong rdd readMany waits opn place built builtMany parts partMany taken calls lacks callMany total values told toldLong) := by
  intro n
  induction n with
  | zero =>
    intro y6 built hf _
    rw [X10_becomesNew_L182] at hf
    cases hf
  | succ n ih =>
    intro y6 built hf hk
    rw [X10_becomesNew_L182] at hf
    refine g_iload X dX10_becomesNew_182 4 rfl ?_
    refine g_iload X dX10_becomesNew_184 2 rfl ?_
    refine g_icmp_ge X hf 212 dX10_becomesNew_186 (by decide) (fun hf => ?_) (fun hf => ?_)
    · refine g_aload_n X dX10_becomesNew_189 0 rfl rfl ?_
      refine g_get X (v := .ref (a 7)) 0 11 dX10_becomesNew_190 rfl rfl iw_X10_becomesNew_X10 (by decide) fl_X10_becomesNew_28 rfl ?_
      refine g_iload X dX10_becomesNew_193 3 rfl ?_
      refine g_iload X dX10_becomesNew_195 4 rfl ?_
      refine g_iadd X dX10_becomesNew_197 ?_
      refine g_aload_n X dX10_becomesNew_198 0 rfl rfl ?_
      refine g_get X (v := .ref (a 9)) 0 15 dX10_becomesNew_199 rfl rfl iw_X10_becomesNew_X10 (by decide) fl_X10_becomesNew_34 rfl ?_
      refine g_iload X dX10_becomesNew_202 4 rfl ?_
      refine g_iald X hf (by decide) 9 0 dX10_becomesNew_204 rfl rfl (fun v34 hf => ?_)
      refine g_iast X hf (by decide) 7 0 dX10_becomesNew_205 rfl rfl (fun f35 => c10 K a all saved savedMany errors text textLong rdd readMany waits opn place f35 builtMany parts partMany taken calls lacks callMany total values told toldLong) (fun _ => rfl) (fun f35 hf => ?_)
      refine g_iinc X (lv' := [(6, ii (y6 + 1)), (0, .ref (a 0)), (3, ii x3), (4, ii x4), (5, ii x5)]) dX10_becomesNew_206 4 rfl (by decide) rfl ?_
      refine g_goto X 182 dX10_becomesNew_209 (by decide) ?_
      refine g_sub (lv' := [(0, .ref (a 0)), (3, ii x3), (4, ii x4), (5, ii x5), (6, ii (y6 + 1))]) [1, 2, 3, 4, 0] rfl ?_
      exact ih (y6 + 1) f35 hf hk
    · refine g_sub (lv' := [(0, .ref (a 0)), (3, ii x3), (4, ii x4), (5, ii x5)]) [0, 1, 2, 3] rfl ?_
      exact hk built hf
set_option maxHeartbeats 4000000 in
set_option maxRecDepth 100000 in
theorem X10_becomesNew_go (K : KE) (l : Launch) (a : Nat → Nat) (WC : va_W) {p : Program} {e : Env} {s : State} {m : MethodId} {args : Array Value} {below : List Frame} {meth : Method} {c : Code} (X : CX p s m args c K.1 vwCl (kT K) (va_A WC s.heap.size) cX10_becomesNew 8 wsX10_becomesNew RX10) (hr : meth.sig.returnType = none) (hlk : meth.locks = false) (all : Arr) (saved : Arr) (savedMany : Int) (errors : Arr) (text : Arr) (textLong : Int) (rdd : Arr) (readMany : Int) (waits : Arr) (opn : Int) (place : Int) (built : Arr) (builtMany : Int) (parts : Arr) (partMany : Int) (taken : Arr) (calls : Arr) (lacks : Arr) (callMany : Int) (total : Int) (values : Arr) (told : Arr) (toldLong : Int) (p1 : Int) (res : Arr × Int × Arr × Int × Arr × Int) (hf : X10_becomesNew all built builtMany parts partMany taken total p1 = some res) : GO p l e rmX10_becomesNew s m args below meth c K.1 vwCl (va_A WC s.heap.size) (MQ below (QC K.1 vwCl none WC (c10 K a all saved savedMany errors text textLong rdd readMany waits opn place res.1 res.2.1 res.2.2.1 res.2.2.2.1 res.2.2.2.2.1 calls lacks callMany res.2.2.2.2.2 values told toldLong) s.heap.size) args s 0 0 (va_A WC s.heap.size)) 8 0 0 0 [(0, .ref (a 0)), (1, ii p1)] [] (c10 K a all saved savedMany errors text textLong rdd readMany waits opn place built builtMany parts partMany taken calls lacks callMany total values told toldLong) := by
  rw [X10_becomesNew] at hf
  refine g_iload_n X dX10_becomesNew_0 1 rfl rfl ?_
  obtain ⟨v1, hc2, hf⟩ := Option.bind_eq_some_iff.mp hf
  refine g_callS X (As := [ii p1]) (st := []) (st1 := [ii v1]) (ws' := c10 K a all saved savedMany errors text textLong rdd readMany waits opn place built builtMany parts partMany taken calls lacks callMany total values told toldLong) (X10_which_ok K l p1 v1 hc2) gX10_becomesNew_X10_which rfl 1 (by decide +kernel) ⟨rfl, rfl⟩ ⟨Nat.le_of_ble_eq_true rfl, Nat.le_of_ble_eq_true rfl⟩ ⟨Nat.zero_le _, Nat.zero_le _⟩ rfl rfl (Nat.le_of_ble_eq_true rfl) dX10_becomesNew_1 SG.none rfl ?_
  refine g_istore_n X (lv' := [(2, ii v1), (0, .ref (a 0)), (1, ii p1)]) dX10_becomesNew_4 rfl (by decide) rfl ?_
  refine g_aload_n X dX10_becomesNew_5 1 rfl rfl ?_
  refine g_iload_n X dX10_becomesNew_6 2 rfl rfl ?_
  obtain ⟨v3, hc4, hf⟩ := Option.bind_eq_some_iff.mp hf
  refine g_callV X (As := [ii p1]) (st := []) (st1 := [ii v3]) (ws' := c10 K a all saved savedMany errors text textLong rdd readMany waits opn place built builtMany parts partMany taken calls lacks callMany total values told toldLong) (X10_first_ok K l a all saved savedMany errors text textLong rdd readMany waits opn place built builtMany parts partMany taken calls lacks callMany total values told toldLong p1 v3 hc4) gX10_becomesNew_X10_first rfl 1 (by decide +kernel) ⟨rfl, rfl⟩ ⟨Nat.le_of_ble_eq_true rfl, Nat.le_of_ble_eq_true rfl⟩ ⟨Nat.zero_le _, Nat.zero_le _⟩ 0 rfl rfl rfl rfl (Nat.le_of_ble_eq_true rfl) dX10_becomesNew_7 (SG.all rfl) rfl ?_
  refine g_istore_n X (lv' := [(3, ii v3), (2, ii v1), (0, .ref (a 0)), (1, ii p1)]) dX10_becomesNew_10 rfl (by decide) rfl ?_
  refine g_iconst X dX10_becomesNew_11 ?_
  refine g_istore X (lv' := [(4, ii 0), (3, ii v3), (2, ii v1), (0, .ref (a 0)), (1, ii p1)]) dX10_becomesNew_12 (by decide) rfl ?_
  refine g_aload_n X dX10_becomesNew_14 3 rfl rfl ?_
  refine g_get X (v := .ref (a 9)) 0 15 dX10_becomesNew_15 rfl rfl iw_X10_becomesNew_X10 (by decide) fl_X10_becomesNew_34 rfl ?_
  refine g_iload X dX10_becomesNew_18 0 rfl ?_
  refine g_iconst X dX10_becomesNew_20 ?_
  refine g_aload_n X dX10_becomesNew_21 3 rfl rfl ?_
  refine g_iload_n X dX10_becomesNew_22 2 rfl rfl ?_
  obtain ⟨v5, hc6, hf⟩ := Option.bind_eq_some_iff.mp hf
  refine g_callV X (As := [ii v1]) (st := [ii 4, ii 0, .ref (a 9)]) (st1 := [ii v5, ii 4, ii 0, .ref (a 9)]) (ws' := c10 K a all saved savedMany errors text textLong rdd readMany waits opn place built builtMany parts partMany taken calls lacks callMany total values told toldLong) (X10_newOf_ok K l a all saved savedMany errors text textLong rdd readMany waits opn place built builtMany parts partMany taken calls lacks callMany total values told toldLong v1 v5 hc6) gX10_becomesNew_X10_newOf rfl 1 (by decide +kernel) ⟨rfl, rfl⟩ ⟨Nat.le_of_ble_eq_true rfl, Nat.le_of_ble_eq_true rfl⟩ ⟨Nat.zero_le _, Nat.zero_le _⟩ 0 rfl rfl rfl rfl (Nat.le_of_ble_eq_true rfl) dX10_becomesNew_23 (SG.all rfl) rfl ?_
  refine g_aload_n X dX10_becomesNew_26 3 rfl rfl ?_
  refine g_iload_n X dX10_becomesNew_27 2 rfl rfl ?_
  obtain ⟨v7, hc8, hf⟩ := Option.bind_eq_some_iff.mp hf
  refine g_callV X (As := [ii v1]) (st := [ii v5, ii 4, ii 0, .ref (a 9)]) (st1 := [ii v7, ii v5, ii 4, ii 0, .ref (a 9)]) (ws' := c10 K a all saved savedMany errors text textLong rdd readMany waits opn place built builtMany parts partMany taken calls lacks callMany total values told toldLong) (X10_used_ok K l a all saved savedMany errors text textLong rdd readMany waits opn place built builtMany parts partMany taken calls lacks callMany total values told toldLong v1 v7 hc8) gX10_becomesNew_X10_used rfl 1 (by decide +kernel) ⟨rfl, rfl⟩ ⟨Nat.le_of_ble_eq_true rfl, Nat.le_of_ble_eq_true rfl⟩ ⟨Nat.zero_le _, Nat.zero_le _⟩ 0 rfl rfl rfl rfl (Nat.le_of_ble_eq_true rfl) dX10_becomesNew_28 (SG.all rfl) rfl ?_
  obtain ⟨v9, hc10, hf⟩ := Option.bind_eq_some_iff.mp hf
  refine g_callS X (As := [ii 4, ii v5, ii v7]) (st := [ii 0, .ref (a 9)]) (st1 := [ii v9, ii 0, .ref (a 9)]) (ws' := c10 K a all saved savedMany errors text textLong rdd readMany waits opn place built builtMany parts partMany taken calls lacks callMany total values told toldLong) (X10_node_ok K l 4 v5 v7 v9 hc10) gX10_becomesNew_X10_node rfl 3 (by decide +kernel) ⟨rfl, rfl⟩ ⟨Nat.le_of_ble_eq_true rfl, Nat.le_of_ble_eq_true rfl⟩ ⟨Nat.zero_le _, Nat.zero_le _⟩ rfl rfl (Nat.le_of_ble_eq_true rfl) dX10_becomesNew_31 SG.none rfl ?_
  refine g_iast X hf (by decide) 9 0 dX10_becomesNew_34 rfl rfl (fun f11 => c10 K a all saved savedMany errors text textLong rdd readMany waits opn place built builtMany parts partMany f11 calls lacks callMany total values told toldLong) (fun _ => rfl) (fun f11 hf => ?_)
  refine g_iinc X (lv' := [(4, ii (0 + 1)), (3, ii v3), (2, ii v1), (0, .ref (a 0)), (1, ii p1)]) dX10_becomesNew_35 0 rfl (by decide) rfl ?_
  refine g_aload_n X dX10_becomesNew_38 3 rfl rfl ?_
  refine g_dup X dX10_becomesNew_39 rfl ?_
  refine g_get X (v := ii total) 0 19 dX10_becomesNew_40 rfl rfl iw_X10_becomesNew_X10 (by decide) fl_X10_becomesNew_185 rfl ?_
  refine g_aload_n X dX10_becomesNew_43 3 rfl rfl ?_
  refine g_iload_n X dX10_becomesNew_44 2 rfl rfl ?_
  refine g_iload_n X dX10_becomesNew_45 1 rfl rfl ?_
  obtain ⟨v12, hc13, hf⟩ := Option.bind_eq_some_iff.mp hf
  refine g_callV X (As := [ii v1, ii v3]) (st := [ii total, .ref (a 0)]) (st1 := [ii v12, ii total, .ref (a 0)]) (ws' := c10 K a all saved savedMany errors text textLong rdd readMany waits opn place built builtMany parts partMany f11 calls lacks callMany total values told toldLong) (X10_sizeThen_ok K l a all saved savedMany errors text textLong rdd readMany waits opn place built builtMany parts partMany f11 calls lacks callMany total values told toldLong v1 v3 v12 hc13) gX10_becomesNew_X10_sizeThen rfl 2 (by decide +kernel) ⟨rfl, rfl⟩ ⟨Nat.le_of_ble_eq_true rfl, Nat.le_of_ble_eq_true rfl⟩ ⟨Nat.zero_le _, Nat.zero_le _⟩ 0 rfl rfl rfl rfl (Nat.le_of_ble_eq_true rfl) dX10_becomesNew_46 (SG.all rfl) rfl ?_
  refine g_aload_n X dX10_becomesNew_49 3 rfl rfl ?_
  refine g_iload_n X dX10_becomesNew_50 1 rfl rfl ?_
  refine g_aload_n X dX10_becomesNew_51 3 rfl rfl ?_
  refine g_get X (v := ii partMany) 0 14 dX10_becomesNew_52 rfl rfl iw_X10_becomesNew_X10 (by decide) fl_X10_becomesNew_170 rfl ?_
  obtain ⟨v14, hc15, hf⟩ := Option.bind_eq_some_iff.mp hf
  refine g_callV X (As := [ii v3, ii partMany]) (st := [ii v12, ii total, .ref (a 0)]) (st1 := [ii v14, ii v12, ii total, .ref (a 0)]) (ws' := c10 K a all saved savedMany errors text textLong rdd readMany waits opn place built builtMany parts partMany f11 calls lacks callMany total values told toldLong) (X10_size_ok K l a all saved savedMany errors text textLong rdd readMany waits opn place built builtMany parts partMany f11 calls lacks callMany total values told toldLong v3 partMany v14 hc15) gX10_becomesNew_X10_size rfl 2 (by decide +kernel) ⟨rfl, rfl⟩ ⟨Nat.le_of_ble_eq_true rfl, Nat.le_of_ble_eq_true rfl⟩ ⟨Nat.zero_le _, Nat.zero_le _⟩ 0 rfl rfl rfl rfl (Nat.le_of_ble_eq_true rfl) dX10_becomesNew_55 (SG.all rfl) rfl ?_
  refine g_isub X dX10_becomesNew_58 ?_
  refine g_iadd X dX10_becomesNew_59 ?_
  refine g_puti X 0 19 dX10_becomesNew_60 rfl rfl iw_X10_becomesNew_X10 tyX10_ok nmX10 (by decide) fl_X10_becomesNew_185 rfl rfl (Nat.le_of_ble_eq_true rfl) (ws' := c10 K a all saved savedMany errors text textLong rdd readMany waits opn place built builtMany parts partMany f11 calls lacks callMany (total + (v12 - v14)) values told toldLong) rfl ?_
  refine g_iconst X dX10_becomesNew_63 ?_
  refine g_istore X (lv' := [(5, ii 0), (4, ii (0 + 1)), (3, ii v3), (2, ii v1), (0, .ref (a 0)), (1, ii p1)]) dX10_becomesNew_64 (by decide) rfl ?_
  refine g_sub (lv' := [(0, .ref (a 0)), (2, ii v1), (3, ii v3), (4, ii (0 + 1)), (5, ii 0)]) [4, 3, 2, 1, 0] rfl ?_
  refine X10_becomesNew_L66_ok K l a WC X hr hlk all saved savedMany errors text textLong rdd readMany waits opn place built builtMany parts partMany calls lacks callMany (total + (v12 - v14)) values told toldLong v1 v3 res FU (0 + 1) 0 f11 hf (fun w31 w32 hf => ?_)
  refine g_aload_n X dX10_becomesNew_171 0 rfl rfl ?_
  refine g_get X (v := .ref (a 8)) 0 13 dX10_becomesNew_172 rfl rfl iw_X10_becomesNew_X10 (by decide) fl_X10_becomesNew_31 rfl ?_
  refine g_iload_n X dX10_becomesNew_175 1 rfl rfl ?_
  refine g_iald X hf (by decide) 8 0 dX10_becomesNew_176 rfl rfl (fun v33 hf => ?_)
  refine g_istore X (lv' := [(5, ii v33), (0, .ref (a 0)), (3, ii v3), (4, ii w31)]) dX10_becomesNew_177 (by decide) rfl ?_
  refine g_iconst X dX10_becomesNew_179 ?_
  refine g_istore X (lv' := [(6, ii 0), (5, ii v33), (0, .ref (a 0)), (3, ii v3), (4, ii w31)]) dX10_becomesNew_180 (by decide) rfl ?_
  refine g_sub (lv' := [(0, .ref (a 0)), (3, ii v3), (4, ii w31), (5, ii v33), (6, ii 0)]) [2, 3, 4, 1, 0] rfl ?_
  refine X10_becomesNew_L182_ok K l a WC X hr hlk all saved savedMany errors text textLong rdd readMany waits opn place builtMany parts partMany w32 calls lacks callMany (total + (v12 - v14)) values told toldLong v3 w31 v33 res FU 0 built hf (fun w36 hf => ?_)
  refine g_aload_n X dX10_becomesNew_212 0 rfl rfl ?_
  refine g_iload X dX10_becomesNew_213 3 rfl ?_
  refine g_iload X dX10_becomesNew_215 2 rfl ?_
  refine g_iadd X dX10_becomesNew_217 ?_
  refine g_puti X 0 12 dX10_becomesNew_218 rfl rfl iw_X10_becomesNew_X10 tyX10_ok nmX10 (by decide) fl_X10_becomesNew_173 rfl rfl (Nat.le_of_ble_eq_true rfl) (ws' := c10 K a all saved savedMany errors text textLong rdd readMany waits opn place w36 (v33 + w31) parts partMany w32 calls lacks callMany (total + (v12 - v14)) values told toldLong) rfl ?_
  refine g_aload_n X dX10_becomesNew_221 0 rfl rfl ?_
  refine g_iload_n X dX10_becomesNew_222 1 rfl rfl ?_
  refine g_iconst X dX10_becomesNew_223 ?_
  refine g_iadd X dX10_becomesNew_224 ?_
  refine g_puti X 0 14 dX10_becomesNew_225 rfl rfl iw_X10_becomesNew_X10 tyX10_ok nmX10 (by decide) fl_X10_becomesNew_170 rfl rfl (Nat.le_of_ble_eq_true rfl) (ws' := c10 K a all saved savedMany errors text textLong rdd readMany waits opn place w36 (v33 + w31) parts (v3 + 1) w32 calls lacks callMany (total + (v12 - v14)) values told toldLong) rfl ?_
  refine g_aload_n X dX10_becomesNew_228 0 rfl rfl ?_
  refine g_get X (v := .ref (a 8)) 0 13 dX10_becomesNew_229 rfl rfl iw_X10_becomesNew_X10 (by decide) fl_X10_becomesNew_31 rfl ?_
  refine g_aload_n X dX10_becomesNew_232 0 rfl rfl ?_
  refine g_get X (v := ii (v3 + 1)) 0 14 dX10_becomesNew_233 rfl rfl iw_X10_becomesNew_X10 (by decide) fl_X10_becomesNew_170 rfl ?_
  refine g_aload_n X dX10_becomesNew_236 0 rfl rfl ?_
  refine g_get X (v := ii (v33 + w31)) 0 12 dX10_becomesNew_237 rfl rfl iw_X10_becomesNew_X10 (by decide) fl_X10_becomesNew_173 rfl ?_
  refine g_iast X hf (by decide) 8 0 dX10_becomesNew_240 rfl rfl (fun f37 => c10 K a all saved savedMany errors text textLong rdd readMany waits opn place w36 (v33 + w31) f37 (v3 + 1) w32 calls lacks callMany (total + (v12 - v14)) values told toldLong) (fun _ => rfl) (fun f37 hf => ?_)
  cases hf
  exact g_vret X hr hlk dX10_becomesNew_241
set_option maxHeartbeats 4000000 in
set_option maxRecDepth 100000 in
theorem X10_becomesNew_ok (K : KE) (l : Launch) (a : Nat → Nat) (all : Arr) (saved : Arr) (savedMany : Int) (errors : Arr) (text : Arr) (textLong : Int) (rdd : Arr) (readMany : Int) (waits : Arr) (opn : Int) (place : Int) (built : Arr) (builtMany : Int) (parts : Arr) (partMany : Int) (taken : Arr) (calls : Arr) (lacks : Arr) (callMany : Int) (total : Int) (values : Arr) (told : Arr) (toldLong : Int) (p1 : Int) (res : Arr × Int × Arr × Int × Arr × Int) (hf : X10_becomesNew all built builtMany parts partMany taken total p1 = some res) : CT l K.1 vwCl (kT K) yX10_becomesNew wsX10_becomesNew rmX10_becomesNew [.ref (a 0), ii p1] none (c10 K a all saved savedMany errors text textLong rdd readMany waits opn place built builtMany parts partMany taken calls lacks callMany total values told toldLong) (c10 K a all saved savedMany errors text textLong rdd readMany waits opn place res.1 res.2.1 res.2.2.1 res.2.2.2.1 res.2.2.2.2.1 calls lacks callMany res.2.2.2.2.2 values told toldLong) :=
  CT.mk (cc := cX10_becomesNew) (maxL := 8) (ret := none) (by decide) rfl (Nat.le_of_ble_eq_true rfl) (fun p e s m below meth c X hr hlk => X10_becomesNew_go K l a _ X hr hlk all saved savedMany errors text textLong rdd readMany waits opn place built builtMany parts partMany taken calls lacks callMany total values told toldLong p1 res hf)
