theorem wd_X10_setsEntry_cl66 : Jvm.Cond.constantLong RX10 66 (3) ∈ wsX10_setsEntry := by decide +kernel
theorem iw_X10_setsEntry_X10 : ∀ w ∈ u_ws RX10 TX10 23, w ∈ wsX10_setsEntry := by decide +kernel
theorem fl_X10_setsEntry_7 : Cond.fieldLink RX10 7 (TX10 0).1 (TX10 0).2.1 (TX10 0).2.2.1 ∈ wsX10_setsEntry := by decide +kernel
def rmX10_setsEntry : Room := { frames := 4, cells := 0, slots := 0, locals := 91 }
def X10_setsEntry (all : Arr) (saved : Arr) (savedMany : Int) (errors : Arr) (p1 : Int) (p2 : Int) (p3 : Int) (p4 : Int) : Option (Int × Arr × Arr × Int × Arr) := (X10_isFunction p1).bind (fun v1 => brEQ v1 0 ((X10_error errors (-2)).bind (fun w3 => some (w3.1, all, saved, savedMany, w3.2))) (lgK p2 ((X10_in p2 0 3).bind (fun v5 => brEQ v5 0 ((X10_error errors (-2)).bind (fun w7 => some (w7.1, all, saved, savedMany, w7.2))) (brEQ p4 0 ((X10_error errors (-2)).bind (fun w9 => some (w9.1, all, saved, savedMany, w9.2))) ((X10_newOf all p1).bind (fun v11 => brEQ v11 (-1) ((X10_error errors (-3)).bind (fun w13 => some (w13.1, all, saved, savedMany, w13.2))) ((X10_save all saved savedMany).bind (fun w15 => wrK 186 all (((117 + (5 * p1)) + 1) + p2) p3 (fun f17 => (X10_faithful f17 p1).bind (fun v18 => some (v18, f17, w15.1, w15.2, errors))))))))))))
set_option maxHeartbeats 4000000 in
set_option maxRecDepth 100000 in
theorem X10_setsEntry_go (K : KE) (l : Launch) (a : Nat → Nat) (WC : va_W) {p : Program} {e : Env} {s : State} {m : MethodId} {args : Array Value} {below : List Frame} {meth : Method} {c : Code} (X : CX p s m args c K.1 vwCl (kT K) (va_A WC s.heap.size) cX10_setsEntry 5 wsX10_setsEntry RX10) (hr : meth.sig.returnType = (some .int)) (hlk : meth.locks = false) (all : Arr) (saved : Arr) (savedMany : Int) (errors : Arr) (text : Arr) (textLong : Int) (rdd : Arr) (readMany : Int) (waits : Arr) (opn : Int) (place : Int) (built : Arr) (builtMany : Int) (parts : Arr) (partMany : Int) (taken : Arr) (calls : Arr) (lacks : Arr) (callMany : Int) (total : Int) (values : Arr) (told : Arr) (toldLong : Int) (p1 : Int) (p2 : Int) (p3 : Int) (p4 : Int) (res : Int × Arr × Arr × Int × Arr) (hf : X10_setsEntry all saved savedMany errors p1 p2 p3 p4 = some res) : GO p l e rmX10_setsEntry s m args below meth c K.1 vwCl (va_A WC s.heap.size) (MQ below (QC K.1 vwCl (some (ii res.1)) WC (c10 K a res.2.1 res.2.2.1 res.2.2.2.1 res.2.2.2.2 text textLong rdd readMany waits opn place built builtMany parts partMany taken calls lacks callMany total values told toldLong) s.heap.size) args s 0 0 (va_A WC s.heap.size)) 5 0 0 0 [(0, .ref (a 0)), (1, ii p1), (2, ii p2), (3, ii p3), (4, ii p4)] [] (c10 K a all saved savedMany errors text textLong rdd readMany waits opn place built builtMany parts partMany taken calls lacks callMany total values told toldLong) := by
  rw [X10_setsEntry] at hf
  refine g_iload_n X dX10_setsEntry_0 1 rfl rfl ?_
  obtain ⟨v1, hc2, hf⟩ := Option.bind_eq_some_iff.mp hf
  refine g_callS X (As := [ii p1]) (st := []) (st1 := [ii v1]) (ws' := c10 K a all saved savedMany errors text textLong rdd readMany waits opn place built builtMany parts partMany taken calls lacks callMany total values told toldLong) (X10_isFunction_ok K l p1 v1 hc2) gX10_setsEntry_X10_isFunction rfl 1 (by decide +kernel) ⟨rfl, rfl⟩ ⟨Nat.le_of_ble_eq_true rfl, Nat.le_of_ble_eq_true rfl⟩ ⟨Nat.zero_le _, Nat.zero_le _⟩ rfl rfl (Nat.le_of_ble_eq_true rfl) dX10_setsEntry_1 SG.none rfl ?_
  refine g_if_eq X hf 24 dX10_setsEntry_4 (by decide) (fun hf => ?_) (fun hf => ?_)
  · refine g_aload_n X dX10_setsEntry_24 0 rfl rfl ?_
    refine g_bipush X dX10_setsEntry_25 (by decide +kernel) ?_
    obtain ⟨w3, hc4, hf⟩ := Option.bind_eq_some_iff.mp hf
    refine g_callV X (As := [ii (-2)]) (st := []) (st1 := [ii w3.1]) (ws' := c10 K a all saved savedMany w3.2 text textLong rdd readMany waits opn place built builtMany parts partMany taken calls lacks callMany total values told toldLong) (X10_error_ok K l a all saved savedMany errors text textLong rdd readMany waits opn place built builtMany parts partMany taken calls lacks callMany total values told toldLong (-2) w3 hc4) gX10_setsEntry_X10_error rfl 1 (by decide +kernel) ⟨rfl, rfl⟩ ⟨Nat.le_of_ble_eq_true rfl, Nat.le_of_ble_eq_true rfl⟩ ⟨Nat.zero_le _, Nat.zero_le _⟩ 0 rfl rfl rfl rfl (Nat.le_of_ble_eq_true rfl) dX10_setsEntry_27 (SG.all rfl) rfl ?_
    cases hf
    exact g_iret X hr hlk dX10_setsEntry_30
  · refine g_iload_n X dX10_setsEntry_7 2 rfl rfl ?_
    refine g_i2l X hf dX10_setsEntry_8 (fun hf => ?_)
    refine g_lconst X 0 dX10_setsEntry_9 (by decide +kernel) ?_
    refine g_ldc2 X 3 dX10_setsEntry_10 wd_X10_setsEntry_cl66 (by decide +kernel) ?_
    obtain ⟨v5, hc6, hf⟩ := Option.bind_eq_some_iff.mp hf
    refine g_callS X (As := [ll p2, ll 0, ll 3]) (st := []) (st1 := [ii v5]) (ws' := c10 K a all saved savedMany errors text textLong rdd readMany waits opn place built builtMany parts partMany taken calls lacks callMany total values told toldLong) (X10_in_ok K l p2 0 3 v5 hc6) gX10_setsEntry_X10_in rfl 3 (by decide +kernel) ⟨rfl, rfl⟩ ⟨Nat.le_of_ble_eq_true rfl, Nat.le_of_ble_eq_true rfl⟩ ⟨Nat.zero_le _, Nat.zero_le _⟩ rfl rfl (Nat.le_of_ble_eq_true rfl) dX10_setsEntry_13 SG.none rfl ?_
    refine g_if_eq X hf 24 dX10_setsEntry_16 (by decide) (fun hf => ?_) (fun hf => ?_)
    · refine g_aload_n X dX10_setsEntry_24 0 rfl rfl ?_
      refine g_bipush X dX10_setsEntry_25 (by decide +kernel) ?_
      obtain ⟨w7, hc8, hf⟩ := Option.bind_eq_some_iff.mp hf
      refine g_callV X (As := [ii (-2)]) (st := []) (st1 := [ii w7.1]) (ws' := c10 K a all saved savedMany w7.2 text textLong rdd readMany waits opn place built builtMany parts partMany taken calls lacks callMany total values told toldLong) (X10_error_ok K l a all saved savedMany errors text textLong rdd readMany waits opn place built builtMany parts partMany taken calls lacks callMany total values told toldLong (-2) w7 hc8) gX10_setsEntry_X10_error rfl 1 (by decide +kernel) ⟨rfl, rfl⟩ ⟨Nat.le_of_ble_eq_true rfl, Nat.le_of_ble_eq_true rfl⟩ ⟨Nat.zero_le _, Nat.zero_le _⟩ 0 rfl rfl rfl rfl (Nat.le_of_ble_eq_true rfl) dX10_setsEntry_27 (SG.all rfl) rfl ?_
      cases hf
      exact g_iret X hr hlk dX10_setsEntry_30
    · refine g_iload X dX10_setsEntry_19 4 rfl ?_
      refine g_if_ne X hf 31 dX10_setsEntry_21 (by decide) (fun hf => ?_) (fun hf => ?_)
      · refine g_aload_n X dX10_setsEntry_24 0 rfl rfl ?_
        refine g_bipush X dX10_setsEntry_25 (by decide +kernel) ?_
        obtain ⟨w9, hc10, hf⟩ := Option.bind_eq_some_iff.mp hf
        refine g_callV X (As := [ii (-2)]) (st := []) (st1 := [ii w9.1]) (ws' := c10 K a all saved savedMany w9.2 text textLong rdd readMany waits opn place built builtMany parts partMany taken calls lacks callMany total values told toldLong) (X10_error_ok K l a all saved savedMany errors text textLong rdd readMany waits opn place built builtMany parts partMany taken calls lacks callMany total values told toldLong (-2) w9 hc10) gX10_setsEntry_X10_error rfl 1 (by decide +kernel) ⟨rfl, rfl⟩ ⟨Nat.le_of_ble_eq_true rfl, Nat.le_of_ble_eq_true rfl⟩ ⟨Nat.zero_le _, Nat.zero_le _⟩ 0 rfl rfl rfl rfl (Nat.le_of_ble_eq_true rfl) dX10_setsEntry_27 (SG.all rfl) rfl ?_
        cases hf
        exact g_iret X hr hlk dX10_setsEntry_30
      · refine g_aload_n X dX10_setsEntry_31 0 rfl rfl ?_
        refine g_iload_n X dX10_setsEntry_32 1 rfl rfl ?_
        obtain ⟨v11, hc12, hf⟩ := Option.bind_eq_some_iff.mp hf
        refine g_callV X (As := [ii p1]) (st := []) (st1 := [ii v11]) (ws' := c10 K a all saved savedMany errors text textLong rdd readMany waits opn place built builtMany parts partMany taken calls lacks callMany total values told toldLong) (X10_newOf_ok K l a all saved savedMany errors text textLong rdd readMany waits opn place built builtMany parts partMany taken calls lacks callMany total values told toldLong p1 v11 hc12) gX10_setsEntry_X10_newOf rfl 1 (by decide +kernel) ⟨rfl, rfl⟩ ⟨Nat.le_of_ble_eq_true rfl, Nat.le_of_ble_eq_true rfl⟩ ⟨Nat.zero_le _, Nat.zero_le _⟩ 0 rfl rfl rfl rfl (Nat.le_of_ble_eq_true rfl) dX10_setsEntry_33 (SG.all rfl) rfl ?_
        refine g_iconst X dX10_setsEntry_36 ?_
        refine g_icmp_ne X hf 47 dX10_setsEntry_37 (by decide) (fun hf => ?_) (fun hf => ?_)
        · refine g_aload_n X dX10_setsEntry_40 0 rfl rfl ?_
          refine g_bipush X dX10_setsEntry_41 (by decide +kernel) ?_
          obtain ⟨w13, hc14, hf⟩ := Option.bind_eq_some_iff.mp hf
          refine g_callV X (As := [ii (-3)]) (st := []) (st1 := [ii w13.1]) (ws' := c10 K a all saved savedMany w13.2 text textLong rdd readMany waits opn place built builtMany parts partMany taken calls lacks callMany total values told toldLong) (X10_error_ok K l a all saved savedMany errors text textLong rdd readMany waits opn place built builtMany parts partMany taken calls lacks callMany total values told toldLong (-3) w13 hc14) gX10_setsEntry_X10_error rfl 1 (by decide +kernel) ⟨rfl, rfl⟩ ⟨Nat.le_of_ble_eq_true rfl, Nat.le_of_ble_eq_true rfl⟩ ⟨Nat.zero_le _, Nat.zero_le _⟩ 0 rfl rfl rfl rfl (Nat.le_of_ble_eq_true rfl) dX10_setsEntry_43 (SG.all rfl) rfl ?_
          cases hf
          exact g_iret X hr hlk dX10_setsEntry_46
        · refine g_aload_n X dX10_setsEntry_47 0 rfl rfl ?_
          obtain ⟨w15, hc16, hf⟩ := Option.bind_eq_some_iff.mp hf
          refine g_callV X (As := []) (st := []) (st1 := []) (ws' := c10 K a all w15.1 w15.2 errors text textLong rdd readMany waits opn place built builtMany parts partMany taken calls lacks callMany total values told toldLong) (X10_save_ok K l a all saved savedMany errors text textLong rdd readMany waits opn place built builtMany parts partMany taken calls lacks callMany total values told toldLong w15 hc16) gX10_setsEntry_X10_save rfl 0 (by decide +kernel) ⟨rfl, rfl⟩ ⟨Nat.le_of_ble_eq_true rfl, Nat.le_of_ble_eq_true rfl⟩ ⟨Nat.zero_le _, Nat.zero_le _⟩ 0 rfl rfl rfl rfl (Nat.le_of_ble_eq_true rfl) dX10_setsEntry_48 (SG.all rfl) rfl ?_
          refine g_aload_n X dX10_setsEntry_51 0 rfl rfl ?_
          refine g_get X (v := .ref (a 1)) 0 0 dX10_setsEntry_52 rfl rfl iw_X10_setsEntry_X10 (by decide) fl_X10_setsEntry_7 rfl ?_
          refine g_bipush X dX10_setsEntry_55 (by decide +kernel) ?_
          refine g_iconst X dX10_setsEntry_57 ?_
          refine g_iload_n X dX10_setsEntry_58 1 rfl rfl ?_
          refine g_imul X dX10_setsEntry_59 ?_
          refine g_iadd X dX10_setsEntry_60 ?_
          refine g_iconst X dX10_setsEntry_61 ?_
          refine g_iadd X dX10_setsEntry_62 ?_
          refine g_iload_n X dX10_setsEntry_63 2 rfl rfl ?_
          refine g_iadd X dX10_setsEntry_64 ?_
          refine g_iload_n X dX10_setsEntry_65 3 rfl rfl ?_
          refine g_iast X hf (by decide) 1 0 dX10_setsEntry_66 rfl rfl (fun f17 => c10 K a f17 w15.1 w15.2 errors text textLong rdd readMany waits opn place built builtMany parts partMany taken calls lacks callMany total values told toldLong) (fun _ => rfl) (fun f17 hf => ?_)
          refine g_aload_n X dX10_setsEntry_67 0 rfl rfl ?_
          refine g_iload_n X dX10_setsEntry_68 1 rfl rfl ?_
          obtain ⟨v18, hc19, hf⟩ := Option.bind_eq_some_iff.mp hf
          refine g_callV X (As := [ii p1]) (st := []) (st1 := [ii v18]) (ws' := c10 K a f17 w15.1 w15.2 errors text textLong rdd readMany waits opn place built builtMany parts partMany taken calls lacks callMany total values told toldLong) (X10_faithful_ok K l a f17 w15.1 w15.2 errors text textLong rdd readMany waits opn place built builtMany parts partMany taken calls lacks callMany total values told toldLong p1 v18 hc19) gX10_setsEntry_X10_faithful rfl 1 (by decide +kernel) ⟨rfl, rfl⟩ ⟨Nat.le_of_ble_eq_true rfl, Nat.le_of_ble_eq_true rfl⟩ ⟨Nat.zero_le _, Nat.zero_le _⟩ 0 rfl rfl rfl rfl (Nat.le_of_ble_eq_true rfl) dX10_setsEntry_69 (SG.all rfl) rfl ?_
          cases hf
          exact g_iret X hr hlk dX10_setsEntry_72
set_option maxHeartbeats 4000000 in
set_option maxRecDepth 100000 in
theorem X10_setsEntry_ok (K : KE) (l : Launch) (a : Nat → Nat) (all : Arr) (saved : Arr) (savedMany : Int) (errors : Arr) (text : Arr) (textLong : Int) (rdd : Arr) (readMany : Int) (waits : Arr) (opn : Int) (place : Int) (built : Arr) (builtMany : Int) (parts : Arr) (partMany : Int) (taken : Arr) (calls : Arr) (lacks : Arr) (callMany : Int) (total : Int) (values : Arr) (told : Arr) (toldLong : Int) (p1 : Int) (p2 : Int) (p3 : Int) (p4 : Int) (res : Int × Arr × Arr × Int × Arr) (hf : X10_setsEntry all saved savedMany errors p1 p2 p3 p4 = some res) : CT l K.1 vwCl (kT K) yX10_setsEntry wsX10_setsEntry rmX10_setsEntry [.ref (a 0), ii p1, ii p2, ii p3, ii p4] (some (ii res.1)) (c10 K a all saved savedMany errors text textLong rdd readMany waits opn place built builtMany parts partMany taken calls lacks callMany total values told toldLong) (c10 K a res.2.1 res.2.2.1 res.2.2.2.1 res.2.2.2.2 text textLong rdd readMany waits opn place built builtMany parts partMany taken calls lacks callMany total values told toldLong) :=
  CT.mk (cc := cX10_setsEntry) (maxL := 5) (ret := (some .int)) (by decide) rfl (Nat.le_of_ble_eq_true rfl) (fun p e s m below meth c X hr hlk => X10_setsEntry_go K l a _ X hr hlk all saved savedMany errors text textLong rdd readMany waits opn place built builtMany parts partMany taken calls lacks callMany total values told toldLong p1 p2 p3 p4 res hf)
theorem wd_X10_setSource_cl102 : Jvm.Cond.constantLong RX10 102 (2) ∈ wsX10_setSource := by decide +kernel
def rmX10_setSource : Room := { frames := 5, cells := 0, slots := 0, locals := 115 }
def X10_setSource (all : Arr) (saved : Arr) (savedMany : Int) (errors : Arr) (p1 : Int) (p2 : Int) (p3 : Int) : Option (Int × Arr × Arr × Int × Arr) := lgK p3 ((X10_in p3 0 2).bind (fun v1 => (X10_setsEntry all saved savedMany errors p1 p2 p3 v1).bind (fun w3 => some (w3.1, w3.2.1, w3.2.2.1, w3.2.2.2.1, w3.2.2.2.2))))
set_option maxHeartbeats 4000000 in
set_option maxRecDepth 100000 in
theorem X10_setSource_go (K : KE) (l : Launch) (a : Nat → Nat) (WC : va_W) {p : Program} {e : Env} {s : State} {m : MethodId} {args : Array Value} {below : List Frame} {meth : Method} {c : Code} (X : CX p s m args c K.1 vwCl (kT K) (va_A WC s.heap.size) cX10_setSource 4 wsX10_setSource RX10) (hr : meth.sig.returnType = (some .int)) (hlk : meth.locks = false) (all : Arr) (saved : Arr) (savedMany : Int) (errors : Arr) (text : Arr) (textLong : Int) (rdd : Arr) (readMany : Int) (waits : Arr) (opn : Int) (place : Int) (built : Arr) (builtMany : Int) (parts : Arr) (partMany : Int) (taken : Arr) (calls : Arr) (lacks : Arr) (callMany : Int) (total : Int) (values : Arr) (told : Arr) (toldLong : Int) (p1 : Int) (p2 : Int) (p3 : Int) (res : Int × Arr × Arr × Int × Arr) (hf : X10_setSource all saved savedMany errors p1 p2 p3 = some res) : GO p l e rmX10_setSource s m args below meth c K.1 vwCl (va_A WC s.heap.size) (MQ below (QC K.1 vwCl (some (ii res.1)) WC (c10 K a res.2.1 res.2.2.1 res.2.2.2.1 res.2.2.2.2 text textLong rdd readMany waits opn place built builtMany parts partMany taken calls lacks callMany total values told toldLong) s.heap.size) args s 0 0 (va_A WC s.heap.size)) 4 0 0 0 [(0, .ref (a 0)), (1, ii p1), (2, ii p2), (3, ii p3)] [] (c10 K a all saved savedMany errors text textLong rdd readMany waits opn place built builtMany parts partMany taken calls lacks callMany total values told toldLong) := by
  rw [X10_setSource] at hf
  refine g_aload_n X dX10_setSource_0 0 rfl rfl ?_
  refine g_iload_n X dX10_setSource_1 1 rfl rfl ?_
  refine g_iload_n X dX10_setSource_2 2 rfl rfl ?_
  refine g_iload_n X dX10_setSource_3 3 rfl rfl ?_
  refine g_iload_n X dX10_setSource_4 3 rfl rfl ?_
  refine g_i2l X hf dX10_setSource_5 (fun hf => ?_)
  refine g_lconst X 0 dX10_setSource_6 (by decide +kernel) ?_
  refine g_ldc2 X 2 dX10_setSource_7 wd_X10_setSource_cl102 (by decide +kernel) ?_
  obtain ⟨v1, hc2, hf⟩ := Option.bind_eq_some_iff.mp hf
  refine g_callS X (As := [ll p3, ll 0, ll 2]) (st := [ii p3, ii p2, ii p1, .ref (a 0)]) (st1 := [ii v1, ii p3, ii p2, ii p1, .ref (a 0)]) (ws' := c10 K a all saved savedMany errors text textLong rdd readMany waits opn place built builtMany parts partMany taken calls lacks callMany total values told toldLong) (X10_in_ok K l p3 0 2 v1 hc2) gX10_setSource_X10_in rfl 3 (by decide +kernel) ⟨rfl, rfl⟩ ⟨Nat.le_of_ble_eq_true rfl, Nat.le_of_ble_eq_true rfl⟩ ⟨Nat.zero_le _, Nat.zero_le _⟩ rfl rfl (Nat.le_of_ble_eq_true rfl) dX10_setSource_10 SG.none rfl ?_
  obtain ⟨w3, hc4, hf⟩ := Option.bind_eq_some_iff.mp hf
  refine g_callV X (As := [ii p1, ii p2, ii p3, ii v1]) (st := []) (st1 := [ii w3.1]) (ws' := c10 K a w3.2.1 w3.2.2.1 w3.2.2.2.1 w3.2.2.2.2 text textLong rdd readMany waits opn place built builtMany parts partMany taken calls lacks callMany total values told toldLong) (X10_setsEntry_ok K l a all saved savedMany errors text textLong rdd readMany waits opn place built builtMany parts partMany taken calls lacks callMany total values told toldLong p1 p2 p3 v1 w3 hc4) gX10_setSource_X10_setsEntry rfl 4 (by decide +kernel) ⟨rfl, rfl⟩ ⟨Nat.le_of_ble_eq_true rfl, Nat.le_of_ble_eq_true rfl⟩ ⟨Nat.zero_le _, Nat.zero_le _⟩ 0 rfl rfl rfl rfl (Nat.le_of_ble_eq_true rfl) dX10_setSource_13 (SG.all rfl) rfl ?_
  cases hf
  exact g_iret X hr hlk dX10_setSource_16
set_option maxHeartbeats 4000000 in
set_option maxRecDepth 100000 in
theorem X10_setSource_ok (K : KE) (l : Launch) (a : Nat → Nat) (all : Arr) (saved : Arr) (savedMany : Int) (errors : Arr) (text : Arr) (textLong : Int) (rdd : Arr) (readMany : Int) (waits : Arr) (opn : Int) (place : Int) (built : Arr) (builtMany : Int) (parts : Arr) (partMany : Int) (taken : Arr) (calls : Arr) (lacks : Arr) (callMany : Int) (total : Int) (values : Arr) (told : Arr) (toldLong : Int) (p1 : Int) (p2 : Int) (p3 : Int) (res : Int × Arr × Arr × Int × Arr) (hf : X10_setSource all saved savedMany errors p1 p2 p3 = some res) : CT l K.1 vwCl (kT K) yX10_setSource wsX10_setSource rmX10_setSource [.ref (a 0), ii p1, ii p2, ii p3] (some (ii res.1)) (c10 K a all saved savedMany errors text textLong rdd readMany waits opn place built builtMany parts partMany taken calls lacks callMany total values told toldLong) (c10 K a res.2.1 res.2.2.1 res.2.2.2.1 res.2.2.2.2 text textLong rdd readMany waits opn place built builtMany parts partMany taken calls lacks callMany total values told toldLong) :=
  CT.mk (cc := cX10_setSource) (maxL := 4) (ret := (some .int)) (by decide) rfl (Nat.le_of_ble_eq_true rfl) (fun p e s m below meth c X hr hlk => X10_setSource_go K l a _ X hr hlk all saved savedMany errors text textLong rdd readMany waits opn place built builtMany parts partMany taken calls lacks callMany total values told toldLong p1 p2 p3 res hf)
theorem wd_X10_setConstant_cl80 : Jvm.Cond.constantLong RX10 80 (99) ∈ wsX10_setConstant := by decide +kernel
def rmX10_setConstant : Room := { frames := 5, cells := 0, slots := 0, locals := 115 }
def X10_setConstant (all : Arr) (saved : Arr) (savedMany : Int) (errors : Arr) (p1 : Int) (p2 : Int) (p3 : Int) : Option (Int × Arr × Arr × Int × Arr) := lgK p3 ((X10_in p3 0 99).bind (fun v1 => brEQ v1 0 ((X10_setsEntry all saved savedMany errors p1 p2 0 v1).bind (fun w3 => some (w3.1, w3.2.1, w3.2.2.1, w3.2.2.2.1, w3.2.2.2.2))) ((X10_setsEntry all saved savedMany errors p1 p2 (100 + p3) v1).bind (fun w5 => some (w5.1, w5.2.1, w5.2.2.1, w5.2.2.2.1, w5.2.2.2.2)))))
set_option maxHeartbeats 4000000 in
set_option maxRecDepth 100000 in
theorem X10_setConstant_go (K : KE) (l : Launch) (a : Nat → Nat) (WC : va_W) {p : Program} {e : Env} {s : State} {m : MethodId} {args : Array Value} {below : List Frame} {meth : Method} {c : Code} (X : CX p s m args c K.1 vwCl (kT K) (va_A WC s.heap.size) cX10_setConstant 5 wsX10_setConstant RX10) (hr : meth.sig.returnType = (some .int)) (hlk : meth.locks = false) (all : Arr) (saved : Arr) (savedMany : Int) (errors : Arr) (text : Arr) (textLong : Int) (rdd : Arr) (readMany : Int) (waits : Arr) (opn : Int) (place : Int) (built : Arr) (builtMany : Int) (parts : Arr) (partMany : Int) (taken : Arr) (calls : Arr) (lacks : Arr) (callMany : Int) (total : Int) (values : Arr) (told : Arr) (toldLong : Int) (p1 : Int) (p2 : Int) (p3 : Int) (res : Int × Arr × Arr × Int × Arr) (hf : X10_setConstant all saved savedMany errors p1 p2 p3 = some res) : GO p l e rmX10_setConstant s m args below meth c K.1 vwCl (va_A WC s.heap.size) (MQ below (QC K.1 vwCl (some (ii res.1)) WC (c10 K a res.2.1 res.2.2.1 res.2.2.2.1 res.2.2.2.2 text textLong rdd readMany waits opn place built builtMany parts partMany taken calls lacks callMany total values told toldLong) s.heap.size) args s 0 0 (va_A WC s.heap.size)) 5 0 0 0 [(0, .ref (a 0)), (1, ii p1), (2, ii p2), (3, ii p3)] [] (c10 K a all saved savedMany errors text textLong rdd readMany waits opn place built builtMany parts partMany taken calls lacks callMany total values told toldLong) := by
  rw [X10_setConstant] at hf
  refine g_iload_n X dX10_setConstant_0 3 rfl rfl ?_
  refine g_i2l X hf dX10_setConstant_1 (fun hf => ?_)
  refine g_lconst X 0 dX10_setConstant_2 (by decide +kernel) ?_
  refine g_ldc2 X 99 dX10_setConstant_3 wd_X10_setConstant_cl80 (by decide +kernel) ?_
  obtain ⟨v1, hc2, hf⟩ := Option.bind_eq_some_iff.mp hf
  refine g_callS X (As := [ll p3, ll 0, ll 99]) (st := []) (st1 := [ii v1]) (ws' := c10 K a all saved savedMany errors text textLong rdd readMany waits opn place built builtMany parts partMany taken calls lacks callMany total values told toldLong) (X10_in_ok K l p3 0 99 v1 hc2) gX10_setConstant_X10_in rfl 3 (by decide +kernel) ⟨rfl, rfl⟩ ⟨Nat.le_of_ble_eq_true rfl, Nat.le_of_ble_eq_true rfl⟩ ⟨Nat.zero_le _, Nat.zero_le _⟩ rfl rfl (Nat.le_of_ble_eq_true rfl) dX10_setConstant_6 SG.none rfl ?_
  refine g_istore X (lv' := [(4, ii v1), (0, .ref (a 0)), (1, ii p1), (2, ii p2), (3, ii p3)]) dX10_setConstant_9 (by decide) rfl ?_
  refine g_aload_n X dX10_setConstant_11 1 rfl rfl ?_
  refine g_iload_n X dX10_setConstant_12 2 rfl rfl ?_
  refine g_iload_n X dX10_setConstant_13 3 rfl rfl ?_
  refine g_iload X dX10_setConstant_14 0 rfl ?_
  refine g_if_eq X hf 26 dX10_setConstant_16 (by decide) (fun hf => ?_) (fun hf => ?_)
  · refine g_iconst X dX10_setConstant_26 ?_
    refine g_iload X dX10_setConstant_27 0 rfl ?_
    obtain ⟨w3, hc4, hf⟩ := Option.bind_eq_some_iff.mp hf
    refine g_callV X (As := [ii p1, ii p2, ii 0, ii v1]) (st := []) (st1 := [ii w3.1]) (ws' := c10 K a w3.2.1 w3.2.2.1 w3.2.2.2.1 w3.2.2.2.2 text textLong rdd readMany waits opn place built builtMany parts partMany taken calls lacks callMany total values told toldLong) (X10_setsEntry_ok K l a all saved savedMany errors text textLong rdd readMany waits opn place built builtMany parts partMany taken calls lacks callMany total values told toldLong p1 p2 0 v1 w3 hc4) gX10_setConstant_X10_setsEntry rfl 4 (by decide +kernel) ⟨rfl, rfl⟩ ⟨Nat.le_of_ble_eq_true rfl, Nat.le_of_ble_eq_true rfl⟩ ⟨Nat.zero_le _, Nat.zero_le _⟩ 0 rfl rfl rfl rfl (Nat.le_of_ble_eq_true rfl) dX10_setConstant_29 (SG.all rfl) rfl ?_
    cases hf
    exact g_iret X hr hlk dX10_setConstant_32
  · refine g_bipush X dX10_setConstant_19 (by decide +kernel) ?_
    refine g_iload_n X dX10_setConstant_21 4 rfl rfl ?_
    refine g_iadd X dX10_setConstant_22 ?_
    refine g_goto X 27 dX10_setConstant_23 (by decide) ?_
    refine g_iload X dX10_setConstant_27 0 rfl ?_
    obtain ⟨w5, hc6, hf⟩ := Option.bind_eq_some_iff.mp hf
    refine g_callV X (As := [ii p1, ii p2, ii (100 + p3), ii v1]) (st := []) (st1 := [ii w5.1]) (ws' := c10 K a w5.2.1 w5.2.2.1 w5.2.2.2.1 w5.2.2.2.2 text textLong rdd readMany waits opn place built builtMany parts partMany taken calls lacks callMany total values told toldLong) (X10_setsEntry_ok K l a all saved savedMany errors text textLong rdd readMany waits opn place built builtMany parts partMany taken calls lacks callMany total values told toldLong p1 p2 (100 + p3) v1 w5 hc6) gX10_setConstant_X10_setsEntry rfl 4 (by decide +kernel) ⟨rfl, rfl⟩ ⟨Nat.le_of_ble_eq_true rfl, Nat.le_of_ble_eq_true rfl⟩ ⟨Nat.zero_le _, Nat.zero_le _⟩ 0 rfl rfl rfl rfl (Nat.le_of_ble_eq_true rfl) dX10_setConstant_29 (SG.all rfl) rfl ?_
    cases hf
    exact g_iret X hr hlk dX10_setConstant_32
set_option maxHeartbeats 4000000 in
set_option maxRecDepth 100000 in
theorem X10_setConstant_ok (K : KE) (l : Launch) (a : Nat → Nat) (all : Arr) (saved : Arr) (savedMany : Int) (errors : Arr) (text : Arr) (textLong : Int) (rdd : Arr) (readMany : Int) (waits : Arr) (opn : Int) (place : Int) (built : Arr) (builtMany : Int) (parts : Arr) (partMany : Int) (taken : Arr) (calls : Arr) (lacks : Arr) (callMany : Int) (total : Int) (values : Arr) (told : Arr) (toldLong : Int) (p1 : Int) (p2 : Int) (p3 : Int) (res : Int × Arr × Arr × Int × Arr) (hf : X10_setConstant all saved savedMany errors p1 p2 p3 = some res) : CT l K.1 vwCl (kT K) yX10_setConstant wsX10_setConstant rmX10_setConstant [.ref (a 0), ii p1, ii p2, ii p3] (some (ii res.1)) (c10 K a all saved savedMany errors text textLong rdd readMany waits opn place built builtMany parts partMany taken calls lacks callMany total values told toldLong) (c10 K a res.2.1 res.2.2.1 res.2.2.2.1 res.2.2.2.2 text textLong rdd readMany waits opn place built builtMany parts partMany taken calls lacks callMany total values told toldLong) :=
  CT.mk (cc := cX10_setConstant) (maxL := 5) (ret := (some .int)) (by decide) rfl (Nat.le_of_ble_eq_true rfl) (fun p e s m below meth c X hr hlk => X10_setConstant_go K l a _ X hr hlk all saved savedMany errors text textLong rdd readMany waits opn place built builtMany parts partMany taken calls lacks callMany total values told toldLong p1 p2 p3 res hf)
def rmX10_isFaithful : Room := { frames := 4, cells := 0, slots := 0, locals := 91 }
def X10_isFaithful (all : Arr) (errors : Arr) (p1 : Int) : Option (Int × Arr) := (X10_isFunction p1).bind (fun v1 => brEQ v1 0 ((X10_error errors (-2)).bind (fun w3 => some (w3.1, w3.2))) ((X10_newOf all p1).bind (fun v5 => brEQ v5 (-1) ((X10_error errors (-3)).bind (fun w7 => some (w7.1, w7.2))) ((X10_faithful all p1).bind (fun v9 => some (v9, errors))))))
set_option maxHeartbeats 4000000 in
set_option maxRecDepth 100000 in
theorem X10_isFaithful_go (K : KE) (l : Launch) (a : Nat → Nat) (WC : va_W) {p : Program} {e : Env} {s : State} {m : MethodId} {args : Array Value} {below : List Frame} {meth : Method} {c : Code} (X : CX p s m args c K.1 vwCl (kT K) (va_A WC s.heap.size) cX10_isFaithful 2 wsX10_isFaithful RX10) (hr : meth.sig.returnType = (some .int)) (hlk : meth.locks = false) (all : Arr) (saved : Arr) (savedMany : Int) (errors : Arr) (text : Arr) (textLong : Int) (rdd : Arr) (readMany : Int) (waits : Arr) (opn : Int) (place : Int) (built : Arr) (builtMany : Int) (parts : Arr) (partMany : Int) (taken : Arr) (calls : Arr) (lacks : Arr) (callMany : Int) (total : Int) (values : Arr) (told : Arr) (toldLong : Int) (p1 : Int) (res : Int × Arr) (hf : X10_isFaithful all errors p1 = some res) : GO p l e rmX10_isFaithful s m args below meth c K.1 vwCl (va_A WC s.heap.size) (MQ below (QC K.1 vwCl (some (ii res.1)) WC (c10 K a all saved savedMany res.2 text textLong rdd readMany waits opn place built builtMany parts partMany taken calls lacks callMany total values told toldLong) s.heap.size) args s 0 0 (va_A WC s.heap.size)) 2 0 0 0 [(0, .ref (a 0)), (1, ii p1)] [] (c10 K a all saved savedMany errors text textLong rdd readMany waits opn place built builtMany parts partMany taken calls lacks callMany total values told toldLong) := by
  rw [X10_isFaithful] at hf
  refine g_iload_n X dX10_isFaithful_0 1 rfl rfl ?_
  obtain ⟨v1, hc2, hf⟩ := Option.bind_eq_some_iff.mp hf
  refine g_callS X (As := [ii p1]) (st := []) (st1 := [ii v1]) (ws' := c10 K a all saved savedMany errors text textLong rdd readMany waits opn place built builtMany parts partMany taken calls lacks callMany total values told toldLong) (X10_isFunction_ok K l p1 v1 hc2) gX10_isFaithful_X10_isFunction rfl 1 (by decide +kernel) ⟨rfl, rfl⟩ ⟨Nat.le_of_ble_eq_true rfl, Nat.le_of_ble_eq_true rfl⟩ ⟨Nat.zero_le _, Nat.zero_le _⟩ rfl rfl (Nat.le_of_ble_eq_true rfl) dX10_isFaithful_1 SG.none rfl ?_
  refine g_if_ne X hf 14 dX10_isFaithful_4 (by decide) (fun hf => ?_) (fun hf => ?_)
  · refine g_aload_n X dX10_isFaithful_7 0 rfl rfl ?_
    refine g_bipush X dX10_isFaithful_8 (by decide +kernel) ?_
    obtain ⟨w3, hc4, hf⟩ := Option.bind_eq_some_iff.mp hf
    refine g_callV X (As := [ii (-2)]) (st := []) (st1 := [ii w3.1]) (ws' := c10 K a all saved savedMany w3.2 text textLong rdd readMany waits opn place built builtMany parts partMany taken calls lacks callMany total values told toldLong) (X10_error_ok K l a all saved savedMany errors text textLong rdd readMany waits opn place built builtMany parts partMany taken calls lacks callMany total values told toldLong (-2) w3 hc4) gX10_isFaithful_X10_error rfl 1 (by decide +kernel) ⟨rfl, rfl⟩ ⟨Nat.le_of_ble_eq_true rfl, Nat.le_of_ble_eq_true rfl⟩ ⟨Nat.zero_le _, Nat.zero_le _⟩ 0 rfl rfl rfl rfl (Nat.le_of_ble_eq_true rfl) dX10_isFaithful_10 (SG.all rfl) rfl ?_
    cases hf
    exact g_iret X hr hlk dX10_isFaithful_13
  · refine g_aload_n X dX10_isFaithful_14 0 rfl rfl ?_
    refine g_iload_n X dX10_isFaithful_15 1 rfl rfl ?_
    obtain ⟨v5, hc6, hf⟩ := Option.bind_eq_some_iff.mp hf
    refine g_callV X (As := [ii p1]) (st := []) (st1 := [ii v5]) (ws' := c10 K a all saved savedMany errors text textLong rdd readMany waits opn place built builtMany parts partMany taken calls lacks callMany total values told toldLong) (X10_newOf_ok K l a all saved savedMany errors text textLong rdd readMany waits opn place built builtMany parts partMany taken calls lacks callMany total values told toldLong p1 v5 hc6) gX10_isFaithful_X10_newOf rfl 1 (by decide +kernel) ⟨rfl, rfl⟩ ⟨Nat.le_of_ble_eq_true rfl, Nat.le_of_ble_eq_true rfl⟩ ⟨Nat.zero_le _, Nat.zero_le _⟩ 0 rfl rfl rfl rfl (Nat.le_of_ble_eq_true rfl) dX10_isFaithful_16 (SG.all rfl) rfl ?_
    refine g_iconst X dX10_isFaithful_19 ?_
    refine g_icmp_ne X hf 32 dX10_isFaithful_20 (by decide) (fun hf => ?_) (fun hf => ?_)
    · refine g_aload_n X dX10_isFaithful_23 0 rfl rfl ?_
      refine g_bipush X dX10_isFaithful_24 (by decide +kernel) ?_
      obtain ⟨w7, hc8, hf⟩ := Option.bind_eq_some_iff.mp hf
      refine g_callV X (As := [ii (-3)]) (st := []) (st1 := [ii w7.1]) (ws' := c10 K a all saved savedMany w7.2 text textLong rdd readMany waits opn place built builtMany parts partMany taken calls lacks callMany total values told toldLong) (X10_error_ok K l a all saved savedMany errors text textLong rdd readMany waits opn place built builtMany parts partMany taken calls lacks callMany total values told toldLong (-3) w7 hc8) gX10_isFaithful_X10_error rfl 1 (by decide +kernel) ⟨rfl, rfl⟩ ⟨Nat.le_of_ble_eq_true rfl, Nat.le_of_ble_eq_true rfl⟩ ⟨Nat.zero_le _, Nat.zero_le _⟩ 0 rfl rfl rfl rfl (Nat.le_of_ble_eq_true rfl) dX10_isFaithful_26 (SG.all rfl) rfl ?_
      refine g_goto X 37 dX10_isFaithful_29 (by decide) ?_
      cases hf
      exact g_iret X hr hlk dX10_isFaithful_37
    · refine g_aload_n X dX10_isFaithful_32 0 rfl rfl ?_
      refine g_iload_n X dX10_isFaithful_33 1 rfl rfl ?_
      obtain ⟨v9, hc10, hf⟩ := Option.bind_eq_some_iff.mp hf
      refine g_callV X (As := [ii p1]) (st := []) (st1 := [ii v9]) (ws' := c10 K a all saved savedMany errors text textLong rdd readMany waits opn place built builtMany parts partMany taken calls lacks callMany total values told toldLong) (X10_faithful_ok K l a all saved savedMany errors text textLong rdd readMany waits opn place built builtMany parts partMany taken calls lacks callMany total values told toldLong p1 v9 hc10) gX10_isFaithful_X10_faithful rfl 1 (by decide +kernel) ⟨rfl, rfl⟩ ⟨Nat.le_of_ble_eq_true rfl, Nat.le_of_ble_eq_true rfl⟩ ⟨Nat.zero_le _, Nat.zero_le _⟩ 0 rfl rfl rfl rfl (Nat.le_of_ble_eq_true rfl) dX10_isFaithful_34 (SG.all rfl) rfl ?_
      cases hf
      exact g_iret X hr hlk dX10_isFaithful_37
set_option maxHeartbeats 4000000 in
set_option maxRecDepth 100000 in
theorem X10_isFaithful_ok (K : KE) (l : Launch) (a : Nat → Nat) (all : Arr) (saved : Arr) (savedMany : Int) (errors : Arr) (text : Arr) (textLong : Int) (rdd : Arr) (readMany : Int) (waits : Arr) (opn : Int) (place : Int) (built : Arr) (builtMany : Int) (parts : Arr) (partMany : Int) (taken : Arr) (calls : Arr) (lacks : Arr) (callMany : Int) (total : Int) (values : Arr) (told : Arr) (toldLong : Int) (p1 : Int) (res : Int × Arr) (hf : X10_isFaithful all errors p1 = some res) : CT l K.1 vwCl (kT K) yX10_isFaithful wsX10_isFaithful rmX10_isFaithful [.ref (a 0), ii p1] (some (ii res.1)) (c10 K a all saved savedMany errors text textLong rdd readMany waits opn place built builtMany parts partMany taken calls lacks callMany total values told toldLong) (c10 K a all saved savedMany res.2 text textLong rdd readMany waits opn place built builtMany parts partMany taken calls lacks callMany total values told toldLong) :=
  CT.mk (cc := cX10_isFaithful) (maxL := 2) (ret := (some .int)) (by decide) rfl (Nat.le_of_ble_eq_true rfl) (fun p e s m below meth c X hr hlk => X10_isFaithful_go K l a _ X hr hlk all saved savedMany errors text textLong rdd readMany waits opn place built builtMany parts partMany taken calls lacks callMany total values told toldLong p1 res hf)
theorem iw_X10_allowAdapters_X10 : ∀ w ∈ u_ws RX10 TX10 23, w ∈ wsX10_allowAdapters := by decide +kernel
theorem fl_X10_allowAdapters_7 : Cond.fieldLink RX10 7 (TX10 0).1 (TX10 0).2.1 (TX10 0).2.2.1 ∈ wsX10_allowAdapters := by decide +kernel
def rmX10_allowAdapters : Room := { frames := 1, cells := 0, slots := 0, locals := 25 }
def X10_allowAdapters (all : Arr) (saved : Arr) (savedMany : Int) (errors : Arr) (p1 : Int) : Option (Int × Arr × Arr × Int × Arr) := lgK p1 ((X10_in p1 0 1).bind (fun v1 => brEQ v1 0 ((X10_error errors (-2)).bind (fun w3 => some (w3.1, all, saved, savedMany, w3.2))) ((X10_save all saved savedMany).bind (fun w5 => rdK 186 all 147 (fun v7 => wrK 186 all 147 p1 (fun f8 => some (v7, f8, w5.1, w5.2, errors)))))))
set_option maxHeartbeats 4000000 in
set_option maxRecDepth 100000 in
theorem X10_allowAdapters_go (K : KE) (l : Launch) (a : Nat → Nat) (WC : va_W) {p : Program} {e : Env} {s : State} {m : MethodId} {args : Array Value} {below : List Frame} {meth : Method} {c : Code} (X : CX p s m args c K.1 vwCl (kT K) (va_A WC s.heap.size) cX10_allowAdapters 3 wsX10_allowAdapters RX10) (hr : meth.sig.returnType = (some .int)) (hlk : meth.locks = false) (all : Arr) (saved : Arr) (savedMany : Int) (errors : Arr) (text : Arr) (textLong : Int) (rdd : Arr) (readMany : Int) (waits : Arr) (opn : Int) (place : Int) (built : Arr) (builtMany : Int) (parts : Arr) (partMany : Int) (taken : Arr) (calls : Arr) (lacks : Arr) (callMany : Int) (total : Int) (values : Arr) (told : Arr) (toldLong : Int) (p1 : Int) (res : Int × Arr × Arr × Int × Arr) (hf : X10_allowAdapters all saved savedMany errors p1 = some res) : GO p l e rmX10_allowAdapters s m args below meth c K.1 vwCl (va_A WC s.heap.size) (MQ below (QC K.1 vwCl (some (ii res.1)) WC (c10 K a res.2.1 res.2.2.1 res.2.2.2.1 res.2.2.2.2 text textLong rdd readMany waits opn place built builtMany parts partMany taken calls lacks callMany total values told toldLong) s.heap.size) args s 0 0 (va_A WC s.heap.size)) 3 0 0 0 [(0, .ref (a 0)), (1, ii p1)] [] (c10 K a all saved savedMany errors text textLong rdd readMany waits opn place built builtMany parts partMany taken calls lacks callMany total values told toldLong) := by
  rw [X10_allowAdapters] at hf
  refine g_iload_n X dX10_allowAdapters_0 1 rfl rfl ?_
  refine g_i2l X hf dX10_allowAdapters_1 (fun hf => ?_)
  refine g_lconst X 0 dX10_allowAdapters_2 (by decide +kernel) ?_
  refine g_lconst X 1 dX10_allowAdapters_3 (by decide +kernel) ?_
  obtain ⟨v1, hc2, hf⟩ := Option.bind_eq_some_iff.mp hf
  refine g_callS X (As := [ll p1, ll 0, ll 1]) (st := []) (st1 := [ii v1]) (ws' := c10 K a all saved savedMany errors text textLong rdd readMany waits opn place built builtMany parts partMany taken calls lacks callMany total values told toldLong) (X10_in_ok K l p1 0 1 v1 hc2) gX10_allowAdapters_X10_in rfl 3 (by decide +kernel) ⟨rfl, rfl⟩ ⟨Nat.le_of_ble_eq_true rfl, Nat.le_of_ble_eq_true rfl⟩ ⟨Nat.zero_le _, Nat.zero_le _⟩ rfl rfl (Nat.le_of_ble_eq_true rfl) dX10_allowAdapters_4 SG.none rfl ?_
  refine g_if_ne X hf 17 dX10_allowAdapters_7 (by decide) (fun hf => ?_) (fun hf => ?_)
  · refine g_aload_n X dX10_allowAdapters_10 0 rfl rfl ?_
    refine g_bipush X dX10_allowAdapters_11 (by decide +kernel) ?_
    obtain ⟨w3, hc4, hf⟩ := Option.bind_eq_some_iff.mp hf
    refine g_callV X (As := [ii (-2)]) (st := []) (st1 := [ii w3.1]) (ws' := c10 K a all saved savedMany w3.2 text textLong rdd readMany waits opn place built builtMany parts partMany taken calls lacks callMany total values told toldLong) (X10_error_ok K l a all saved savedMany errors text textLong rdd readMany waits opn place built builtMany parts partMany taken calls lacks callMany total values told toldLong (-2) w3 hc4) gX10_allowAdapters_X10_error rfl 1 (by decide +kernel) ⟨rfl, rfl⟩ ⟨Nat.le_of_ble_eq_true rfl, Nat.le_of_ble_eq_true rfl⟩ ⟨Nat.zero_le _, Nat.zero_le _⟩ 0 rfl rfl rfl rfl (Nat.le_of_ble_eq_true rfl) dX10_allowAdapters_13 (SG.all rfl) rfl ?_
    cases hf
    exact g_iret X hr hlk dX10_allowAdapters_16
  · refine g_aload_n X dX10_allowAdapters_17 0 rfl rfl ?_
    obtain ⟨w5, hc6, hf⟩ := Option.bind_eq_some_iff.mp hf
    refine g_callV X (As := []) (st := []) (st1 := []) (ws' := c10 K a all w5.1 w5.2 errors text textLong rdd readMany waits opn place built builtMany parts partMany taken calls lacks callMany total values told toldLong) (X10_save_ok K l a all saved savedMany errors text textLong rdd readMany waits opn place built builtMany parts partMany taken calls lacks callMany total values told toldLong w5 hc6) gX10_allowAdapters_X10_save rfl 0 (by decide +kernel) ⟨rfl, rfl⟩ ⟨Nat.le_of_ble_eq_true rfl, Nat.le_of_ble_eq_true rfl⟩ ⟨Nat.zero_le _, Nat.zero_le _⟩ 0 rfl rfl rfl rfl (Nat.le_of_ble_eq_true rfl) dX10_allowAdapters_18 (SG.all rfl) rfl ?_
    refine g_aload_n X dX10_allowAdapters_21 0 rfl rfl ?_
    refine g_get X (v := .ref (a 1)) 0 0 dX10_allowAdapters_22 rfl rfl iw_X10_allowAdapters_X10 (by decide) fl_X10_allowAdapters_7 rfl ?_
    refine g_sipush X dX10_allowAdapters_25 (by decide +kernel) ?_
    refine g_iald X hf (by decide) 1 0 dX10_allowAdapters_28 rfl rfl (fun v7 hf => ?_)
    refine g_istore_n X (lv' := [(2, ii v7), (0, .ref (a 0)), (1, ii p1)]) dX10_allowAdapters_29 rfl (by decide) rfl ?_
    refine g_aload_n X dX10_allowAdapters_30 1 rfl rfl ?_
    refine g_get X (v := .ref (a 1)) 0 0 dX10_allowAdapters_31 rfl rfl iw_X10_allowAdapters_X10 (by decide) fl_X10_allowAdapters_7 rfl ?_
    refine g_sipush X dX10_allowAdapters_34 (by decide +kernel) ?_
    refine g_iload_n X dX10_allowAdapters_37 2 rfl rfl ?_
    refine g_iast X hf (by decide) 1 0 dX10_allowAdapters_38 rfl rfl (fun f8 => c10 K a f8 w5.1 w5.2 errors text textLong rdd readMany waits opn place built builtMany parts partMany taken calls lacks callMany total values told toldLong) (fun _ => rfl) (fun f8 hf => ?_)
    refine g_iload_n X dX10_allowAdapters_39 0 rfl rfl ?_
    cases hf
    exact g_iret X hr hlk dX10_allowAdapters_40
set_option maxHeartbeats 4000000 in
set_option maxRecDepth 100000 in
theorem X10_allowAdapters_ok (K : KE) (l : Launch) (a : Nat → Nat) (all : Arr) (saved : Arr) (savedMany : Int) (errors : Arr) (text : Arr) (textLong : Int) (rdd : Arr) (readMany : Int) (waits : Arr) (opn : Int) (place : Int) (built : Arr) (builtMany : Int) (parts : Arr) (partMany : Int) (taken : Arr) (calls : Arr) (lacks : Arr) (callMany : Int) (total : Int) (values : Arr) (told : Arr) (toldLong : Int) (p1 : Int) (res : Int × Arr × Arr × Int × Arr) (hf : X10_allowAdapters all saved savedMany errors p1 = some res) : CT l K.1 vwCl (kT K) yX10_allowAdapters wsX10_allowAdapters rmX10_allowAdapters [.ref (a 0), ii p1] (some (ii res.1)) (c10 K a all saved savedMany errors text textLong rdd readMany waits opn place built builtMany parts partMany taken calls lacks callMany total values told toldLong) (c10 K a res.2.1 res.2.2.1 res.2.2.2.1 res.2.2.2.2 text textLong rdd readMany waits opn place built builtMany parts partMany taken calls lacks callMany total values told toldLong) :=
  CT.mk (cc := cX10_allowAdapters) (maxL := 3) (ret := (some .int)) (by decide) rfl (Nat.le_of_ble_eq_true rfl) (fun p e s m below meth c X hr hlk => X10_allowAdapters_go K l a _ X hr hlk all saved savedMany errors text textLong rdd readMany waits opn place built builtMany parts partMany taken calls lacks callMany total values told toldLong p1 res hf)
theorem iw_X10_adapter_X10 : ∀ w ∈ u_ws RX10 TX10 23, w ∈ wsX10_adapter := by decide +kernel
theorem fl_X10_adapter_7 : Cond.fieldLink RX10 7 (TX10 0).1 (TX10 0).2.1 (TX10 0).2.2.1 ∈ wsX10_adapter := by decide +kernel
def rmX10_adapter : Room := { frames := 0, cells := 0, slots := 0, locals := 0 }
def X10_adapter_L4 (kx : Int → Option (Int)) (all : Arr) (x1 : Int) : Nat → Int → Int → Option (Int)
  | 0, _, _ => none
  | n + 1, y2, y3 => rdK 186 all 116 (fun v1 => brLT y3 v1 (rdK 186 all ((84 + (8 * y3)) + 7) (fun v2 => ltK (fun q3 : Int => X10_adapter_L4 kx all x1 n q3 (y3 + 1)) (fun j4 => brEQ v2 x1 (j4 y3) (j4 y2)))) (kx y2))
def X10_adapter (all : Arr) (p1 : Int) : Option (Int) := X10_adapter_L4 (fun w5 => some w5) all p1 FU (-1) 0
set_option maxHeartbeats 4000000 in
set_option maxRecDepth 100000 in
theorem X10_adapter_L4_ok (K : KE) (l : Launch) (a : Nat → Nat) (WC : va_W) {p : Program} {e : Env} {s : State} {m : MethodId} {args : Array Value} {below : List Frame} {meth : Method} {c : Code} (X : CX p s m args c K.1 vwCl (kT K) (va_A WC s.heap.size) cX10_adapter 4 wsX10_adapter RX10) (hr : meth.sig.returnType = (some .int)) (hlk : meth.locks = false) (all : Arr) (saved : Arr) (savedMany : Int) (errors : Arr) (text : Arr) (textLong : Int) (rdd : Arr) (readMany : Int) (waits : Arr) (opn : Int) (place : Int) (built : Arr) (builtMany : Int) (parts : Arr) (partMany : Int) (taken : Arr) (calls : Arr) (lacks : Arr) (callMany : Int) (total : Int) (values : Arr) (told : Arr) (toldLong : Int) (x1 : Int) (res : Int) {kx : Int → Option (Int)} : ∀ (n : Nat) (y2 : Int) (y3 : Int), X10_adapter_L4 kx all x1 n y2 y3 = some res → (∀ (z2 : Int), kx z2 = some res → GO p l e rmX10_adapter s m args below meth c K.1 vwCl (va_A WC s.heap.size) (MQ below (QC K.1 vwCl (some (ii res)) WC (c10 K a all saved savedMany errors text textLong rdd readMany waits opn place built builtMany parts partMany taken calls lacks callMany total values told toldLong) s.heap.size) args s 0 0 (va_A WC s.heap.size)) 4 0 0 46 [(2, ii z2)] [] (c10 K a all saved savedMany errors text textLong rdd readMany waits opn place built builtMany parts partMany taken calls lacks callMany total values told toldLong)) → GO p l e rmX10_adapter s m args below meth c K.1 vwCl (va_A WC s.heap.size) (MQ below (QC K.1 vwCl (some (ii res)) WC (c10 K a all saved savedMany errors text textLong rdd readMany waits opn place built builtMany parts partMany taken calls lacks callMany total values told toldLong) s.heap.size) args s 0 0 (va_A WC s.heap.size)) 4 0 0 4 [(0, .ref (a 0)), (1, ii x1), (2, ii y2), (3, ii y3)] [] (c10 K a all saved savedMany errors text textLong rdd readMany waits opn place built builtMany parts partMany taken calls lacks callMany total values told toldLong) := by
  intro n
  induction n with
  | zero =>
    intro y2 y3 hf _
    rw [X10_adapter_L4] at hf
    cases hf
  | succ n ih =>
    intro y2 y3 hf hk
    rw [X10_adapter_L4] at hf
    refine g_iload_n X dX10_adapter_4 3 rfl rfl ?_
    refine g_aload_n X dX10_adapter_5 0 rfl rfl ?_
    refine g_get X (v := .ref (a 1)) 0 0 dX10_adapter_6 rfl rfl iw_X10_adapter_X10 (by decide) fl_X10_adapter_7 rfl ?_
    refine g_bipush X dX10_adapter_9 (by decide +kernel) ?_
    refine g_iald X hf (by decide) 1 0 dX10_adapter_11 rfl rfl (fun v1 hf => ?_)
    refine g_icmp_ge X hf 46 dX10_adapter_12 (by decide) (fun hf => ?_) (fun hf => ?_)
    · refine g_aload_n X dX10_adapter_15 0 rfl rfl ?_
      refine g_get X (v := .ref (a 1)) 0 0 dX10_adapter_16 rfl rfl iw_X10_adapter_X10 (by decide) fl_X10_adapter_7 rfl ?_
      refine g_bipush X dX10_adapter_19 (by decide +kernel) ?_
      refine g_bipush X dX10_adapter_21 (by decide +kernel) ?_
      refine g_iload_n X dX10_adapter_23 3 rfl rfl ?_
      refine g_imul X dX10_adapter_24 ?_
      refine g_iadd X dX10_adapter_25 ?_
      refine g_bipush X dX10_adapter_26 (by decide +kernel) ?_
      refine g_iadd X dX10_adapter_28 ?_
      refine g_iald X hf (by decide) 1 0 dX10_adapter_29 rfl rfl (fun v2 hf => ?_)
      refine g_iload_n X dX10_adapter_30 1 rfl rfl ?_
      refine g_let (G := fun q3 : Int => GO p l e rmX10_adapter s m args below meth c K.1 vwCl (va_A WC s.heap.size) (MQ below (QC K.1 vwCl (some (ii res)) WC (c10 K a all saved savedMany errors text textLong rdd readMany waits opn place built builtMany parts partMany taken calls lacks callMany total values told toldLong) s.heap.size) args s 0 0 (va_A WC s.heap.size)) 4 0 0 39 [(0, .ref (a 0)), (1, ii x1), (3, ii y3)] [ii q3] (c10 K a all saved savedMany errors text textLong rdd readMany waits opn place built builtMany parts partMany taken calls lacks callMany total values told toldLong)) hf (fun q3 hf => ?_) (fun j4 hj4 hf => ?_)
      · refine g_istore_n X (lv' := [(2, ii q3), (0, .ref (a 0)), (1, ii x1), (3, ii y3)]) dX10_adapter_39 rfl (by decide) rfl ?_
        refine g_iinc X (lv' := [(3, ii (y3 + 1)), (2, ii q3), (0, .ref (a 0)), (1, ii x1)]) dX10_adapter_40 3 rfl (by decide) rfl ?_
        refine g_goto X 4 dX10_adapter_43 (by decide) ?_
        refine g_sub (lv' := [(0, .ref (a 0)), (1, ii x1), (2, ii q3), (3, ii (y3 + 1))]) [2, 3, 1, 0] rfl ?_
        exact ih q3 (y3 + 1) hf hk
      · refine g_icmp_ne X hf 38 dX10_adapter_31 (by decide) (fun hf => ?_) (fun hf => ?_)
        · refine g_iload_n X dX10_adapter_34 3 rfl rfl ?_
          refine g_goto X 39 dX10_adapter_35 (by decide) ?_
          refine g_sub (lv' := [(0, .ref (a 0)), (1, ii x1), (3, ii y3)]) [0, 1, 3] rfl ?_
          exact hj4 y3 hf
        · refine g_iload_n X dX10_adapter_38 2 rfl rfl ?_
          refine g_sub (lv' := [(0, .ref (a 0)), (1, ii x1), (3, ii y3)]) [0, 1, 3] rfl ?_
          exact hj4 y2 hf
    · refine g_sub (lv' := [(2, ii y2)]) [2] rfl ?_
      exact hk y2 hf
set_option maxHeartbeats 4000000 in
set_option maxRecDepth 100000 in
theorem X10_adapter_go (K : KE) (l : Launch) (a : Nat → Nat) (WC : va_W) {p : Program} {e : Env} {s : State} {m : MethodId} {args : Array Value} {below : List Frame} {meth : Method} {c : Code} (X : CX p s m args c K.1 vwCl (kT K) (va_A WC s.heap.size) cX10_adapter 4 wsX10_adapter RX10) (hr : meth.sig.returnType = (some .int)) (hlk : meth.locks = false) (all : Arr) (saved : Arr) (savedMany : Int) (errors : Arr) (text : Arr) (textLong : Int) (rdd : Arr) (readMany : Int) (waits : Arr) (opn : Int) (place : Int) (built : Arr) (builtMany : Int) (parts : Arr) (partMany : Int) (taken : Arr) (calls : Arr) (lacks : Arr) (callMany : Int) (total : Int) (values : Arr) (told : Arr) (toldLong : Int) (p1 : Int) (res : Int) (hf : X10_adapter all p1 = some res) : GO p l e rmX10_adapter s m args below meth c K.1 vwCl (va_A WC s.heap.size) (MQ below (QC K.1 vwCl (some (ii res)) WC (c10 K a all saved savedMany errors text textLong rdd readMany waits opn place built builtMany parts partMany taken calls lacks callMany total values told toldLong) s.heap.size) args s 0 0 (va_A WC s.heap.size)) 4 0 0 0 [(0, .ref (a 0)), (1, ii p1)] [] (c10 K a all saved savedMany errors text textLong rdd readMany waits opn place built builtMany parts partMany taken calls lacks callMany total values told toldLong) := by
  rw [X10_adapter] at hf
  refine g_iconst X dX10_adapter_0 ?_
  refine g_istore_n X (lv' := [(2, ii (-1)), (0, .ref (a 0)), (1, ii p1)]) dX10_adapter_1 rfl (by decide) rfl ?_
  refine g_iconst X dX10_adapter_2 ?_
  refine g_istore_n X (lv' := [(3, ii 0), (2, ii (-1)), (0, .ref (a 0)), (1, ii p1)]) dX10_adapter_3 rfl (by decide) rfl ?_
  refine g_sub (lv' := [(0, .ref (a 0)), (1, ii p1), (2, ii (-1)), (3, ii 0)]) [2, 3, 1, 0] rfl ?_
  refine X10_adapter_L4_ok K l a WC X hr hlk all saved savedMany errors text textLong rdd readMany waits opn place built builtMany parts partMany taken calls lacks callMany total values told toldLong p1 res FU (-1) 0 hf (fun w5 hf => ?_)
  refine g_iload_n X dX10_adapter_46 0 rfl rfl ?_
  cases hf
  exact g_iret X hr hlk dX10_adapter_47
set_option maxHeartbeats 4000000 in
set_option maxRecDepth 100000 in
theorem X10_adapter_ok (K : KE) (l : Launch) (a : Nat → Nat) (all : Arr) (saved : Arr) (savedMany : Int) (errors : Arr) (text : Arr) (textLong : Int) (rdd : Arr) (readMany : Int) (waits : Arr) (opn : Int) (place : Int) (built : Arr) (builtMany : Int) (parts : Arr) (partMany : Int) (taken : Arr) (calls : Arr) (lacks : Arr) (callMany : Int) (total : Int) (values : Arr) (told : Arr) (toldLong : Int) (p1 : Int) (res : Int) (hf : X10_adapter all p1 = some res) : CT l K.1 vwCl (kT K) yX10_adapter wsX10_adapter rmX10_adapter [.ref (a 0), ii p1] (some (ii res)) (c10 K a all saved savedMany errors text textLong rdd readMany waits opn place built builtMany parts partMany taken calls lacks callMany total values told toldLong) (c10 K a all saved savedMany errors text textLong rdd readMany waits opn place built builtMany parts partMany taken calls lacks callMany total values told toldLong) :=
  CT.mk (cc := cX10_adapter) (maxL := 4) (ret := (some .int)) (by decide) rfl (Nat.le_of_ble_eq_true rfl) (fun p e s m below meth c X hr hlk => X10_adapter_go K l a _ X hr hlk all saved savedMany errors text textLong rdd readMany waits opn place built builtMany parts partMany taken calls lacks callMany total values told toldLong p1 res hf)
def rmX10_adapterOf : Room := { frames := 2, cells := 0, slots := 0, locals := 45 }
def X10_adapterOf (all : Arr) (errors : Arr) (p1 : Int) : Option (Int × Arr) := (X10_isFunction p1).bind (fun v1 => brEQ v1 0 ((X10_error errors (-2)).bind (fun w3 => some (w3.1, w3.2))) ((X10_adapter all p1).bind (fun v5 => brEQ v5 (-1) ((X10_error errors (-3)).bind (fun w7 => some (w7.1, w7.2))) (some (v5, errors)))))
set_option maxHeartbeats 4000000 in
set_option maxRecDepth 100000 in
theorem X10_adapterOf_go (K : KE) (l : Launch) (a : Nat → Nat) (WC : va_W) {p : Program} {e : Env} {s : State} {m : MethodId} {args : Array Value} {below : List Frame} {meth : Method} {c : Code} (X : CX p s m args c K.1 vwCl (kT K) (va_A WC s.heap.size) cX10_adapterOf 3 wsX10_adapterOf RX10) (hr : meth.sig.returnType = (some .int)) (hlk : meth.locks = false) (all : Arr) (saved : Arr) (savedMany : Int) (errors : Arr) (text : Arr) (textLong : Int) (rdd : Arr) (readMany : Int) (waits : Arr) (opn : Int) (place : Int) (built : Arr) (builtMany : Int) (parts : Arr) (partMany : Int) (taken : Arr) (calls : Arr) (lacks : Arr) (callMany : Int) (total : Int) (values : Arr) (told : Arr) (toldLong : Int) (p1 : Int) (res : Int × Arr) (hf : X10_adapterOf all errors p1 = some res) : GO p l e rmX10_adapterOf s m args below meth c K.1 vwCl (va_A WC s.heap.size) (MQ below (QC K.1 vwCl (some (ii res.1)) WC (c10 K a all saved savedMany res.2 text textLong rdd readMany waits opn place built builtMany parts partMany taken calls lacks callMany total values told toldLong) s.heap.size) args s 0 0 (va_A WC s.heap.size)) 3 0 0 0 [(0, .ref (a 0)), (1, ii p1)] [] (c10 K a all saved savedMany errors text textLong rdd readMany waits opn place built builtMany parts partMany taken calls lacks callMany total values told toldLong) := by
  rw [X10_adapterOf] at hf
  refine g_iload_n X dX10_adapterOf_0 1 rfl rfl ?_
  obtain ⟨v1, hc2, hf⟩ := Option.bind_eq_some_iff.mp hf
  refine g_callS X (As := [ii p1]) (st := []) (st1 := [ii v1]) (ws' := c10 K a all saved savedMany errors text textLong rdd readMany waits opn place built builtMany parts partMany taken calls lacks callMany total values told toldLong) (X10_isFunction_ok K l p1 v1 hc2) gX10_adapterOf_X10_isFunction rfl 1 (by decide +kernel) ⟨rfl, rfl⟩ ⟨Nat.le_of_ble_eq_true rfl, Nat.le_of_ble_eq_true rfl⟩ ⟨Nat.zero_le _, Nat.zero_le _⟩ rfl rfl (Nat.le_of_ble_eq_true rfl) dX10_adapterOf_1 SG.none rfl ?_
  refine g_if_ne X hf 14 dX10_adapterOf_4 (by decide) (fun hf => ?_) (fun hf => ?_)
  · refine g_aload_n X dX10_adapterOf_7 0 rfl rfl ?_
    refine g_bipush X dX10_adapterOf_8 (by decide +kernel) ?_
    obtain ⟨w3, hc4, hf⟩ := Option.bind_eq_some_iff.mp hf
    refine g_callV X (As := [ii (-2)]) (st := []) (st1 := [ii w3.1]) (ws' := c10 K a all saved savedMany w3.2 text textLong rdd readMany waits opn place built builtMany parts partMany taken calls lacks callMany total values told toldLong) (X10_error_ok K l a all saved savedMany errors text textLong rdd readMany waits opn place built builtMany parts partMany taken calls lacks callMany total values told toldLong (-2) w3 hc4) gX10_adapterOf_X10_error rfl 1 (by decide +kernel) ⟨rfl, rfl⟩ ⟨Nat.le_of_ble_eq_true rfl, Nat.le_of_ble_eq_true rfl⟩ ⟨Nat.zero_le _, Nat.zero_le _⟩ 0 rfl rfl rfl rfl (Nat.le_of_ble_eq_true rfl) dX10_adapterOf_10 (SG.all rfl) rfl ?_
    cases hf
    exact g_iret X hr hlk dX10_adapterOf_13
  · refine g_aload_n X dX10_adapterOf_14 0 rfl rfl ?_
    refine g_iload_n X dX10_adapterOf_15 1 rfl rfl ?_
    obtain ⟨v5, hc6, hf⟩ := Option.bind_eq_some_iff.mp hf
    refine g_callV X (As := [ii p1]) (st := []) (st1 := [ii v5]) (ws' := c10 K a all saved savedMany errors text textLong rdd readMany waits opn place built builtMany parts partMany taken calls lacks callMany total values told toldLong) (X10_adapter_ok K l a all saved savedMany errors text textLong rdd readMany waits opn place built builtMany parts partMany taken calls lacks callMany total values told toldLong p1 v5 hc6) gX10_adapterOf_X10_adapter rfl 1 (by decide +kernel) ⟨rfl, rfl⟩ ⟨Nat.le_of_ble_eq_true rfl, Nat.le_of_ble_eq_true rfl⟩ ⟨Nat.zero_le _, Nat.zero_le _⟩ 0 rfl rfl rfl rfl (Nat.le_of_ble_eq_true rfl) dX10_adapterOf_16 (SG.all rfl) rfl ?_
    refine g_istore_n X (lv' := [(2, ii v5), (0, .ref (a 0)), (1, ii p1)]) dX10_adapterOf_19 rfl (by decide) rfl ?_
    refine g_iload_n X dX10_adapterOf_20 0 rfl rfl ?_
    refine g_iconst X dX10_adapterOf_21 ?_
    refine g_icmp_ne X hf 34 dX10_adapterOf_22 (by decide) (fun hf => ?_) (fun hf => ?_)
    · refine g_aload_n X dX10_adapterOf_25 1 rfl rfl ?_
      refine g_bipush X dX10_adapterOf_26 (by decide +kernel) ?_
      obtain ⟨w7, hc8, hf⟩ := Option.bind_eq_some_iff.mp hf
      refine g_callV X (As := [ii (-3)]) (st := []) (st1 := [ii w7.1]) (ws' := c10 K a all saved savedMany w7.2 text textLong rdd readMany waits opn place built builtMany parts partMany taken calls lacks callMany total values told toldLong) (X10_error_ok K l a all saved savedMany errors text textLong rdd readMany waits opn place built builtMany parts partMany taken calls lacks callMany total values told toldLong (-3) w7 hc8) gX10_adapterOf_X10_error rfl 1 (by decide +kernel) ⟨rfl, rfl⟩ ⟨Nat.le_of_ble_eq_true rfl, Nat.le_of_ble_eq_true rfl⟩ ⟨Nat.zero_le _, Nat.zero_le _⟩ 0 rfl rfl rfl rfl (Nat.le_of_ble_eq_true rfl) dX10_adapterOf_28 (SG.all rfl) rfl ?_
      refine g_goto X 35 dX10_adapterOf_31 (by decide) ?_
      cases hf
      exact g_iret X hr hlk dX10_adapterOf_35
    · refine g_iload_n X dX10_adapterOf_34 0 rfl rfl ?_
      cases hf
      exact g_iret X hr hlk dX10_adapterOf_35
set_option maxHeartbeats 4000000 in
set_option maxRecDepth 100000 in
theorem X10_adapterOf_ok (K : KE) (l : Launch) (a : Nat → Nat) (all : Arr) (saved : Arr) (savedMany : Int) (errors : Arr) (text : Arr) (textLong : Int) (rdd : Arr) (readMany : Int) (waits : Arr) (opn : Int) (place : Int) (built : Arr) (builtMany : Int) (parts : Arr) (partMany : Int) (taken : Arr) (calls : Arr) (lacks : Arr) (callMany : Int) (total : Int) (values : Arr) (told : Arr) (toldLong : Int) (p1 : Int) (res : Int × Arr) (hf : X10_adapterOf all errors p1 = some res) : CT l K.1 vwCl (kT K) yX10_adapterOf wsX10_adapterOf rmX10_adapterOf [.ref (a 0), ii p1] (some (ii res.1)) (c10 K a all saved savedMany errors text textLong rdd readMany waits opn place built builtMany parts partMany taken calls lacks callMany total values told toldLong) (c10 K a all saved savedMany res.2 text textLong rdd readMany waits opn place built builtMany parts partMany taken calls lacks callMany total values told toldLong) :=
  CT.mk (cc := cX10_adapterOf) (maxL := 3) (ret := (some .int)) (by decide) rfl (Nat.le_of_ble_eq_true rfl) (fun p e s m below meth c X hr hlk => X10_adapterOf_go K l a _ X hr hlk all saved savedMany errors text textLong rdd readMany waits opn place built builtMany parts partMany taken calls lacks callMany total values told toldLong p1 res hf)
def rmX10_kind : Room := { frames := 0, cells := 0, slots := 0, locals := 0 }
def X10_kind (p0 : Int) : Option (Int) := dvK p0 10000 (fun v1 => some v1)
set_option maxHeartbeats 4000000 in
set_option maxRecDepth 100000 in
theorem X10_kind_go (K : KE) (l : Launch) (WC : va_W) {p : Program} {e : Env} {s : State} {m : MethodId} {args : Array Value} {below : List Frame} {meth : Method} {c : Code} (X : CX p s m args c K.1 vwCl (kT K) (va_A WC s.heap.size) cX10_kind 1 wsX10_kind RX10) (hr : meth.sig.returnType = (some .int)) (hlk : meth.locks = false) (p0 : Int) (res : Int) (hf : X10_kind p0 = some res) : GO p l e rmX10_kind s m args below meth c K.1 vwCl (va_A WC s.heap.size) (MQ below (QC K.1 vwCl (some (ii res)) WC ([]) s.heap.size) args s 0 0 (va_A WC s.heap.size)) 1 0 0 0 [(0, ii p0)] [] ([]) := by
  rw [X10_kind] at hf
  refine g_iload_n X dX10_kind_0 0 rfl rfl ?_
  refine g_sipush X dX10_kind_1 (by decide +kernel) ?_
  refine g_idiv X hf (by decide) dX10_kind_4 (fun v1 hf => ?_)
  cases hf
  exact g_iret X hr hlk dX10_kind_5
set_option maxHeartbeats 4000000 in
set_option maxRecDepth 100000 in
theorem X10_kind_ok (K : KE) (l : Launch) (p0 : Int) (res : Int) (hf : X10_kind p0 = some res) : CT l K.1 vwCl (kT K) yX10_kind wsX10_kind rmX10_kind [ii p0] (some (ii res)) ([]) ([]) :=
  CT.mk (cc := cX10_kind) (maxL := 1) (ret := (some .int)) (by decide) rfl (Nat.le_of_ble_eq_true rfl) (fun p e s m below meth c X hr hlk => X10_kind_go K l  _ X hr hlk p0 res hf)
def rmX10_which : Room := { frames := 0, cells := 0, slots := 0, locals := 0 }
def X10_which (p0 : Int) : Option (Int) := dvK p0 10 (fun v1 => rmK v1 1000 (fun v2 => some v2))
set_option maxHeartbeats 4000000 in
set_option maxRecDepth 100000 in
theorem X10_which_go (K : KE) (l : Launch) (WC : va_W) {p : Program} {e : Env} {s : State} {m : MethodId} {args : Array Value} {below : List Frame} {meth : Method} {c : Code} (X : CX p s m args c K.1 vwCl (kT K) (va_A WC s.heap.size) cX10_which 1 wsX10_which RX10) (hr : meth.sig.returnType = (some .int)) (hlk : meth.locks = false) (p0 : Int) (res : Int) (hf : X10_which p0 = some res) : GO p l e rmX10_which s m args below meth c K.1 vwCl (va_A WC s.heap.size) (MQ below (QC K.1 vwCl (some (ii res)) WC ([]) s.heap.size) args s 0 0 (va_A WC s.heap.size)) 1 0 0 0 [(0, ii p0)] [] ([]) := by
  rw [X10_which] at hf
  refine g_iload_n X dX10_which_0 0 rfl rfl ?_
  refine g_bipush X dX10_which_1 (by decide +kernel) ?_
  refine g_idiv X hf (by decide) dX10_which_3 (fun v1 hf => ?_)
  refine g_sipush X dX10_which_4 (by decide +kernel) ?_
  refine g_irem X hf (by decide) dX10_which_7 (fun v2 hf => ?_)
  cases hf
  exact g_iret X hr hlk dX10_which_8
set_option maxHeartbeats 4000000 in
set_option maxRecDepth 100000 in
theorem X10_which_ok (K : KE) (l : Launch) (p0 : Int) (res : Int) (hf : X10_which p0 = some res) : CT l K.1 vwCl (kT K) yX10_which wsX10_which rmX10_which [ii p0] (some (ii res)) ([]) ([]) :=
  CT.mk (cc := cX10_which) (maxL := 1) (ret := (some .int)) (by decide) rfl (Nat.le_of_ble_eq_true rfl) (fun p e s m below meth c X hr hlk => X10_which_go K l  _ X hr hlk p0 res hf)
def rmX10_arguments : Room := { frames := 0, cells := 0, slots := 0, locals := 0 }
def X10_arguments (p0 : Int) : Option (Int) := rmK p0 10 (fun v1 => some v1)
set_option maxHeartbeats 4000000 in
set_option maxRecDepth 100000 in
theorem X10_arguments_go (K : KE) (l : Launch) (WC : va_W) {p : Program} {e : Env} {s : State} {m : MethodId} {args : Array Value} {below : List Frame} {meth : Method} {c : Code} (X : CX p s m args c K.1 vwCl (kT K) (va_A WC s.heap.size) cX10_arguments 1 wsX10_arguments RX10) (hr : meth.sig.returnType = (some .int)) (hlk : meth.locks = false) (p0 : Int) (res : Int) (hf : X10_arguments p0 = some res) : GO p l e rmX10_arguments s m args below meth c K.1 vwCl (va_A WC s.heap.size) (MQ below (QC K.1 vwCl (some (ii res)) WC ([]) s.heap.size) args s 0 0 (va_A WC s.heap.size)) 1 0 0 0 [(0, ii p0)] [] ([]) := by
  rw [X10_arguments] at hf
  refine g_iload_n X dX10_arguments_0 0 rfl rfl ?_
  refine g_bipush X dX10_arguments_1 (by decide +kernel) ?_
  refine g_irem X hf (by decide) dX10_arguments_3 (fun v1 hf => ?_)
  cases hf
  exact g_iret X hr hlk dX10_arguments_4
set_option maxHeartbeats 4000000 in
set_option maxRecDepth 100000 in
theorem X10_arguments_ok (K : KE) (l : Launch) (p0 : Int) (res : Int) (hf : X10_arguments p0 = some res) : CT l K.1 vwCl (kT K) yX10_arguments wsX10_arguments rmX10_arguments [ii p0] (some (ii res)) ([]) ([]) :=
  CT.mk (cc := cX10_arguments) (maxL := 1) (ret := (some .int)) (by decide) rfl (Nat.le_of_ble_eq_true rfl) (fun p e s m below meth c X hr hlk => X10_arguments_go K l  _ X hr hlk p0 res hf)
def rmX10_node : Room := { frames := 0, cells := 0, slots := 0, locals := 0 }
def X10_node (p0 : Int) (p1 : Int) (p2 : Int) : Option (Int) := some (((10000 * p0) + (10 * p1)) + p2)
set_option maxHeartbeats 4000000 in
set_option maxRecDepth 100000 in
theorem X10_node_go (K : KE) (l : Launch) (WC : va_W) {p : Program} {e : Env} {s : State} {m : MethodId} {args : Array Value} {below : List Frame} {meth : Method} {c : Code} (X : CX p s m args c K.1 vwCl (kT K) (va_A WC s.heap.size) cX10_node 3 wsX10_node RX10) (hr : meth.sig.returnType = (some .int)) (hlk : meth.locks = false) (p0 : Int) (p1 : Int) (p2 : Int) (res : Int) (hf : X10_node p0 p1 p2 = some res) : GO p l e rmX10_node s m args below meth c K.1 vwCl (va_A WC s.heap.size) (MQ below (QC K.1 vwCl (some (ii res)) WC ([]) s.heap.size) args s 0 0 (va_A WC s.heap.size)) 3 0 0 0 [(0, ii p0), (1, ii p1), (2, ii p2)] [] ([]) := by
  rw [X10_node] at hf
  refine g_sipush X dX10_node_0 (by decide +kernel) ?_
  refine g_iload_n X dX10_node_3 0 rfl rfl ?_
  refine g_imul X dX10_node_4 ?_
  refine g_bipush X dX10_node_5 (by decide +kernel) ?_
  refine g_iload_n X dX10_node_7 1 rfl rfl ?_
  refine g_imul X dX10_node_8 ?_
  refine g_iadd X dX10_node_9 ?_
  refine g_iload_n X dX10_node_10 2 rfl rfl ?_
  refine g_iadd X dX10_node_11 ?_
  cases hf
  exact g_iret X hr hlk dX10_node_12
set_option maxHeartbeats 4000000 in
set_option maxRecDepth 100000 in
theorem X10_node_ok (K : KE) (l : Launch) (p0 : Int) (p1 : Int) (p2 : Int) (res : Int) (hf : X10_node p0 p1 p2 = some res) : CT l K.1 vwCl (kT K) yX10_node wsX10_node rmX10_node [ii p0, ii p1, ii p2] (some (ii res)) ([]) ([]) :=
  CT.mk (cc := cX10_node) (maxL := 3) (ret := (some .int)) (by decide) rfl (Nat.le_of_ble_eq_true rfl) (fun p e s m below meth c X hr hlk => X10_node_go K l  _ X hr hlk p0 p1 p2 res hf)
def rmX10_function : Room := { frames := 1, cells := 0, slots := 0, locals := 20 }
def X10_function (p1 : Int) : Option (Int) := (X10_kind p1).bind (fun v1 => brEQ v1 3 ((X10_which p1).bind (fun v3 => some (0 + (7 * v3)))) ((X10_kind p1).bind (fun v5 => brEQ v5 4 ((X10_which p1).bind (fun v7 => some (42 + (7 * v7)))) ((X10_which p1).bind (fun v9 => some (84 + (8 * v9)))))))
set_option maxHeartbeats 4000000 in
set_option maxRecDepth 100000 in
theorem X10_function_go (K : KE) (l : Launch) (a : Nat → Nat) (WC : va_W) {p : Program} {e : Env} {s : State} {m : MethodId} {args : Array Value} {below : List Frame} {meth : Method} {c : Code} (X : CX p s m args c K.1 vwCl (kT K) (va_A WC s.heap.size) cX10_function 2 wsX10_function RX10) (hr : meth.sig.returnType = (some .int)) (hlk : meth.locks = false) (all : Arr) (saved : Arr) (savedMany : Int) (errors : Arr) (text : Arr) (textLong : Int) (rdd : Arr) (readMany : Int) (waits : Arr) (opn : Int) (place : Int) (built : Arr) (builtMany : Int) (parts : Arr) (partMany : Int) (taken : Arr) (calls : Arr) (lacks : Arr) (callMany : Int) (total : Int) (values : Arr) (told : Arr) (toldLong : Int) (p1 : Int) (res : Int) (hf : X10_function p1 = some res) : GO p l e rmX10_function s m args below meth c K.1 vwCl (va_A WC s.heap.size) (MQ below (QC K.1 vwCl (some (ii res)) WC (c10 K a all saved savedMany errors text textLong rdd readMany waits opn place built builtMany parts partMany taken calls lacks callMany total values told toldLong) s.heap.size) args s 0 0 (va_A WC s.heap.size)) 2 0 0 0 [(0, .ref (a 0)), (1, ii p1)] [] (c10 K a all saved savedMany errors text textLong rdd readMany waits opn place built builtMany parts partMany taken calls lacks callMany total values told toldLong) := by
  rw [X10_function] at hf
  refine g_iload_n X dX10_function_0 1 rfl rfl ?_
  obtain ⟨v1, hc2, hf⟩ := Option.bind_eq_some_iff.mp hf
  refine g_callS X (As := [ii p1]) (st := []) (st1 := [ii v1]) (ws' := c10 K a all saved savedMany errors text textLong rdd readMany waits opn place built builtMany parts partMany taken calls lacks callMany total values told toldLong) (X10_kind_ok K l p1 v1 hc2) gX10_function_X10_kind rfl 1 (by decide +kernel) ⟨rfl, rfl⟩ ⟨Nat.le_of_ble_eq_true rfl, Nat.le_of_ble_eq_true rfl⟩ ⟨Nat.zero_le _, Nat.zero_le _⟩ rfl rfl (Nat.le_of_ble_eq_true rfl) dX10_function_1 SG.none rfl ?_
  refine g_iconst X dX10_function_4 ?_
  refine g_icmp_ne X hf 20 dX10_function_5 (by decide) (fun hf => ?_) (fun hf => ?_)
  · refine g_iconst X dX10_function_8 ?_
    refine g_bipush X dX10_function_9 (by decide +kernel) ?_
    refine g_iload_n X dX10_function_11 1 rfl rfl ?_
    obtain ⟨v3, hc4, hf⟩ := Option.bind_eq_some_iff.mp hf
    refine g_callS X (As := [ii p1]) (st := [ii 7, ii 0]) (st1 := [ii v3, ii 7, ii 0]) (ws' := c10 K a all saved savedMany errors text textLong rdd readMany waits opn place built builtMany parts partMany taken calls lacks callMany total values told toldLong) (X10_which_ok K l p1 v3 hc4) gX10_function_X10_which rfl 1 (by decide +kernel) ⟨rfl, rfl⟩ ⟨Nat.le_of_ble_eq_true rfl, Nat.le_of_ble_eq_true rfl⟩ ⟨Nat.zero_le _, Nat.zero_le _⟩ rfl rfl (Nat.le_of_ble_eq_true rfl) dX10_function_12 SG.none rfl ?_
    refine g_imul X dX10_function_15 ?_
    refine g_iadd X dX10_function_16 ?_
    refine g_goto X 51 dX10_function_17 (by decide) ?_
    cases hf
    exact g_iret X hr hlk dX10_function_51
  · refine g_iload_n X dX10_function_20 1 rfl rfl ?_
    obtain ⟨v5, hc6, hf⟩ := Option.bind_eq_some_iff.mp hf
    refine g_callS X (As := [ii p1]) (st := []) (st1 := [ii v5]) (ws' := c10 K a all saved savedMany errors text textLong rdd readMany waits opn place built builtMany parts partMany taken calls lacks callMany total values told toldLong) (X10_kind_ok K l p1 v5 hc6) gX10_function_X10_kind rfl 1 (by decide +kernel) ⟨rfl, rfl⟩ ⟨Nat.le_of_ble_eq_true rfl, Nat.le_of_ble_eq_true rfl⟩ ⟨Nat.zero_le _, Nat.zero_le _⟩ rfl rfl (Nat.le_of_ble_eq_true rfl) dX10_function_21 SG.none rfl ?_
    refine g_iconst X dX10_function_24 ?_
    refine g_icmp_ne X hf 41 dX10_function_25 (by decide) (fun hf => ?_) (fun hf => ?_)
    · refine g_bipush X dX10_function_28 (by decide +kernel) ?_
      refine g_bipush X dX10_function_30 (by decide +kernel) ?_
      refine g_iload_n X dX10_function_32 1 rfl rfl ?_
      obtain ⟨v7, hc8, hf⟩ := Option.bind_eq_some_iff.mp hf
      refine g_callS X (As := [ii p1]) (st := [ii 7, ii 42]) (st1 := [ii v7, ii 7, ii 42]) (ws' := c10 K a all saved savedMany errors text textLong rdd readMany waits opn place built builtMany parts partMany taken calls lacks callMany total values told toldLong) (X10_which_ok K l p1 v7 hc8) gX10_function_X10_which rfl 1 (by decide +kernel) ⟨rfl, rfl⟩ ⟨Nat.le_of_ble_eq_true rfl, Nat.le_of_ble_eq_true rfl⟩ ⟨Nat.zero_le _, Nat.zero_le _⟩ rfl rfl (Nat.le_of_ble_eq_true rfl) dX10_function_33 SG.none rfl ?_
      refine g_imul X dX10_function_36 ?_
      refine g_iadd X dX10_function_37 ?_
      refine g_goto X 51 dX10_function_38 (by decide) ?_
      cases hf
      exact g_iret X hr hlk dX10_function_51
    · refine g_bipush X dX10_function_41 (by decide +kernel) ?_
      refine g_bipush X dX10_function_43 (by decide +kernel) ?_
      refine g_iload_n X dX10_function_45 1 rfl rfl ?_
      obtain ⟨v9, hc10, hf⟩ := Option.bind_eq_some_iff.mp hf
      refine g_callS X (As := [ii p1]) (st := [ii 8, ii 84]) (st1 := [ii v9, ii 8, ii 84]) (ws' := c10 K a all saved savedMany errors text textLong rdd readMany waits opn place built builtMany parts partMany taken calls lacks callMany total values told toldLong) (X10_which_ok K l p1 v9 hc10) gX10_function_X10_which rfl 1 (by decide +kernel) ⟨rfl, rfl⟩ ⟨Nat.le_of_ble_eq_true rfl, Nat.le_of_ble_eq_true rfl⟩ ⟨Nat.zero_le _, Nat.zero_le _⟩ rfl rfl (Nat.le_of_ble_eq_true rfl) dX10_function_46 SG.none rfl ?_
      refine g_imul X dX10_function_49 ?_
      refine g_iadd X dX10_function_50 ?_
      cases hf
      exact g_iret X hr hlk dX10_function_51
set_option maxHeartbeats 4000000 in
set_option maxRecDepth 100000 in
theorem X10_function_ok (K : KE) (l : Launch) (a : Nat → Nat) (all : Arr) (saved : Arr) (savedMany : Int) (errors : Arr) (text : Arr) (textLong : Int) (rdd : Arr) (readMany : Int) (waits : Arr) (opn : Int) (place : Int) (built : Arr) (builtMany : Int) (parts : Arr) (partMany : Int) (taken : Arr) (calls : Arr) (lacks : Arr) (callMany : Int) (total : Int) (values : Arr) (told : Arr) (toldLong : Int) (p1 : Int) (res : Int) (hf : X10_function p1 = some res) : CT l K.1 vwCl (kT K) yX10_function wsX10_function rmX10_function [.ref (a 0), ii p1] (some (ii res)) (c10 K a all saved savedMany errors text textLong rdd readMany waits opn place built builtMany parts partMany taken calls lacks callMany total values told toldLong) (c10 K a all saved savedMany errors text textLong rdd readMany waits opn place built builtMany parts partMany taken calls lacks callMany total values told toldLong) :=
  CT.mk (cc := cX10_function) (maxL := 2) (ret := (some .int)) (by decide) rfl (Nat.le_of_ble_eq_true rfl) (fun p e s m below meth c X hr hlk => X10_function_go K l a _ X hr hlk all saved savedMany errors text textLong rdd readMany waits opn place built builtMany parts partMany taken calls lacks callMany total values told toldLong p1 res hf)
theorem wd_X10_append_cl117 : Jvm.Cond.constantLong RX10 117 (127) ∈ wsX10_append := by decide +kernel
theorem iw_X10_append_X10 : ∀ w ∈ u_ws RX10 TX10 23, w ∈ wsX10_append := by decide +kernel
theorem fl_X10_append_119 : Cond.fieldLink RX10 119 (TX10 5).1 (TX10 5).2.1 (TX10 5).2.2.1 ∈ wsX10_append := by decide +kernel
theorem fl_X10_append_19 : Cond.fieldLink RX10 19 (TX10 4).1 (TX10 4).2.1 (TX10 4).2.2.1 ∈ wsX10_append := by decide +kernel
def rmX10_append : Room := { frames := 1, cells := 0, slots := 0, locals := 25 }
def X10_append (errors : Arr) (text : Arr) (textLong : Int) (p1 : Int) : Option (Int × Arr × Arr × Int) := lgK p1 ((X10_in p1 0 127).bind (fun v1 => brEQ v1 0 ((X10_error errors (-2)).bind (fun w3 => some (w3.1, w3.2, text, textLong))) (brEQ textLong 120 ((X10_error errors (-4)).bind (fun w5 => some (w5.1, w5.2, text, textLong))) (wrK 120 text textLong p1 (fun f7 => some ((textLong + 1), errors, f7, (textLong + 1)))))))
set_option maxHeartbeats 4000000 in
set_option maxRecDepth 100000 in
theorem X10_append_go (K : KE) (l : Launch) (a : Nat → Nat) (WC : va_W) {p : Program} {e : Env} {s : State} {m : MethodId} {args : Array Value} {below : List Frame} {meth : Method} {c : Code} (X : CX p s m args c K.1 vwCl (kT K) (va_A WC s.heap.size) cX10_append 2 wsX10_append RX10) (hr : meth.sig.returnType = (some .int)) (hlk : meth.locks = false) (all : Arr) (saved : Arr) (savedMany : Int) (errors : Arr) (text : Arr) (textLong : Int) (rdd : Arr) (readMany : Int) (waits : Arr) (opn : Int) (place : Int) (built : Arr) (builtMany : Int) (parts : Arr) (partMany : Int) (taken : Arr) (calls : Arr) (lacks : Arr) (callMany : Int) (total : Int) (values : Arr) (told : Arr) (toldLong : Int) (p1 : Int) (res : Int × Arr × Arr × Int) (hf : X10_append errors text textLong p1 = some res) : GO p l e rmX10_append s m args below meth c K.1 vwCl (va_A WC s.heap.size) (MQ below (QC K.1 vwCl (some (ii res.1)) WC (c10 K a all saved savedMany res.2.1 res.2.2.1 res.2.2.2 rdd readMany waits opn place built builtMany parts partMany taken calls lacks callMany total values told toldLong) s.heap.size) args s 0 0 (va_A WC s.heap.size)) 2 0 0 0 [(0, .ref (a 0)), (1, ii p1)] [] (c10 K a all saved savedMany errors text textLong rdd readMany waits opn place built builtMany parts partMany taken calls lacks callMany total values told toldLong) := by
  rw [X10_append] at hf
  refine g_iload_n X dX10_append_0 1 rfl rfl ?_
  refine g_i2l X hf dX10_append_1 (fun hf => ?_)
  refine g_lconst X 0 dX10_append_2 (by decide +kernel) ?_
  refine g_ldc2 X 127 dX10_append_3 wd_X10_append_cl117 (by decide +kernel) ?_
  obtain ⟨v1, hc2, hf⟩ := Option.bind_eq_some_iff.mp hf
  refine g_callS X (As := [ll p1, ll 0, ll 127]) (st := []) (st1 := [ii v1]) (ws' := c10 K a all saved savedMany errors text textLong rdd readMany waits opn place built builtMany parts partMany taken calls lacks callMany total values told toldLong) (X10_in_ok K l p1 0 127 v1 hc2) gX10_append_X10_in rfl 3 (by decide +kernel) ⟨rfl, rfl⟩ ⟨Nat.le_of_ble_eq_true rfl, Nat.le_of_ble_eq_true rfl⟩ ⟨Nat.zero_le _, Nat.zero_le _⟩ rfl rfl (Nat.le_of_ble_eq_true rfl) dX10_append_6 SG.none rfl ?_
  refine g_if_ne X hf 19 dX10_append_9 (by decide) (fun hf => ?_) (fun hf => ?_)
  · refine g_aload_n X dX10_append_12 0 rfl rfl ?_
    refine g_bipush X dX10_append_13 (by decide +kernel) ?_
    obtain ⟨w3, hc4, hf⟩ := Option.bind_eq_some_iff.mp hf
    refine g_callV X (As := [ii (-2)]) (st := []) (st1 := [ii w3.1]) (ws' := c10 K a all saved savedMany w3.2 text textLong rdd readMany waits opn place built builtMany parts partMany taken calls lacks callMany total values told toldLong) (X10_error_ok K l a all saved savedMany errors text textLong rdd readMany waits opn place built builtMany parts partMany taken calls lacks callMany total values told toldLong (-2) w3 hc4) gX10_append_X10_error rfl 1 (by decide +kernel) ⟨rfl, rfl⟩ ⟨Nat.le_of_ble_eq_true rfl, Nat.le_of_ble_eq_true rfl⟩ ⟨Nat.zero_le _, Nat.zero_le _⟩ 0 rfl rfl rfl rfl (Nat.le_of_ble_eq_true rfl) dX10_append_15 (SG.all rfl) rfl ?_
    cases hf
    exact g_iret X hr hlk dX10_append_18
  · refine g_aload_n X dX10_append_19 0 rfl rfl ?_
    refine g_get X (v := ii textLong) 0 5 dX10_append_20 rfl rfl iw_X10_append_X10 (by decide) fl_X10_append_119 rfl ?_
    refine g_bipush X dX10_append_23 (by decide +kernel) ?_
    refine g_icmp_ne X hf 35 dX10_append_25 (by decide) (fun hf => ?_) (fun hf => ?_)
    · refine g_aload_n X dX10_append_28 0 rfl rfl ?_
      refine g_bipush X dX10_append_29 (by decide +kernel) ?_
      obtain ⟨w5, hc6, hf⟩ := Option.bind_eq_some_iff.mp hf
      refine g_callV X (As := [ii (-4)]) (st := []) (st1 := [ii w5.1]) (ws' := c10 K a all saved savedMany w5.2 text textLong rdd readMany waits opn place built builtMany parts partMany taken calls lacks callMany total values told toldLong) (X10_error_ok K l a all saved savedMany errors text textLong rdd readMany waits opn place built builtMany parts partMany taken calls lacks callMany total values told toldLong (-4) w5 hc6) gX10_append_X10_error rfl 1 (by decide +kernel) ⟨rfl, rfl⟩ ⟨Nat.le_of_ble_eq_true rfl, Nat.le_of_ble_eq_true rfl⟩ ⟨Nat.zero_le _, Nat.zero_le _⟩ 0 rfl rfl rfl rfl (Nat.le_of_ble_eq_true rfl) dX10_append_31 (SG.all rfl) rfl ?_
      cases hf
      exact g_iret X hr hlk dX10_append_34
    · refine g_aload_n X dX10_append_35 0 rfl rfl ?_
      refine g_get X (v := .ref (a 4)) 0 4 dX10_append_36 rfl rfl iw_X10_append_X10 (by decide) fl_X10_append_19 rfl ?_
      refine g_aload_n X dX10_append_39 0 rfl rfl ?_
      refine g_get X (v := ii textLong) 0 5 dX10_append_40 rfl rfl iw_X10_append_X10 (by decide) fl_X10_append_119 rfl ?_
      refine g_iload_n X dX10_append_43 1 rfl rfl ?_
      refine g_iast X hf (by decide) 4 0 dX10_append_44 rfl rfl (fun f7 => c10 K a all saved savedMany errors f7 textLong rdd readMany waits opn place built builtMany parts partMany taken calls lacks callMany total values told toldLong) (fun _ => rfl) (fun f7 hf => ?_)
      refine g_aload_n X dX10_append_45 0 rfl rfl ?_
      refine g_dup X dX10_append_46 rfl ?_
      refine g_get X (v := ii textLong) 0 5 dX10_append_47 rfl rfl iw_X10_append_X10 (by decide) fl_X10_append_119 rfl ?_
      refine g_iconst X dX10_append_50 ?_
      refine g_iadd X dX10_append_51 ?_
      refine g_puti X 0 5 dX10_append_52 rfl rfl iw_X10_append_X10 tyX10_ok nmX10 (by decide) fl_X10_append_119 rfl rfl (Nat.le_of_ble_eq_true rfl) (ws' := c10 K a all saved savedMany errors f7 (textLong + 1) rdd readMany waits opn place built builtMany parts partMany taken calls lacks callMany total values told toldLong) rfl ?_
      refine g_aload_n X dX10_append_55 0 rfl rfl ?_
      refine g_get X (v := ii (textLong + 1)) 0 5 dX10_append_56 rfl rfl iw_X10_append_X10 (by decide) fl_X10_append_119 rfl ?_
      cases hf
      exact g_iret X hr hlk dX10_append_59
set_option maxHeartbeats 4000000 in
set_option maxRecDepth 100000 in
theorem X10_append_ok (K : KE) (l : Launch) (a : Nat → Nat) (all : Arr) (saved : Arr) (savedMany : Int) (errors : Arr) (text : Arr) (textLong : Int) (rdd : Arr) (readMany : Int) (waits : Arr) (opn : Int) (place : Int) (built : Arr) (builtMany : Int) (parts : Arr) (partMany : Int) (taken : Arr) (calls : Arr) (lacks : Arr) (callMany : Int) (total : Int) (values : Arr) (told : Arr) (toldLong : Int) (p1 : Int) (res : Int × Arr × Arr × Int) (hf : X10_append errors text textLong p1 = some res) : CT l K.1 vwCl (kT K) yX10_append wsX10_append rmX10_append [.ref (a 0), ii p1] (some (ii res.1)) (c10 K a all saved savedMany errors text textLong rdd readMany waits opn place built builtMany parts partMany taken calls lacks callMany total values told toldLong) (c10 K a all saved savedMany res.2.1 res.2.2.1 res.2.2.2 rdd readMany waits opn place built builtMany parts partMany taken calls lacks callMany total values told toldLong) :=
  CT.mk (cc := cX10_append) (maxL := 2) (ret := (some .int)) (by decide) rfl (Nat.le_of_ble_eq_true rfl) (fun p e s m below meth c X hr hlk => X10_append_go K l a _ X hr hlk all saved savedMany errors text textLong rdd readMany waits opn place built builtMany parts partMany taken calls lacks callMany total values told toldLong p1 res hf)
theorem iw_X10_clearText_X10 : ∀ w ∈ u_ws RX10 TX10 23, w ∈ wsX10_clearText := by decide +kernel
theorem fl_X10_clearText_119 : Cond.fieldLink RX10 119 (TX10 5).1 (TX10 5).2.1 (TX10 5).2.2.1 ∈ wsX10_clearText := by decide +kernel
def rmX10_clearText : Room := { frames := 0, cells := 0, slots := 0, locals := 0 }
def X10_clearText (textLong : Int) : Option (Int × Int) := some (textLong, 0)
set_option maxHeartbeats 4000000 in
set_option maxRecDepth 100000 in
theorem X10_clearText_go (K : KE) (l : Launch) (a : Nat → Nat) (WC : va_W) {p : Program} {e : Env} {s : State} {m : MethodId} {args : Array Value} {below : List Frame} {meth : Method} {c : Code} (X : CX p s m args c K.1 vwCl (kT K) (va_A WC s.heap.size) cX10_clearText 2 wsX10_clearText RX10) (hr : meth.sig.returnType = (some .int)) (hlk : meth.locks = false) (all : Arr) (saved : Arr) (savedMany : Int) (errors : Arr) (text : Arr) (textLong : Int) (rdd : Arr) (readMany : Int) (waits : Arr) (opn : Int) (place : Int) (built : Arr) (builtMany : Int) (parts : Arr) (partMany : Int) (taken : Arr) (calls : Arr) (lacks : Arr) (callMany : Int) (total : Int) (values : Arr) (told : Arr) (toldLong : Int) (res : Int × Int) (hf : X10_clearText textLong = some res) : GO p l e rmX10_clearText s m args below meth c K.1 vwCl (va_A WC s.heap.size) (MQ below (QC K.1 vwCl (some (ii res.1)) WC (c10 K a all saved savedMany errors text res.2 rdd readMany waits opn place built builtMany parts partMany taken calls lacks callMany total values told toldLong) s.heap.size) args s 0 0 (va_A WC s.heap.size)) 2 0 0 0 [(0, .ref (a 0))] [] (c10 K a all saved savedMany errors text textLong rdd readMany waits opn place built builtMany parts partMany taken calls lacks callMany total values told toldLong) := by
  rw [X10_clearText] at hf
  refine g_aload_n X dX10_clearText_0 0 rfl rfl ?_
  refine g_get X (v := ii textLong) 0 5 dX10_clearText_1 rfl rfl iw_X10_clearText_X10 (by decide) fl_X10_clearText_119 rfl ?_
  refine g_istore_n X (lv' := [(1, ii textLong), (0, .ref (a 0))]) dX10_clearText_4 rfl (by decide) rfl ?_
  refine g_aload_n X dX10_clearText_5 1 rfl rfl ?_
  refine g_iconst X dX10_clearText_6 ?_
  refine g_puti X 0 5 dX10_clearText_7 rfl rfl iw_X10_clearText_X10 tyX10_ok nmX10 (by decide) fl_X10_clearText_119 rfl rfl (Nat.le_of_ble_eq_true rfl) (ws' := c10 K a all saved savedMany errors text 0 rdd readMany waits opn place built builtMany parts partMany taken calls lacks callMany total values told toldLong) rfl ?_
  refine g_iload_n X dX10_clearText_10 0 rfl rfl ?_
  cases hf
  exact g_iret X hr hlk dX10_clearText_11
set_option maxHeartbeats 4000000 in
set_option maxRecDepth 100000 in
theorem X10_clearText_ok (K : KE) (l : Launch) (a : Nat → Nat) (all : Arr) (saved : Arr) (savedMany : Int) (errors : Arr) (text : Arr) (textLong : Int) (rdd : Arr) (readMany : Int) (waits : Arr) (opn : Int) (place : Int) (built : Arr) (builtMany : Int) (parts : Arr) (partMany : Int) (taken : Arr) (calls : Arr) (lacks : Arr) (callMany : Int) (total : Int) (values : Arr) (told : Arr) (toldLong : Int) (res : Int × Int) (hf : X10_clearText textLong = some res) : CT l K.1 vwCl (kT K) yX10_clearText wsX10_clearText rmX10_clearText [.ref (a 0)] (some (ii res.1)) (c10 K a all saved savedMany errors text textLong rdd readMany waits opn place built builtMany parts partMany taken calls lacks callMany total values told toldLong) (c10 K a all saved savedMany errors text res.2 rdd readMany waits opn place built builtMany parts partMany taken calls lacks callMany total values told toldLong) :=
  CT.mk (cc := cX10_clearText) (maxL := 2) (ret := (some .int)) (by decide) rfl (Nat.le_of_ble_eq_true rfl) (fun p e s m below meth c X hr hlk => X10_clearText_go K l a _ X hr hlk all saved savedMany errors text textLong rdd readMany waits opn place built builtMany parts partMany taken calls lacks callMany total values told toldLong res hf)
theorem iw_X10_here_X10 : ∀ w ∈ u_ws RX10 TX10 23, w ∈ wsX10_here := by decide +kernel
theorem fl_X10_here_119 : Cond.fieldLink RX10 119 (TX10 5).1 (TX10 5).2.1 (TX10 5).2.2.1 ∈ wsX10_here := by decide +kernel
theorem fl_X10_here_19 : Cond.fieldLink RX10 19 (TX10 4).1 (TX10 4).2.1 (TX10 4).2.2.1 ∈ wsX10_here := by decide +kernel
def rmX10_here : Room := { frames := 0, cells := 0, slots := 0, locals := 0 }
def X10_here (text : Arr) (textLong : Int) (p1 : Int) : Option (Int) := brLT p1 textLong (rdK 120 text p1 (fun v1 => some v1)) (some (-1))
set_option maxHeartbeats 4000000 in
set_option maxRecDepth 100000 in
theorem X10_here_go (K : KE) (l : Launch) (a : Nat → Nat) (WC : va_W) {p : Program} {e : Env} {s : State} {m : MethodId} {args : Array Value} {below : List Frame} {meth : Method} {c : Code} (X : CX p s m args c K.1 vwCl (kT K) (va_A WC s.heap.size) cX10_here 2 wsX10_here RX10) (hr : meth.sig.returnType = (some .int)) (hlk : meth.locks = false) (all : Arr) (saved : Arr) (savedMany : Int) (errors : Arr) (text : Arr) (textLong : Int) (rdd : Arr) (readMany : Int) (waits : Arr) (opn : Int) (place : Int) (built : Arr) (builtMany : Int) (parts : Arr) (partMany : Int) (taken : Arr) (calls : Arr) (lacks : Arr) (callMany : Int) (total : Int) (values : Arr) (told : Arr) (toldLong : Int) (p1 : Int) (res : Int) (hf : X10_here text textLong p1 = some res) : GO p l e rmX10_here s m args below meth c K.1 vwCl (va_A WC s.heap.size) (MQ below (QC K.1 vwCl (some (ii res)) WC (c10 K a all saved savedMany errors text textLong rdd readMany waits opn place built builtMany parts partMany taken calls lacks callMany total values told toldLong) s.heap.size) args s 0 0 (va_A WC s.heap.size)) 2 0 0 0 [(0, .ref (a 0)), (1, ii p1)] [] (c10 K a all saved savedMany errors text textLong rdd readMany waits opn place built builtMany parts partMany taken calls lacks callMany total values told toldLong) := by
  rw [X10_here] at hf
  refine g_iload_n X dX10_here_0 1 rfl rfl ?_
  refine g_aload_n X dX10_here_1 0 rfl rfl ?_
  refine g_get X (v := ii textLong) 0 5 dX10_here_2 rfl rfl iw_X10_here_X10 (by decide) fl_X10_here_119 rfl ?_
  refine g_icmp_ge X hf 17 dX10_here_5 (by decide) (fun hf => ?_) (fun hf => ?_)
  · refine g_aload_n X dX10_here_8 0 rfl rfl ?_
    refine g_get X (v := .ref (a 4)) 0 4 dX10_here_9 rfl rfl iw_X10_here_X10 (by decide) fl_X10_here_19 rfl ?_
    refine g_iload_n X dX10_here_12 1 rfl rfl ?_
    refine g_iald X hf (by decide) 4 0 dX10_here_13 rfl rfl (fun v1 hf => ?_)
    refine g_goto X 18 dX10_here_14 (by decide) ?_
    cases hf
    exact g_iret X hr hlk dX10_here_18
  · refine g_iconst X dX10_here_17 ?_
    cases hf
    exact g_iret X hr hlk dX10_here_18
set_option maxHeartbeats 4000000 in
set_option maxRecDepth 100000 in
theorem X10_here_ok (K : KE) (l : Launch) (a : Nat → Nat) (all : Arr) (saved : Arr) (savedMany : Int) (errors : Arr) (text : Arr) (textLong : Int) (rdd : Arr) (readMany : Int) (waits : Arr) (opn : Int) (place : Int) (built : Arr) (builtMany : Int) (parts : Arr) (partMany : Int) (taken : Arr) (calls : Arr) (lacks : Arr) (callMany : Int) (total : Int) (values : Arr) (told : Arr) (toldLong : Int) (p1 : Int) (res : Int) (hf : X10_here text textLong p1 = some res) : CT l K.1 vwCl (kT K) yX10_here wsX10_here rmX10_here [.ref (a 0), ii p1] (some (ii res)) (c10 K a all saved savedMany errors text textLong rdd readMany waits opn place built builtMany parts partMany taken calls lacks callMany total values told toldLong) (c10 K a all saved savedMany errors text textLong rdd readMany waits opn place built builtMany parts partMany taken calls lacks callMany total values told toldLong) :=
  CT.mk (cc := cX10_here) (maxL := 2) (ret := (some .int)) (by decide) rfl (Nat.le_of_ble_eq_true rfl) (fun p e s m below meth c X hr hlk => X10_here_go K l a _ X hr hlk all saved savedMany errors text textLong rdd readMany waits opn place built builtMany parts partMany taken calls lacks callMany total values told toldLong p1 res hf)
theorem wd_X10_isDigit_cl122 : Jvm.Cond.constantLong RX10 122 (48) ∈ wsX10_isDigit := by decide +kernel
theorem wd_X10_isDigit_cl124 : Jvm.Cond.constantLong RX10 124 (57) ∈ wsX10_isDigit := by decide +kernel
def rmX10_isDigit : Room := { frames := 1, cells := 0, slots := 0, locals := 25 }
def X10_isDigit (p0 : Int) : Option (Int) := lgK p0 ((X10_in p0 48 57).bind (fun v1 => boK v1 (some v1)))
set_option maxHeartbeats 4000000 in
set_option maxRecDepth 100000 in
theorem X10_isDigit_go (K : KE) (l : Launch) (WC : va_W) {p : Program} {e : Env} {s : State} {m : MethodId} {args : Array Value} {below : List Frame} {meth : Method} {c : Code} (X : CX p s m args c K.1 vwCl (kT K) (va_A WC s.heap.size) cX10_isDigit 1 wsX10_isDigit RX10) (hr : meth.sig.returnType = (some .boolean)) (hlk : meth.locks = false) (p0 : Int) (res : Int) (hf : X10_isDigit p0 = some res) : GO p l e rmX10_isDigit s m args below meth c K.1 vwCl (va_A WC s.heap.size) (MQ below (QC K.1 vwCl (some (ii res)) WC ([]) s.heap.size) args s 0 0 (va_A WC s.heap.size)) 1 0 0 0 [(0, ii p0)] [] ([]) := by
  rw [X10_isDigit] at hf
  refine g_iload_n X dX10_isDigit_0 0 rfl rfl ?_
  refine g_i2l X hf dX10_isDigit_1 (fun hf => ?_)
  refine g_ldc2 X 48 dX10_isDigit_2 wd_X10_isDigit_cl122 (by decide +kernel) ?_
  refine g_ldc2 X 57 dX10_isDigit_5 wd_X10_isDigit_cl124 (by decide +kernel) ?_
  obtain ⟨v1, hc2, hf⟩ := Option.bind_eq_some_iff.mp hf
  refine g_callS X (As := [ll p0, ll 48, ll 57]) (st := []) (st1 := [ii v1]) (ws' := []) (X10_in_ok K l p0 48 57 v1 hc2) gX10_isDigit_X10_in rfl 3 (by decide +kernel) ⟨rfl, rfl⟩ ⟨Nat.le_of_ble_eq_true rfl, Nat.le_of_ble_eq_true rfl⟩ ⟨Nat.zero_le _, Nat.zero_le _⟩ rfl rfl (Nat.le_of_ble_eq_true rfl) dX10_isDigit_8 SG.none rfl ?_
  obtain ⟨hb3, hf⟩ := boK_some hf
  cases hf
  exact g_zret X hb3 hr hlk dX10_isDigit_11
set_option maxHeartbeats 4000000 in
set_option maxRecDepth 100000 in
theorem X10_isDigit_ok (K : KE) (l : Launch) (p0 : Int) (res : Int) (hf : X10_isDigit p0 = some res) : CT l K.1 vwCl (kT K) yX10_isDigit wsX10_isDigit rmX10_isDigit [ii p0] (some (ii res)) ([]) ([]) :=
  CT.mk (cc := cX10_isDigit) (maxL := 1) (ret := (some .boolean)) (by decide) rfl (Nat.le_of_ble_eq_true rfl) (fun p e s m below meth c X hr hlk => X10_isDigit_go K l  _ X hr hlk p0 res hf)
theorem wd_X10_nodeOf_cl129 : Jvm.Cond.constantLong RX10 129 (97) ∈ wsX10_nodeOf := by decide +kernel
theorem wd_X10_nodeOf_cl131 : Jvm.Cond.constantLong RX10 131 (102) ∈ wsX10_nodeOf := by decide +kernel
theorem wd_X10_nodeOf_cl133 : Jvm.Cond.constantLong RX10 133 (65) ∈ wsX10_nodeOf := by decide +kernel
theorem wd_X10_nodeOf_cl135 : Jvm.Cond.constantLong RX10 135 (70) ∈ wsX10_nodeOf := by decide +kernel
theorem wd_X10_nodeOf_cl137 : Jvm.Cond.constantLong RX10 137 (112) ∈ wsX10_nodeOf := by decide +kernel
theorem iw_X10_nodeOf_X10 : ∀ w ∈ u_ws RX10 TX10 23, w ∈ wsX10_nodeOf := by decide +kernel
theorem fl_X10_nodeOf_7 : Cond.fieldLink RX10 7 (TX10 0).1 (TX10 0).2.1 (TX10 0).2.2.1 ∈ wsX10_nodeOf := by decide +kernel
def rmX10_nodeOf : Room := { frames := 1, cells := 0, slots := 0, locals := 25 }
def X10_nodeOf (all : Arr) (p1 : Int) : Option (Int) := brEQ p1 120 (brEQ p1 120 ((X10_node 1 0 0).bind (fun v1 => some v1)) ((X10_node 2 0 0).bind (fun v3 => some v3))) (brEQ p1 121 (brEQ p1 120 ((X10_node 1 0 0).bind (fun v5 => some v5)) ((X10_node 2 0 0).bind (fun v7 => some v7))) (lgK p1 ((X10_in p1 97 102).bind (fun v9 => brEQ v9 0 (lgK p1 ((X10_in p1 65 70).bind (fun v11 => brEQ v11 0 (lgK p1 (rdK 186 all 116 (fun v13 => lgK ((112 + v13) - 1) ((X10_in p1 112 ((112 + v13) - 1)).bind (fun v14 => brEQ v14 0 (some (-1)) ((X10_node 5 (p1 - 112) 0).bind (fun v16 => some v16))))))) ((X10_node 4 (p1 - 65) 0).bind (fun v18 => some v18))))) ((X10_node 3 (p1 - 97) 0).bind (fun v20 => some v20))))))
set_option maxHeartbeats 4000000 in
set_option maxRecDepth 100000 in
theorem X10_nodeOf_go (K : KE) (l : Launch) (a : Nat → Nat) (WC : va_W) {p : Program} {e : Env} {s : State} {m : MethodId} {args : Array Value} {below : List Frame} {meth : Method} {c : Code} (X : CX p s m args c K.1 vwCl (kT K) (va_A WC s.heap.size) cX10_nodeOf 2 wsX10_nodeOf RX10) (hr : meth.sig.returnType = (some .int)) (hlk : meth.locks = false) (all : Arr) (saved : Arr) (savedMany : Int) (errors : Arr) (text : Arr) (textLong : Int) (rdd : Arr) (readMany : Int) (waits : Arr) (opn : Int) (place : Int) (built : Arr) (builtMany : Int) (parts : Arr) (partMany : Int) (taken : Arr) (calls : Arr) (lacks : Arr) (callMany : Int) (total : Int) (values : Arr) (told : Arr) (toldLong : Int) (p1 : Int) (res : Int) (hf : X10_nodeOf all p1 = some res) : GO p l e rmX10_nodeOf s m args below meth c K.1 vwCl (va_A WC s.heap.size) (MQ below (QC K.1 vwCl (some (ii res)) WC (c10 K a all saved savedMany errors text textLong rdd readMany waits opn place built builtMany parts partMany taken calls lacks callMany total values told toldLong) s.heap.size) args s 0 0 (va_A WC s.heap.size)) 2 0 0 0 [(0, .ref (a 0)), (1, ii p1)] [] (c10 K a all saved savedMany errors text textLong rdd readMany waits opn place built builtMany parts partMany taken calls lacks callMany total values told toldLong) := by
  rw [X10_nodeOf] at hf
  refine g_iload_n X dX10_nodeOf_0 1 rfl rfl ?_
  refine g_bipush X dX10_nodeOf_1 (by decide +kernel) ?_
  refine g_icmp_eq X hf 12 dX10_nodeOf_3 (by decide) (fun hf => ?_) (fun hf => ?_)
  · refine g_iload_n X dX10_nodeOf_12 1 rfl rfl ?_
    refine g_bipush X dX10_nodeOf_13 (by decide +kernel) ?_
    refine g_icmp_ne X hf 22 dX10_nodeOf_15 (by decide) (fun hf => ?_) (fun hf => ?_)
    · refine g_iconst X dX10_nodeOf_18 ?_
      refine g_goto X 23 dX10_nodeOf_19 (by decide) ?_
      refine g_iconst X dX10_nodeOf_23 ?_
      refine g_iconst X dX10_nodeOf_24 ?_
      obtain ⟨v1, hc2, hf⟩ := Option.bind_eq_some_iff.mp hf
      refine g_callS X (As := [ii 1, ii 0, ii 0]) (st := []) (st1 := [ii v1]) (ws' := c10 K a all saved savedMany errors text textLong rdd readMany waits opn place built builtMany parts partMany taken calls lacks callMany total values told toldLong) (X10_node_ok K l 1 0 0 v1 hc2) gX10_nodeOf_X10_node rfl 3 (by decide +kernel) ⟨rfl, rfl⟩ ⟨Nat.le_of_ble_eq_true rfl, Nat.le_of_ble_eq_true rfl⟩ ⟨Nat.zero_le _, Nat.zero_le _⟩ rfl rfl (Nat.le_of_ble_eq_true rfl) dX10_nodeOf_25 SG.none rfl ?_
      cases hf
      exact g_iret X hr hlk dX10_nodeOf_28
    · refine g_iconst X dX10_nodeOf_22 ?_
      refine g_iconst X dX10_nodeOf_23 ?_
      refine g_iconst X dX10_nodeOf_24 ?_
      obtain ⟨v3, hc4, hf⟩ := Option.bind_eq_some_iff.mp hf
      refine g_callS X (As := [ii 2, ii 0, ii 0]) (st := []) (st1 := [ii v3]) (ws' := c10 K a all saved savedMany errors text textLong rdd readMany waits opn place built builtMany parts partMany taken calls lacks callMany total values told toldLong) (X10_node_ok K l 2 0 0 v3 hc4) gX10_nodeOf_X10_node rfl 3 (by decide +kernel) ⟨rfl, rfl⟩ ⟨Nat.le_of_ble_eq_true rfl, Nat.le_of_ble_eq_true rfl⟩ ⟨Nat.zero_le _, Nat.zero_le _⟩ rfl rfl (Nat.le_of_ble_eq_true rfl) dX10_nodeOf_25 SG.none rfl ?_
      cases hf
      exact g_iret X hr hlk dX10_nodeOf_28
  · refine g_iload_n X dX10_nodeOf_6 1 rfl rfl ?_
    refine g_bipush X dX10_nodeOf_7 (by decide +kernel) ?_
    refine g_icmp_ne X hf 29 dX10_nodeOf_9 (by decide) (fun hf => ?_) (fun hf => ?_)
    · refine g_iload_n X dX10_nodeOf_12 1 rfl rfl ?_
      refine g_bipush X dX10_nodeOf_13 (by decide +kernel) ?_
      refine g_icmp_ne X hf 22 dX10_nodeOf_15 (by decide) (fun hf => ?_) (fun hf => ?_)
      · refine g_iconst X dX10_nodeOf_18 ?_
        refine g_goto X 23 dX10_nodeOf_19 (by decide) ?_
        refine g_iconst X dX10_nodeOf_23 ?_
        refine g_iconst X dX10_nodeOf_24 ?_
        obtain ⟨v5, hc6, hf⟩ := Option.bind_eq_some_iff.mp hf
        refine g_callS X (As := [ii 1, ii 0, ii 0]) (st := []) (st1 := [ii v5]) (ws' := c10 K a all saved savedMany errors text textLong rdd readMany waits opn place built builtMany parts partMany taken calls lacks callMany total values told toldLong) (X10_node_ok K l 1 0 0 v5 hc6) gX10_nodeOf_X10_node rfl 3 (by decide +kernel) ⟨rfl, rfl⟩ ⟨Nat.le_of_ble_eq_true rfl, Nat.le_of_ble_eq_true rfl⟩ ⟨Nat.zero_le _, Nat.zero_le _⟩ rfl rfl (Nat.le_of_ble_eq_true rfl) dX10_nodeOf_25 SG.none rfl ?_
        cases hf
        exact g_iret X hr hlk dX10_nodeOf_28
      · refine g_iconst X dX10_nodeOf_22 ?_
        refine g_iconst X dX10_nodeOf_23 ?_
        refine g_iconst X dX10_nodeOf_24 ?_
        obtain ⟨v7, hc8, hf⟩ := Option.bind_eq_some_iff.mp hf
        refine g_callS X (As := [ii 2, ii 0, ii 0]) (st := []) (st1 := [ii v7]) (ws' := c10 K a all saved savedMany errors text textLong rdd readMany waits opn place built builtMany parts partMany taken calls lacks callMany total values told toldLong) (X10_node_ok K l 2 0 0 v7 hc8) gX10_nodeOf_X10_node rfl 3 (by decide +kernel) ⟨rfl, rfl⟩ ⟨Nat.le_of_ble_eq_true rfl, Nat.le_of_ble_eq_true rfl⟩ ⟨Nat.zero_le _, Nat.zero_le _⟩ rfl rfl (Nat.le_of_ble_eq_true rfl) dX10_nodeOf_25 SG.none rfl ?_
        cases hf
        exact g_iret X hr hlk dX10_nodeOf_28
    · refine g_iload_n X dX10_nodeOf_29 1 rfl rfl ?_
      refine g_i2l X hf dX10_nodeOf_30 (fun hf => ?_)
      refine g_ldc2 X 97 dX10_nodeOf_31 wd_X10_nodeOf_cl129 (by decide +kernel) ?_
      refine g_ldc2 X 102 dX10_nodeOf_34 wd_X10_nodeOf_cl131 (by decide +kernel) ?_
      obtain ⟨v9, hc10, hf⟩ := Option.bind_eq_some_iff.mp hf
      refine g_callS X (As := [ll p1, ll 97, ll 102]) (st := []) (st1 := [ii v9]) (ws' := c10 K a all saved savedMany errors text textLong rdd readMany waits opn place built builtMany parts partMany taken calls lacks callMany total values told toldLong) (X10_in_ok K l p1 97 102 v9 hc10) gX10_nodeOf_X10_in rfl 3 (by decide +kernel) ⟨rfl, rfl⟩ ⟨Nat.le_of_ble_eq_true rfl, Nat.le_of_ble_eq_true rfl⟩ ⟨Nat.zero_le _, Nat.zero_le _⟩ rfl rfl (Nat.le_of_ble_eq_true rfl) dX10_nodeOf_37 SG.none rfl ?_
      refine g_if_eq X hf 53 dX10_nodeOf_40 (by decide) (fun hf => ?_) (fun hf => ?_)
      · refine g_iload_n X dX10_nodeOf_53 1 rfl rfl ?_
        refine g_i2l X hf dX10_nodeOf_54 (fun hf => ?_)
        refine g_ldc2 X 65 dX10_nodeOf_55 wd_X10_nodeOf_cl133 (by decide +kernel) ?_
        refine g_ldc2 X 70 dX10_nodeOf_58 wd_X10_nodeOf_cl135 (by decide +kernel) ?_
        obtain ⟨v11, hc12, hf⟩ := Option.bind_eq_some_iff.mp hf
        refine g_callS X (As := [ll p1, ll 65, ll 70]) (st := []) (st1 := [ii v11]) (ws' := c10 K a all saved savedMany errors text textLong rdd readMany waits opn place built builtMany parts partMany taken calls lacks callMany total values told toldLong) (X10_in_ok K l p1 65 70 v11 hc12) gX10_nodeOf_X10_in rfl 3 (by decide +kernel) ⟨rfl, rfl⟩ ⟨Nat.le_of_ble_eq_true rfl, Nat.le_of_ble_eq_true rfl⟩ ⟨Nat.zero_le _, Nat.zero_le _⟩ rfl rfl (Nat.le_of_ble_eq_true rfl) dX10_nodeOf_61 SG.none rfl ?_
        refine g_if_eq X hf 77 dX10_nodeOf_64 (by decide) (fun hf => ?_) (fun hf => ?_)
        · refine g_iload_n X dX10_nodeOf_77 1 rfl rfl ?_
          refine g_i2l X hf dX10_nodeOf_78 (fun hf => ?_)
          refine g_ldc2 X 112 dX10_nodeOf_79 wd_X10_nodeOf_cl137 (by decide +kernel) ?_
          refine g_bipush X dX10_nodeOf_82 (by decide +kernel) ?_
          refine g_aload_n X dX10_nodeOf_84 0 rfl rfl ?_
          refine g_get X (v := .ref (a 1)) 0 0 dX10_nodeOf_85 rfl rfl iw_X10_nodeOf_X10 (by decide) fl_X10_nodeOf_7 rfl ?_
          refine g_bipush X dX10_nodeOf_88 (by decide +kernel) ?_
          refine g_iald X hf (by decide) 1 0 dX10_nodeOf_90 rfl rfl (fun v13 hf => ?_)
          refine g_iadd X dX10_nodeOf_91 ?_
          refine g_iconst X dX10_nodeOf_92 ?_
          refine g_isub X dX10_nodeOf_93 ?_
          refine g_i2l X hf dX10_nodeOf_94 (fun hf => ?_)
          obtain ⟨v14, hc15, hf⟩ := Option.bind_eq_some_iff.mp hf
          refine g_callS X (As := [ll p1, ll 112, ll ((112 + v13) - 1)]) (st := []) (st1 := [ii v14]) (ws' := c10 K a all saved savedMany errors text textLong rdd readMany waits opn place built builtMany parts partMany taken calls lacks callMany total values told toldLong) (X10_in_ok K l p1 112 ((112 + v13) - 1) v14 hc15) gX10_nodeOf_X10_in rfl 3 (by decide +kernel) ⟨rfl, rfl⟩ ⟨Nat.le_of_ble_eq_true rfl, Nat.le_of_ble_eq_true rfl⟩ ⟨Nat.zero_le _, Nat.zero_le _⟩ rfl rfl (Nat.le_of_ble_eq_true rfl) dX10_nodeOf_95 SG.none rfl ?_
          refine g_if_eq X hf 113 dX10_nodeOf_98 (by decide) (fun hf => ?_) (fun hf => ?_)
          · refine g_iconst X dX10_nodeOf_113 ?_
            cases hf
            exact g_iret X hr hlk dX10_nodeOf_114
          · refine g_iconst X dX10_nodeOf_101 ?_
            refine g_iload_n X dX10_nodeOf_102 1 rfl rfl ?_
            refine g_bipush X dX10_nodeOf_103 (by decide +kernel) ?_
            refine g_isub X dX10_nodeOf_105 ?_
            refine g_iconst X dX10_nodeOf_106 ?_
            obtain ⟨v16, hc17, hf⟩ := Option.bind_eq_some_iff.mp hf
            refine g_callS X (As := [ii 5, ii (p1 - 112), ii 0]) (st := []) (st1 := [ii v16]) (ws' := c10 K a all saved savedMany errors text textLong rdd readMany waits opn place built builtMany parts partMany taken calls lacks callMany total values told toldLong) (X10_node_ok K l 5 (p1 - 112) 0 v16 hc17) gX10_nodeOf_X10_node rfl 3 (by decide +kernel) ⟨rfl, rfl⟩ ⟨Nat.le_of_ble_eq_true rfl, Nat.le_of_ble_eq_true rfl⟩ ⟨Nat.zero_le _, Nat.zero_le _⟩ rfl rfl (Nat.le_of_ble_eq_true rfl) dX10_nodeOf_107 SG.none rfl ?_
            refine g_goto X 114 dX10_nodeOf_110 (by decide) ?_
            cases hf
            exact g_iret X hr hlk dX10_nodeOf_114
        · refine g_iconst X dX10_nodeOf_67 ?_
          refine g_iload_n X dX10_nodeOf_68 1 rfl rfl ?_
          refine g_bipush X dX10_nodeOf_69 (by decide +kernel) ?_
          refine g_isub X dX10_nodeOf_71 ?_
          refine g_iconst X dX10_nodeOf_72 ?_
          obtain ⟨v18, hc19, hf⟩ := Option.bind_eq_some_iff.mp hf
          refine g_callS X (As := [ii 4, ii (p1 - 65), ii 0]) (st := []) (st1 := [ii v18]) (ws' := c10 K a all saved savedMany errors text textLong rdd readMany waits opn place built builtMany parts partMany taken calls lacks callMany total values told toldLong) (X10_node_ok K l 4 (p1 - 65) 0 v18 hc19) gX10_nodeOf_X10_node rfl 3 (by decide +kernel) ⟨rfl, rfl⟩ ⟨Nat.le_of_ble_eq_true rfl, Nat.le_of_ble_eq_true rfl⟩ ⟨Nat.zero_le _, Nat.zero_le _⟩ rfl rfl (Nat.le_of_ble_eq_true rfl) dX10_nodeOf_73 SG.none rfl ?_
          cases hf
          exact g_iret X hr hlk dX10_nodeOf_76
      · refine g_iconst X dX10_nodeOf_43 ?_
        refine g_iload_n X dX10_nodeOf_44 1 rfl rfl ?_
        refine g_bipush X dX10_nodeOf_45 (by decide +kernel) ?_
        refine g_isub X dX10_nodeOf_47 ?_
        refine g_iconst X dX10_nodeOf_48 ?_
        obtain ⟨v20, hc21, hf⟩ := Option.bind_eq_some_iff.mp hf
        refine g_callS X (As := [ii 3, ii (p1 - 97), ii 0]) (st := []) (st1 := [ii v20]) (ws' := c10 K a all saved savedMany errors text textLong rdd readMany waits opn place built builtMany parts partMany taken calls lacks callMany total values told toldLong) (X10_node_ok K l 3 (p1 - 97) 0 v20 hc21) gX10_nodeOf_X10_node rfl 3 (by decide +kernel) ⟨rfl, rfl⟩ ⟨Nat.le_of_ble_eq_true rfl, Nat.le_of_ble_eq_true rfl⟩ ⟨Nat.zero_le _, Nat.zero_le _⟩ rfl rfl (Nat.le_of_ble_eq_true rfl) dX10_nodeOf_49 SG.none rfl ?_
        cases hf
        exact g_iret X hr hlk dX10_nodeOf_52
set_option maxHeartbeats 4000000 in
set_option maxRecDepth 100000 in
theorem X10_nodeOf_ok (K : KE) (l : Launch) (a : Nat → Nat) (all : Arr) (saved : Arr) (savedMany : Int) (errors : Arr) (text : Arr) (textLong : Int) (rdd : Arr) (readMany : Int) (waits : Arr) (opn : Int) (place : Int) (built : Arr) (builtMany : Int) (parts : Arr) (partMany : Int) (taken : Arr) (calls : Arr) (lacks : Arr) (callMany : Int) (total : Int) (values : Arr) (told : Arr) (toldLong : Int) (p1 : Int) (res : Int) (hf : X10_nodeOf all p1 = some res) : CT l K.1 vwCl (kT K) yX10_nodeOf wsX10_nodeOf rmX10_nodeOf [.ref (a 0), ii p1] (some (ii res)) (c10 K a all saved savedMany errors text textLong rdd readMany waits opn place built builtMany parts partMany taken calls lacks callMany total values told toldLong) (c10 K a all saved savedMany errors text textLong rdd readMany waits opn place built builtMany parts partMany taken calls lacks callMany total values told toldLong) :=
  CT.mk (cc := cX10_nodeOf) (maxL := 2) (ret := (some .int)) (by decide) rfl (Nat.le_of_ble_eq_true rfl) (fun p e s m below meth c X hr hlk => X10_nodeOf_go K l a _ X hr hlk all saved savedMany errors text textLong rdd readMany waits opn place built builtMany parts partMany taken calls lacks callMany total values told toldLong p1 res hf)
theorem iw_X10_closes_X10 : ∀ w ∈ u_ws RX10 TX10 23, w ∈ wsX10_closes := by decide +kernel
theorem fl_X10_closes_157 : Cond.fieldLink RX10 157 (TX10 9).1 (TX10 9).2.1 (TX10 9).2.2.1 ∈ wsX10_closes := by decide +kernel
theorem fl_X10_closes_25 : Cond.fieldLink RX10 25 (TX10 8).1 (TX10 8).2.1 (TX10 8).2.2.1 ∈ wsX10_closes := by decide +kernel
theorem fl_X10_closes_139 : Cond.fieldLink RX10 139 (TX10 10).1 (TX10 10).2.1 (TX10 10).2.2.1 ∈ wsX10_closes := by decide +kernel
def rmX10_closes : Room := { frames := 1, cells := 0, slots := 0, locals := 21 }
def X10_closes_L0 (kx : Arr → Int → Int → Option (Int × Arr × Int × Int)) (text : Arr) (textLong : Int) : Nat → Arr → Int → Int → Option (Int × Arr × Int × Int)
  | 0, _, _, _ => none
  | n + 1, waits, opn, place => brLE opn 0 (some (1, waits, opn, place)) (rdK 30 waits (opn - 1) (fun v1 => wrK 30 waits (opn - 1) (v1 - 1) (fun f2 => (X10_here text textLong place).bind (fun v3 => rdK 30 f2 (opn - 1) (fun v5 => ltK (fun q6 : Int => brEQ v3 q6 (rdK 30 f2 (opn - 1) (fun v8 => brLE v8 0 (X10_closes_L0 kx text textLong n f2 (opn - 1) (place + 1)) (kx f2 opn (place + 1)))) (some (0, f2, opn, place))) (fun j7 => brLE v5 0 (j7 41) (j7 44)))))))
def X10_closes (text : Arr) (textLong : Int) (waits : Arr) (opn : Int) (place : Int) : Option (Int × Arr × Int × Int) := X10_closes_L0 (fun w9 w10 w11 => some (1, w9, w10, w11)) text textLong FU waits opn place
set_option maxHeartbeats 4000000 in
set_option maxRecDepth 100000 in
theorem X10_closes_L0_ok (K : KE) (l : Launch) (a : Nat → Nat) (WC : va_W) {p : Program} {e : Env} {s : State} {m : MethodId} {args : Array Value} {below : List Frame} {meth : Method} {c : Code} (X : CX p s m args c K.1 vwCl (kT K) (va_A WC s.heap.size) cX10_closes 1 wsX10_closes RX10) (hr : meth.sig.returnType = (some .boolean)) (hlk : meth.locks = false) (all : Arr) (saved : Arr) (savedMany : Int) (errors : Arr) (text : Arr) (textLong : Int) (rdd : Arr) (readMany : Int) (built : Arr) (builtMany : Int) (parts : Arr) (partMany : Int) (taken : Arr) (calls : Arr) (lacks : Arr) (callMany : Int) (total : Int) (values : Arr) (told : Arr) (toldLong : Int)  (res : Int × Arr × Int × Int) {kx : Arr → Int → Int → Option (Int × Arr × Int × Int)} : ∀ (n : Nat) (waits : Arr) (opn : Int) (place : Int), X10_closes_L0 kx text textLong n waits opn place = some res → (∀ (waitsz : Arr) (opnz : Int) (placez : Int), kx waitsz opnz placez = some res → GO p l e rmX10_closes s m args below meth c K.1 vwCl (va_A WC s.heap.size) (MQ below (QC K.1 vwCl (some (ii res.1)) WC (c10 K a all saved savedMany errors text textLong rdd readMany res.2.1 res.2.2.1 res.2.2.2 built builtMany parts partMany taken calls lacks callMany total values told toldLong) s.heap.size) args s 0 0 (va_A WC s.heap.size)) 1 0 0 80 [] [] (c10 K a all saved savedMany errors text textLong rdd readMany waitsz opnz placez built builtMany parts partMany taken calls lacks callMany total values told toldLong)) → GO p l e rmX10_closes s m args below meth c K.1 vwCl (va_A WC s.heap.size) (MQ below (QC K.1 vwCl (some (ii res.1)) WC (c10 K a all saved savedMany errors text textLong rdd readMany res.2.1 res.2.2.1 res.2.2.2 built builtMany parts partMany taken calls lacks callMany total values told toldLong) s.heap.size) args s 0 0 (va_A WC s.heap.size)) 1 0 0 0 [(0, .ref (a 0))] [] (c10 K a all saved savedMany errors text textLong rdd readMany waits opn place built builtMany parts partMany taken calls lacks callMany total values told toldLong) := by
  intro n
  induction n with
  | zero =>
    intro waits opn place hf _
    rw [X10_closes_L0] at hf
    cases hf
  | succ n ih =>
    intro waits opn place hf hk
    rw [X10_closes_L0] at hf
    refine g_aload_n X dX10_closes_0 0 rfl rfl ?_
    refine g_get X (v := ii opn) 0 9 dX10_closes_1 rfl rfl iw_X10_closes_X10 (by decide) fl_X10_closes_157 rfl ?_
    refine g_if_le X hf 95 dX10_closes_4 (by decide) (fun hf => ?_) (fun hf => ?_)
    · refine g_iconst X dX10_closes_95 ?_
      cases hf
      exact g_zret X (Or.inr rfl) hr hlk dX10_closes_96
    · refine g_aload_n X dX10_closes_7 0 rfl rfl ?_
      refine g_get X (v := .ref (a 6)) 0 8 dX10_closes_8 rfl rfl iw_X10_closes_X10 (by decide) fl_X10_closes_25 rfl ?_
      refine g_aload_n X dX10_closes_11 0 rfl rfl ?_
      refine g_get X (v := ii opn) 0 9 dX10_closes_12 rfl rfl iw_X10_closes_X10 (by decide) fl_X10_closes_157 rfl ?_
      refine g_iconst X dX10_closes_15 ?_
      refine g_isub X dX10_closes_16 ?_
      refine g_dup2 X dX10_closes_17 rfl rfl ?_
      refine g_iald X hf (by decide) 6 0 dX10_closes_18 rfl rfl (fun v1 hf => ?_)
      refine g_iconst X dX10_closes_19 ?_
      refine g_isub X dX10_closes_20 ?_
      refine g_iast X hf (by decide) 6 0 dX10_closes_21 rfl rfl (fun f2 => c10 K a all saved savedMany errors text textLong rdd readMany f2 opn place built builtMany parts partMany taken calls lacks callMany total values told toldLong) (fun _ => rfl) (fun f2 hf => ?_)
      refine g_aload_n X dX10_closes_22 0 rfl rfl ?_
      refine g_aload_n X dX10_closes_23 0 rfl rfl ?_
      refine g_get X (v := ii place) 0 10 dX10_closes_24 rfl rfl iw_X10_closes_X10 (by decide) fl_X10_closes_139 rfl ?_
      obtain ⟨v3, hc4, hf⟩ := Option.bind_eq_some_iff.mp hf
      refine g_callV X (As := [ii place]) (st := []) (st1 := [ii v3]) (ws' := c10 K a all saved savedMany errors text textLong rdd readMany f2 opn place built builtMany parts partMany taken calls lacks callMany total values told toldLong) (X10_here_ok K l a all saved savedMany errors text textLong rdd readMany f2 opn place built builtMany parts partMany taken calls lacks callMany total values told toldLong place v3 hc4) gX10_closes_X10_here rfl 1 (by decide +kernel) ⟨rfl, rfl⟩ ⟨Nat.le_of_ble_eq_true rfl, Nat.le_of_ble_eq_true rfl⟩ ⟨Nat.zero_le _, Nat.zero_le _⟩ 0 rfl rfl rfl rfl (Nat.le_of_ble_eq_true rfl) dX10_closes_27 (SG.all rfl) rfl ?_
      refine g_aload_n X dX10_closes_30 0 rfl rfl ?_
      refine g_get X (v := .ref (a 6)) 0 8 dX10_closes_31 rfl rfl iw_X10_closes_X10 (by decide) fl_X10_closes_25 rfl ?_
      refine g_aload_n X dX10_closes_34 0 rfl rfl ?_
      refine g_get X (v := ii opn) 0 9 dX10_closes_35 rfl rfl iw_X10_closes_X10 (by decide) fl_X10_closes_157 rfl ?_
      refine g_iconst X dX10_closes_38 ?_
      refine g_isub X dX10_closes_39 ?_
      refine g_iald X hf (by decide) 6 0 dX10_closes_40 rfl rfl (fun v5 hf => ?_)
      refine g_let (G := fun q6 : Int => GO p l e rmX10_closes s m args below meth c K.1 vwCl (va_A WC s.heap.size) (MQ below (QC K.1 vwCl (some (ii res.1)) WC (c10 K a all saved savedMany errors text textLong rdd readMany res.2.1 res.2.2.1 res.2.2.2 built builtMany parts partMany taken calls lacks callMany total values told toldLong) s.heap.size) args s 0 0 (va_A WC s.heap.size)) 1 0 0 51 [(0, .ref (a 0))] [ii q6, ii v3] (c10 K a all saved savedMany errors text textLong rdd readMany f2 opn place built builtMany parts partMany taken calls lacks callMany total values told toldLong)) hf (fun q6 hf => ?_) (fun j7 hj7 hf => ?_)
      · refine g_icmp_eq X hf 56 dX10_closes_51 (by decide) (fun hf => ?_) (fun hf => ?_)
        · refine g_aload_n X dX10_closes_56 0 rfl rfl ?_
          refine g_dup X dX10_closes_57 rfl ?_
          refine g_get X (v := ii place) 0 10 dX10_closes_58 rfl rfl iw_X10_closes_X10 (by decide) fl_X10_closes_139 rfl ?_
          refine g_iconst X dX10_closes_61 ?_
          refine g_iadd X dX10_closes_62 ?_
          refine g_puti X 0 10 dX10_closes_63 rfl rfl iw_X10_closes_X10 tyX10_ok nmX10 (by decide) fl_X10_closes_139 rfl rfl (Nat.le_of_ble_eq_true rfl) (ws' := c10 K a all saved savedMany errors text textLong rdd readMany f2 opn (place + 1) built builtMany parts partMany taken calls lacks callMany total values told toldLong) rfl ?_
          refine g_aload_n X dX10_closes_66 0 rfl rfl ?_
          refine g_get X (v := .ref (a 6)) 0 8 dX10_closes_67 rfl rfl iw_X10_closes_X10 (by decide) fl_X10_closes_25 rfl ?_
          refine g_aload_n X dX10_closes_70 0 rfl rfl ?_
          refine g_get X (v := ii opn) 0 9 dX10_closes_71 rfl rfl iw_X10_closes_X10 (by decide) fl_X10_closes_157 rfl ?_
          refine g_iconst X dX10_closes_74 ?_
          refine g_isub X dX10_closes_75 ?_
          refine g_iald X hf (by decide) 6 0 dX10_closes_76 rfl rfl (fun v8 hf => ?_)
          refine g_if_le X hf 82 dX10_closes_77 (by decide) (fun hf => ?_) (fun hf => ?_)
          · refine g_aload_n X dX10_closes_82 0 rfl rfl ?_
            refine g_dup X dX10_closes_83 rfl ?_
            refine g_get X (v := ii opn) 0 9 dX10_closes_84 rfl rfl iw_X10_closes_X10 (by decide) fl_X10_closes_157 rfl ?_
            refine g_iconst X dX10_closes_87 ?_
            refine g_isub X dX10_closes_88 ?_
            refine g_puti X 0 9 dX10_closes_89 rfl rfl iw_X10_closes_X10 tyX10_ok nmX10 (by decide) fl_X10_closes_157 rfl rfl (Nat.le_of_ble_eq_true rfl) (ws' := c10 K a all saved savedMany errors text textLong rdd readMany f2 (opn - 1) (place + 1) built builtMany parts partMany taken calls lacks callMany total values told toldLong) rfl ?_
            refine g_goto X 0 dX10_closes_92 (by decide) ?_
            exact ih f2 (opn - 1) (place + 1) hf hk
          · refine g_sub (lv' := []) [] rfl ?_
            exact hk f2 opn (place + 1) hf
        · refine g_iconst X dX10_closes_54 ?_
          cases hf
          exact g_zret X (Or.inl rfl) hr hlk dX10_closes_55
      · refine g_if_le X hf 49 dX10_closes_41 (by decide) (fun hf => ?_) (fun hf => ?_)
        · refine g_bipush X dX10_closes_49 (by decide +kernel) ?_
          exact hj7 41 hf
        · refine g_bipush X dX10_closes_44 (by decide +kernel) ?_
          refine g_goto X 51 dX10_closes_46 (by decide) ?_
          exact hj7 44 hf
set_option maxHeartbeats 4000000 in
set_option maxRecDepth 100000 in
theorem X10_closes_go (K : KE) (l : Launch) (a : Nat → Nat) (WC : va_W) {p : Program} {e : Env} {s : State} {m : MethodId} {args : Array Value} {below : List Frame} {meth : Method} {c : Code} (X : CX p s m args c K.1 vwCl (kT K) (va_A WC s.heap.size) cX10_closes 1 wsX10_closes RX10) (hr : meth.sig.returnType = (some .boolean)) (hlk : meth.locks = false) (all : Arr) (saved : Arr) (savedMany : Int) (errors : Arr) (text : Arr) (textLong : Int) (rdd : Arr) (readMany : Int) (waits : Arr) (opn : Int) (place : Int) (built : Arr) (builtMany : Int) (parts : Arr) (partMany : Int) (taken : Arr) (calls : Arr) (lacks : Arr) (callMany : Int) (total : Int) (values : Arr) (told : Arr) (toldLong : Int) (res : Int × Arr × Int × Int) (hf : X10_closes text textLong waits opn place = some res) : GO p l e rmX10_closes s m args below meth c K.1 vwCl (va_A WC s.heap.size) (MQ below (QC K.1 vwCl (some (ii res.1)) WC (c10 K a all saved savedMany errors text textLong rdd readMany res.2.1 res.2.2.1 res.2.2.2 built builtMany parts partMany taken calls lacks callMany total values told toldLong) s.heap.size) args s 0 0 (va_A WC s.heap.size)) 1 0 0 0 [(0, .ref (a 0))] [] (c10 K a all saved savedMany errors text textLong rdd readMany waits opn place built builtMany parts partMany taken calls lacks callMany total values told toldLong) := by
  rw [X10_closes] at hf
  refine X10_closes_L0_ok K l a WC X hr hlk all saved savedMany errors text textLong rdd readMany built builtMany parts partMany taken calls lacks callMany total values told toldLong res FU waits opn place hf (fun w9 w10 w11 hf => ?_)
  refine g_iconst X dX10_closes_80 ?_
  cases hf
  exact g_zret X (Or.inr rfl) hr hlk dX10_closes_81
set_option maxHeartbeats 4000000 in
set_option maxRecDepth 100000 in
theorem X10_closes_ok (K : KE) (l : Launch) (a : Nat → Nat) (all : Arr) (saved : Arr) (savedMany : Int) (errors : Arr) (text : Arr) (textLong : Int) (rdd : Arr) (readMany : Int) (waits : Arr) (opn : Int) (place : Int) (built : Arr) (builtMany : Int) (parts : Arr) (partMany : Int) (taken : Arr) (calls : Arr) (lacks : Arr) (callMany : Int) (total : Int) (values : Arr) (told : Arr) (toldLong : Int) (res : Int × Arr × Int × Int) (hf : X10_closes text textLong waits opn place = some res) : CT l K.1 vwCl (kT K) yX10_closes wsX10_closes rmX10_closes [.ref (a 0)] (some (ii res.1)) (c10 K a all saved savedMany errors text textLong rdd readMany waits opn place built builtMany parts partMany taken calls lacks callMany total values told toldLong) (c10 K a all saved savedMany errors text textLong rdd readMany res.2.1 res.2.2.1 res.2.2.2 built builtMany parts partMany taken calls lacks callMany total values told toldLong) :=
  CT.mk (cc := cX10_closes) (maxL := 1) (ret := (some .boolean)) (by decide) rfl (Nat.le_of_ble_eq_true rfl) (fun p e s m below meth c X hr hlk => X10_closes_go K l a _ X hr hlk all saved savedMany errors text textLong rdd readMany waits opn place built builtMany parts partMany taken calls lacks callMany total values told toldLong res hf)
theorem iw_X10_readsNode_X10 : ∀ w ∈ u_ws RX10 TX10 23, w ∈ wsX10_readsNode := by decide +kernel
theorem fl_X10_readsNode_139 : Cond.fieldLink RX10 139 (TX10 10).1 (TX10 10).2.1 (TX10 10).2.2.1 ∈ wsX10_readsNode := by decide +kernel
theorem fl_X10_readsNode_151 : Cond.fieldLink RX10 151 (TX10 7).1 (TX10 7).2.1 (TX10 7).2.2.1 ∈ wsX10_readsNode := by decide +kernel
theorem fl_X10_readsNode_22 : Cond.fieldLink RX10 22 (TX10 6).1 (TX10 6).2.1 (TX10 6).2.2.1 ∈ wsX10_readsNode := by decide +kernel
theorem fl_X10_readsNode_25 : Cond.fieldLink RX10 25 (TX10 8).1 (TX10 8).2.1 (TX10 8).2.2.1 ∈ wsX10_readsNode := by decide +kernel
theorem fl_X10_readsNode_157 : Cond.fieldLink RX10 157 (TX10 9).1 (TX10 9).2.1 (TX10 9).2.2.1 ∈ wsX10_readsNode := by decide +kernel
theorem fl_X10_readsNode_7 : Cond.fieldLink RX10 7 (TX10 0).1 (TX10 0).2.1 (TX10 0).2.2.1 ∈ wsX10_readsNode := by decide +kernel
def rmX10_readsNode : Room := { frames := 2, cells := 0, slots := 0, locals := 46 }
def X10_readsNode (all : Arr) (text : Arr) (textLong : Int) (rdd : Arr) (readMany : Int) (waits : Arr) (opn : Int) (place : Int) : Option (Int × Arr × Int × Arr × Int × Int) := (X10_here text textLong place).bind (fun v1 => (X10_isDigit v1).bind (fun v3 => ltK (fun q5 : Int => brEQ q5 (-1) (some (0, rdd, readMany, waits, opn, place)) (brEQ readMany 30 (some (0, rdd, readMany, waits, opn, place)) ((X10_isDigit v1).bind (fun v7 => ltK (fun q9 : Int × Int => (X10_kind q9.1).bind (fun v11 => ltK (fun q13 : Int × Int => wrK 30 rdd readMany (q9.1 + q13.1) (fun f15 => brLE q13.1 0 ((X10_kind q9.1).bind (fun v16 => brLE v16 2 ((X10_closes text textLong waits opn q13.2).bind (fun w18 => boK w18.1 (some (w18.1, f15, (readMany + 1), w18.2.1, w18.2.2.1, w18.2.2.2)))) ((X10_here text textLong q13.2).bind (fun v21 => brEQ v21 41 ((X10_closes text textLong waits opn (q13.2 + 1)).bind (fun w23 => boK w23.1 (some (w23.1, f15, (readMany + 1), w23.2.1, w23.2.2.1, w23.2.2.2)))) (some (0, f15, (readMany + 1), waits, opn, q13.2)))))) (wrK 30 waits opn q13.1 (fun f26 => some (1, f15, (readMany + 1), f26, (opn + 1), q13.2))))) (fun j14 => brLE v11 2 (j14 (0, q9.2)) ((X10_function q9.1).bind (fun v27 => rdK 186 all (v27 + 0) (fun v29 => (X10_here text textLong q9.2).bind (fun v30 => brEQ v30 40 (j14 (v29, (q9.2 + 1))) (some (0, rdd, readMany, waits, opn, q9.2))))))))) (fun j10 => brEQ v7 0 (j10 (q5, (place + 1))) ((X10_here text textLong (place + 1)).bind (fun v32 => (X10_isDigit v32).bind (fun v34 => brEQ v34 0 (j10 (q5, (place + 1))) ((X10_here text textLong (place + 1)).bind (fun v36 => (X10_node 0 (((10 * (v1 - 48)) + v36) - 48) 0).bind (fun v38 => j10 (v38, ((place + 1) + 1))))))))))))) (fun j6 => brEQ v3 0 ((X10_nodeOf all v1).bind (fun v40 => j6 v40)) ((X10_node 0 (v1 - 48) 0).bind (fun v42 => j6 v42)))))
set_option maxHeartbeats 4000000 in
set_option maxRecDepth 100000 in
theorem X10_readsNode_go (K : KE) (l : Launch) (a : Nat → Nat) (WC : va_W) {p : Program} {e : Env} {s : State} {m : MethodId} {args : Array Value} {below : List Frame} {meth : Method} {c : Code} (X : CX p s m args c K.1 vwCl (kT K) (va_A WC s.heap.size) cX10_readsNode 4 wsX10_readsNode RX10) (hr : meth.sig.returnType = (some .boolean)) (hlk : meth.locks = false) (all : Arr) (saved : Arr) (savedMany : Int) (errors : Arr) (text : Arr) (textLong : Int) (rdd : Arr) (readMany : Int) (waits : Arr) (opn : Int) (place : Int) (built : Arr) (builtMany : Int) (parts : Arr) (partMany : Int) (taken : Arr) (calls : Arr) (lacks : Arr) (callMany : Int) (total : Int) (values : Arr) (told : Arr) (toldLong : Int) (res : Int × Arr × Int × Arr × Int × Int) (hf : X10_readsNode all text textLong rdd readMany waits opn place = some res) : GO p l e rmX10_readsNode s m args below meth c K.1 vwCl (va_A WC s.heap.size) (MQ below (QC K.1 vwCl (some (ii res.1)) WC (c10 K a all saved savedMany errors text textLong res.2.1 res.2.2.1 res.2.2.2.1 res.2.2.2.2.1 res.2.2.2.2.2 built builtMany parts partMany taken calls lacks callMany total values told toldLong) s.heap.size) args s 0 0 (va_A WC s.heap.size)) 4 0 0 0 [(0, .ref (a 0))] [] (c10 K a all saved savedMany errors text textLong rdd readMany waits opn place built builtMany parts partMany taken calls lacks callMany total values told toldLong) := by
  rw [X10_readsNode] at hf
  refine g_aload_n X dX10_readsNode_0 0 rfl rfl ?_
  refine g_aload_n X dX10_readsNode_1 0 rfl rfl ?_
  refine g_get X (v := ii place) 0 10 dX10_readsNode_2 rfl rfl iw_X10_readsNode_X10 (by decide) fl_X10_readsNode_139 rfl ?_
  obtain ⟨v1, hc2, hf⟩ := Option.bind_eq_some_iff.mp hf
  refine g_callV X (As := [ii place]) (st := []) (st1 := [ii v1]) (ws' := c10 K a all saved savedMany errors text textLong rdd readMany waits opn place built builtMany parts partMany taken calls lacks callMany total values told toldLong) (X10_here_ok K l a all saved savedMany errors text textLong rdd readMany waits opn place built builtMany parts partMany taken calls lacks callMany total values told toldLong place v1 hc2) gX10_readsNode_X10_here rfl 1 (by decide +kernel) ⟨rfl, rfl⟩ ⟨Nat.le_of_ble_eq_true rfl, Nat.le_of_ble_eq_true rfl⟩ ⟨Nat.zero_le _, Nat.zero_le _⟩ 0 rfl rfl rfl rfl (Nat.le_of_ble_eq_true rfl) dX10_readsNode_5 (SG.all rfl) rfl ?_
  refine g_istore_n X (lv' := [(1, ii v1), (0, .ref (a 0))]) dX10_readsNode_8 rfl (by decide) rfl ?_
  refine g_iload_n X dX10_readsNode_9 0 rfl rfl ?_
  obtain ⟨v3, hc4, hf⟩ := Option.bind_eq_some_iff.mp hf
  refine g_callS X (As := [ii v1]) (st := []) (st1 := [ii v3]) (ws' := c10 K a all saved savedMany errors text textLong rdd readMany waits opn place built builtMany parts partMany taken calls lacks callMany total values told toldLong) (X10_isDigit_ok K l v1 v3 hc4) gX10_readsNode_X10_isDigit rfl 1 (by decide +kernel) ⟨rfl, rfl⟩ ⟨Nat.le_of_ble_eq_true rfl, Nat.le_of_ble_eq_true rfl⟩ ⟨Nat.zero_le _, Nat.zero_le _⟩ rfl rfl (Nat.le_of_ble_eq_true rfl) dX10_readsNode_10 SG.none rfl ?_
  refine g_let (G := fun q5 : Int => GO p l e rmX10_readsNode s m args below meth c K.1 vwCl (va_A WC s.heap.size) (MQ below (QC K.1 vwCl (some (ii res.1)) WC (c10 K a all saved savedMany errors text textLong res.2.1 res.2.2.1 res.2.2.2.1 res.2.2.2.2.1 res.2.2.2.2.2 built builtMany parts partMany taken calls lacks callMany total values told toldLong) s.heap.size) args s 0 0 (va_A WC s.heap.size)) 4 0 0 33 [(0, .ref (a 0)), (1, ii v1)] [ii q5] (c10 K a all saved savedMany errors text textLong rdd readMany waits opn place built builtMany parts partMany taken calls lacks callMany total values told toldLong)) hf (fun q5 hf => ?_) (fun j6 hj6 hf => ?_)
  · refine g_istore_n X (lv' := [(2, ii q5), (0, .ref (a 0)), (1, ii v1)]) dX10_readsNode_33 rfl (by decide) rfl ?_
    refine g_iload_n X dX10_readsNode_34 0 rfl rfl ?_
    refine g_iconst X dX10_readsNode_35 ?_
    refine g_icmp_eq X hf 48 dX10_readsNode_36 (by decide) (fun hf => ?_) (fun hf => ?_)
    · refine g_iconst X dX10_readsNode_48 ?_
      cases hf
      exact g_zret X (Or.inl rfl) hr hlk dX10_readsNode_49
    · refine g_aload_n X dX10_readsNode_39 1 rfl rfl ?_
      refine g_get X (v := ii readMany) 0 7 dX10_readsNode_40 rfl rfl iw_X10_readsNode_X10 (by decide) fl_X10_readsNode_151 rfl ?_
      refine g_bipush X dX10_readsNode_43 (by decide +kernel) ?_
      refine g_icmp_ne X hf 50 dX10_readsNode_45 (by decide) (fun hf => ?_) (fun hf => ?_)
      · refine g_iconst X dX10_readsNode_48 ?_
        cases hf
        exact g_zret X (Or.inl rfl) hr hlk dX10_readsNode_49
      · refine g_aload_n X dX10_readsNode_50 1 rfl rfl ?_
        refine g_dup X dX10_readsNode_51 rfl ?_
        refine g_get X (v := ii place) 0 10 dX10_readsNode_52 rfl rfl iw_X10_readsNode_X10 (by decide) fl_X10_readsNode_139 rfl ?_
        refine g_iconst X dX10_readsNode_55 ?_
        refine g_iadd X dX10_readsNode_56 ?_
        refine g_puti X 0 10 dX10_readsNode_57 rfl rfl iw_X10_readsNode_X10 tyX10_ok nmX10 (by decide) fl_X10_readsNode_139 rfl rfl (Nat.le_of_ble_eq_true rfl) (ws' := c10 K a all saved savedMany errors text textLong rdd readMany waits opn (place + 1) built builtMany parts partMany taken calls lacks callMany total values told toldLong) rfl ?_
        refine g_iconst X dX10_readsNode_60 ?_
        refine g_istore_n X (lv' := [(3, ii 0), (2, ii q5), (0, .ref (a 0)), (1, ii v1)]) dX10_readsNode_61 rfl (by decide) rfl ?_
        refine g_iload_n X dX10_readsNode_62 3 rfl rfl ?_
        obtain ⟨v7, hc8, hf⟩ := Option.bind_eq_some_iff.mp hf
        refine g_callS X (As := [ii v1]) (st := []) (st1 := [ii v7]) (ws' := c10 K a all saved savedMany errors text textLong rdd readMany waits opn (place + 1) built builtMany parts partMany taken calls lacks callMany total values told toldLong) (X10_isDigit_ok K l v1 v7 hc8) gX10_readsNode_X10_isDigit rfl 1 (by decide +kernel) ⟨rfl, rfl⟩ ⟨Nat.le_of_ble_eq_true rfl, Nat.le_of_ble_eq_true rfl⟩ ⟨Nat.zero_le _, Nat.zero_le _⟩ rfl rfl (Nat.le_of_ble_eq_true rfl) dX10_readsNode_63 SG.none rfl ?_
        refine g_let (G := fun q9 : Int × Int => GO p l e rmX10_readsNode s m args below meth c K.1 vwCl (va_A WC s.heap.size) (MQ below (QC K.1 vwCl (some (ii res.1)) WC (c10 K a all saved savedMany errors text textLong res.2.1 res.2.2.1 res.2.2.2.1 res.2.2.2.2.1 res.2.2.2.2.2 built builtMany parts partMany taken calls lacks callMany total values told toldLong) s.heap.size) args s 0 0 (va_A WC s.heap.size)) 4 0 0 118 [(0, .ref (a 0)), (2, ii q9.1), (3, ii 0)] [] (c10 K a all saved savedMany errors text textLong rdd readMany waits opn q9.2 built builtMany parts partMany taken calls lacks callMany total values told toldLong)) hf (fun q9 hf => ?_) (fun j10 hj10 hf => ?_)
        · refine g_iload_n X dX10_readsNode_118 1 rfl rfl ?_
          obtain ⟨v11, hc12, hf⟩ := Option.bind_eq_some_iff.mp hf
          refine g_callS X (As := [ii q9.1]) (st := []) (st1 := [ii v11]) (ws' := c10 K a all saved savedMany errors text textLong rdd readMany waits opn q9.2 built builtMany parts partMany taken calls lacks callMany total values told toldLong) (X10_kind_ok K l q9.1 v11 hc12) gX10_readsNode_X10_kind rfl 1 (by decide +kernel) ⟨rfl, rfl⟩ ⟨Nat.le_of_ble_eq_true rfl, Nat.le_of_ble_eq_true rfl⟩ ⟨Nat.zero_le _, Nat.zero_le _⟩ rfl rfl (Nat.le_of_ble_eq_true rfl) dX10_readsNode_119 SG.none rfl ?_
          refine g_iconst X dX10_readsNode_122 ?_
          refine g_let (G := fun q13 : Int × Int => GO p l e rmX10_readsNode s m args below meth c K.1 vwCl (va_A WC s.heap.size) (MQ below (QC K.1 vwCl (some (ii res.1)) WC (c10 K a all saved savedMany errors text textLong res.2.1 res.2.2.1 res.2.2.2.1 res.2.2.2.2.1 res.2.2.2.2.2 built builtMany parts partMany taken calls lacks callMany total values told toldLong) s.heap.size) args s 0 0 (va_A WC s.heap.size)) 4 0 0 164 [(0, .ref (a 0)), (2, ii q9.1), (3, ii q13.1)] [] (c10 K a all saved savedMany errors text textLong rdd readMany waits opn q13.2 built builtMany parts partMany taken calls lacks callMany total values told toldLong)) hf (fun q13 hf => ?_) (fun j14 hj14 hf => ?_)
          · refine g_aload_n X dX10_readsNode_164 0 rfl rfl ?_
            refine g_get X (v := .ref (a 5)) 0 6 dX10_readsNode_165 rfl rfl iw_X10_readsNode_X10 (by decide) fl_X10_readsNode_22 rfl ?_
            refine g_aload_n X dX10_readsNode_168 0 rfl rfl ?_
            refine g_get X (v := ii readMany) 0 7 dX10_readsNode_169 rfl rfl iw_X10_readsNode_X10 (by decide) fl_X10_readsNode_151 rfl ?_
            refine g_iload_n X dX10_readsNode_172 1 rfl rfl ?_
            refine g_iload_n X dX10_readsNode_173 2 rfl rfl ?_
            refine g_iadd X dX10_readsNode_174 ?_
            refine g_iast X hf (by decide) 5 0 dX10_readsNode_175 rfl rfl (fun f15 => c10 K a all saved savedMany errors text textLong f15 readMany waits opn q13.2 built builtMany parts partMany taken calls lacks callMany total values told toldLong) (fun _ => rfl) (fun f15 hf => ?_)
            refine g_aload_n X dX10_readsNode_176 0 rfl rfl ?_
            refine g_dup X dX10_readsNode_177 rfl ?_
            refine g_get X (v := ii readMany) 0 7 dX10_readsNode_178 rfl rfl iw_X10_readsNode_X10 (by decide) fl_X10_readsNode_151 rfl ?_
            refine g_iconst X dX10_readsNode_181 ?_
            refine g_iadd X dX10_readsNode_182 ?_
            refine g_puti X 0 7 dX10_readsNode_183 rfl rfl iw_X10_readsNode_X10 tyX10_ok nmX10 (by decide) fl_X10_readsNode_151 rfl rfl (Nat.le_of_ble_eq_true rfl) (ws' := c10 K a all saved savedMany errors text textLong f15 (readMany + 1) waits opn q13.2 built builtMany parts partMany taken calls lacks callMany total values told toldLong) rfl ?_
            refine g_iload_n X dX10_readsNode_186 2 rfl rfl ?_
            refine g_if_le X hf 212 dX10_readsNode_187 (by decide) (fun hf => ?_) (fun hf => ?_)
            · refine g_iload_n X dX10_readsNode_212 1 rfl rfl ?_
              obtain ⟨v16, hc17, hf⟩ := Option.bind_eq_some_iff.mp hf
              refine g_callS X (As := [ii q9.1]) (st := []) (st1 := [ii v16]) (ws' := c10 K a all saved savedMany errors text textLong f15 (readMany + 1) waits opn q13.2 built builtMany parts partMany taken calls lacks callMany total values told toldLong) (X10_kind_ok K l q9.1 v16 hc17) gX10_readsNode_X10_kind rfl 1 (by decide +kernel) ⟨rfl, rfl⟩ ⟨Nat.le_of_ble_eq_true rfl, Nat.le_of_ble_eq_true rfl⟩ ⟨Nat.zero_le _, Nat.zero_le _⟩ rfl rfl (Nat.le_of_ble_eq_true rfl) dX10_readsNode_213 SG.none rfl ?_
              refine g_iconst X dX10_readsNode_216 ?_
              refine g_icmp_le X hf 245 dX10_readsNode_217 (by decide) (fun hf => ?_) (fun hf => ?_)
              · refine g_aload_n X dX10_readsNode_245 0 rfl rfl ?_
                obtain ⟨w18, hc19, hf⟩ := Option.bind_eq_some_iff.mp hf
                refine g_callV X (As := []) (st := []) (st1 := [ii w18.1]) (ws' := c10 K a all saved savedMany errors text textLong f15 (readMany + 1) w18.2.1 w18.2.2.1 w18.2.2.2 built builtMany parts partMany taken calls lacks callMany total values told toldLong) (X10_closes_ok K l a all saved savedMany errors text textLong f15 (readMany + 1) waits opn q13.2 built builtMany parts partMany taken calls lacks callMany total values told toldLong w18 hc19) gX10_readsNode_X10_closes rfl 0 (by decide +kernel) ⟨rfl, rfl⟩ ⟨Nat.le_of_ble_eq_true rfl, Nat.le_of_ble_eq_true rfl⟩ ⟨Nat.zero_le _, Nat.zero_le _⟩ 0 rfl rfl rfl rfl (Nat.le_of_ble_eq_true rfl) dX10_readsNode_246 (SG.all rfl) rfl ?_
                obtain ⟨hb20, hf⟩ := boK_some hf
                cases hf
                exact g_zret X hb20 hr hlk dX10_readsNode_249
              · refine g_aload_n X dX10_readsNode_220 0 rfl rfl ?_
                refine g_aload_n X dX10_readsNode_221 0 rfl rfl ?_
                refine g_get X (v := ii q13.2) 0 10 dX10_readsNode_222 rfl rfl iw_X10_readsNode_X10 (by decide) fl_X10_readsNode_139 rfl ?_
                obtain ⟨v21, hc22, hf⟩ := Option.bind_eq_some_iff.mp hf
                refine g_callV X (As := [ii q13.2]) (st := []) (st1 := [ii v21]) (ws' := c10 K a all saved savedMany errors text textLong f15 (readMany + 1) waits opn q13.2 built builtMany parts partMany taken calls lacks callMany total values told toldLong) (X10_here_ok K l a all saved savedMany errors text textLong f15 (readMany + 1) waits opn q13.2 built builtMany parts partMany taken calls lacks callMany total values told toldLong q13.2 v21 hc22) gX10_readsNode_X10_here rfl 1 (by decide +kernel) ⟨rfl, rfl⟩ ⟨Nat.le_of_ble_eq_true rfl, Nat.le_of_ble_eq_true rfl⟩ ⟨Nat.zero_le _, Nat.zero_le _⟩ 0 rfl rfl rfl rfl (Nat.le_of_ble_eq_true rfl) dX10_readsNode_225 (SG.all rfl) rfl ?_
                refine g_bipush X dX10_readsNode_228 (by decide +kernel) ?_
                refine g_icmp_eq X hf 235 dX10_readsNode_230 (by decide) (fun hf => ?_) (fun hf => ?_)
                · refine g_aload_n X dX10_readsNode_235 0 rfl rfl ?_
                  refine g_dup X dX10_readsNode_236 rfl ?_
                  refine g_get X (v := ii q13.2) 0 10 dX10_readsNode_237 rfl rfl iw_X10_readsNode_X10 (by decide) fl_X10_readsNode_139 rfl ?_
                  refine g_iconst X dX10_readsNode_240 ?_
                  refine g_iadd X dX10_readsNode_241 ?_
                  refine g_puti X 0 10 dX10_readsNode_242 rfl rfl iw_X10_readsNode_X10 tyX10_ok nmX10 (by decide) fl_X10_readsNode_139 rfl rfl (Nat.le_of_ble_eq_true rfl) (ws' := c10 K a all saved savedMany errors text textLong f15 (readMany + 1) waits opn (q13.2 + 1) built builtMany parts partMany taken calls lacks callMany total values told toldLong) rfl ?_
                  refine g_aload_n X dX10_readsNode_245 0 rfl rfl ?_
                  obtain ⟨w23, hc24, hf⟩ := Option.bind_eq_some_iff.mp hf
                  refine g_callV X (As := []) (st := []) (st1 := [ii w23.1]) (ws' := c10 K a all saved savedMany errors text textLong f15 (readMany + 1) w23.2.1 w23.2.2.1 w23.2.2.2 built builtMany parts partMany taken calls lacks callMany total values told toldLong) (X10_closes_ok K l a all saved savedMany errors text textLong f15 (readMany + 1) waits opn (q13.2 + 1) built builtMany parts partMany taken calls lacks callMany total values told toldLong w23 hc24) gX10_readsNode_X10_closes rfl 0 (by decide +kernel) ⟨rfl, rfl⟩ ⟨Nat.le_of_ble_eq_true rfl, Nat.le_of_ble_eq_true rfl⟩ ⟨Nat.zero_le _, Nat.zero_le _⟩ 0 rfl rfl rfl rfl (Nat.le_of_ble_eq_true rfl) dX10_readsNode_246 (SG.all rfl) rfl ?_
                  obtain ⟨hb25, hf⟩ := boK_some hf
                  cases hf
                  exact g_zret X hb25 hr hlk dX10_readsNode_249
                · refine g_iconst X dX10_readsNode_233 ?_
                  cases hf
                  exact g_zret X (Or.inl rfl) hr hlk dX10_readsNode_234
            · refine g_aload_n X dX10_readsNode_190 0 rfl rfl ?_
              refine g_get X (v := .ref (a 6)) 0 8 dX10_readsNode_191 rfl rfl iw_X10_readsNode_X10 (by decide) fl_X10_readsNode_25 rfl ?_
              refine g_aload_n X dX10_readsNode_194 0 rfl rfl ?_
              refine g_get X (v := ii opn) 0 9 dX10_readsNode_195 rfl rfl iw_X10_readsNode_X10 (by decide) fl_X10_readsNode_157 rfl ?_
              refine g_iload_n X dX10_readsNode_198 2 rfl rfl ?_
              refine g_iast X hf (by decide) 6 0 dX10_readsNode_199 rfl rfl (fun f26 => c10 K a all saved savedMany errors text textLong f15 (readMany + 1) f26 opn q13.2 built builtMany parts partMany taken calls lacks callMany total values told toldLong) (fun _ => rfl) (fun f26 hf => ?_)
              refine g_aload_n X dX10_readsNode_200 0 rfl rfl ?_
              refine g_dup X dX10_readsNode_201 rfl ?_
              refine g_get X (v := ii opn) 0 9 dX10_readsNode_202 rfl rfl iw_X10_readsNode_X10 (by decide) fl_X10_readsNode_157 rfl ?_
              refine g_iconst X dX10_readsNode_205 ?_
              refine g_iadd X dX10_readsNode_206 ?_
              refine g_puti X 0 9 dX10_readsNode_207 rfl rfl iw_X10_readsNode_X10 tyX10_ok nmX10 (by decide) fl_X10_readsNode_157 rfl rfl (Nat.le_of_ble_eq_true rfl) (ws' := c10 K a all saved savedMany errors text textLong f15 (readMany + 1) f26 (opn + 1) q13.2 built builtMany parts partMany taken calls lacks callMany total values told toldLong) rfl ?_
              refine g_iconst X dX10_readsNode_210 ?_
              cases hf
              exact g_zret X (Or.inr rfl) hr hlk dX10_readsNode_211
          · refine g_icmp_le X hf 164 dX10_readsNode_123 (by decide) (fun hf => ?_) (fun hf => ?_)
            · exact hj14 (0, q9.2) hf
            · refine g_aload_n X dX10_readsNode_126 0 rfl rfl ?_
              refine g_get X (v := .ref (a 1)) 0 0 dX10_readsNode_127 rfl rfl iw_X10_readsNode_X10 (by decide) fl_X10_readsNode_7 rfl ?_
              refine g_aload_n X dX10_readsNode_130 0 rfl rfl ?_
              refine g_iload_n X dX10_readsNode_131 1 rfl rfl ?_
              obtain ⟨v27, hc28, hf⟩ := Option.bind_eq_some_iff.mp hf
              refine g_callV X (As := [ii q9.1]) (st := [.ref (a 1)]) (st1 := [ii v27, .ref (a 1)]) (ws' := c10 K a all saved savedMany errors text textLong rdd readMany waits opn q9.2 built builtMany parts partMany taken calls lacks callMany total values told toldLong) (X10_function_ok K l a all saved savedMany errors text textLong rdd readMany waits opn q9.2 built builtMany parts partMany taken calls lacks callMany total values told toldLong q9.1 v27 hc28) gX10_readsNode_X10_function rfl 1 (by decide +kernel) ⟨rfl, rfl⟩ ⟨Nat.le_of_ble_eq_true rfl, Nat.le_of_ble_eq_true rfl⟩ ⟨Nat.zero_le _, Nat.zero_le _⟩ 0 rfl rfl rfl rfl (Nat.le_of_ble_eq_true rfl) dX10_readsNode_132 (SG.all rfl) rfl ?_
              refine g_iconst X dX10_readsNode_135 ?_
              refine g_iadd X dX10_readsNode_136 ?_
              refine g_iald X hf (by decide) 1 0 dX10_readsNode_137 rfl rfl (fun v29 hf => ?_)
              refine g_istore_n X (lv' := [(3, ii v29), (0, .ref (a 0)), (2, ii q9.1)]) dX10_readsNode_138 rfl (by decide) rfl ?_
              refine g_aload_n X dX10_readsNode_139 1 rfl rfl ?_
              refine g_aload_n X dX10_readsNode_140 1 rfl rfl ?_
              refine g_get X (v := ii q9.2) 0 10 dX10_readsNode_141 rfl rfl iw_X10_readsNode_X10 (by decide) fl_X10_readsNode_139 rfl ?_
              obtain ⟨v30, hc31, hf⟩ := Option.bind_eq_some_iff.mp hf
              refine g_callV X (As := [ii q9.2]) (st := []) (st1 := [ii v30]) (ws' := c10 K a all saved savedMany errors text textLong rdd readMany waits opn q9.2 built builtMany parts partMany taken calls lacks callMany total values told toldLong) (X10_here_ok K l a all saved savedMany errors text textLong rdd readMany waits opn q9.2 built builtMany parts partMany taken calls lacks callMany total values told toldLong q9.2 v30 hc31) gX10_readsNode_X10_here rfl 1 (by decide +kernel) ⟨rfl, rfl⟩ ⟨Nat.le_of_ble_eq_true rfl, Nat.le_of_ble_eq_true rfl⟩ ⟨Nat.zero_le _, Nat.zero_le _⟩ 0 rfl rfl rfl rfl (Nat.le_of_ble_eq_true rfl) dX10_readsNode_144 (SG.all rfl) rfl ?_
              refine g_bipush X dX10_readsNode_147 (by decide +kernel) ?_
              refine g_icmp_eq X hf 154 dX10_readsNode_149 (by decide) (fun hf => ?_) (fun hf => ?_)
              · refine g_aload_n X dX10_readsNode_154 1 rfl rfl ?_
                refine g_dup X dX10_readsNode_155 rfl ?_
                refine g_get X (v := ii q9.2) 0 10 dX10_readsNode_156 rfl rfl iw_X10_readsNode_X10 (by decide) fl_X10_readsNode_139 rfl ?_
                refine g_iconst X dX10_readsNode_159 ?_
                refine g_iadd X dX10_readsNode_160 ?_
                refine g_puti X 0 10 dX10_readsNode_161 rfl rfl iw_X10_readsNode_X10 tyX10_ok nmX10 (by decide) fl_X10_readsNode_139 rfl rfl (Nat.le_of_ble_eq_true rfl) (ws' := c10 K a all saved savedMany errors text textLong rdd readMany waits opn (q9.2 + 1) built builtMany parts partMany taken calls lacks callMany total values told toldLong) rfl ?_
                refine g_sub (lv' := [(0, .ref (a 0)), (2, ii q9.1), (3, ii v29)]) [1, 2, 0] rfl ?_
                exact hj14 (v29, (q9.2 + 1)) hf
              · refine g_iconst X dX10_readsNode_152 ?_
                cases hf
                exact g_zret X (Or.inl rfl) hr hlk dX10_readsNode_153
        · refine g_if_eq X hf 118 dX10_readsNode_66 (by decide) (fun hf => ?_) (fun hf => ?_)
          · refine g_sub (lv' := [(0, .ref (a 0)), (2, ii q5), (3, ii 0)]) [2, 1, 0] rfl ?_
            exact hj10 (q5, (place + 1)) hf
          · refine g_aload_n X dX10_readsNode_69 2 rfl rfl ?_
            refine g_aload_n X dX10_readsNode_70 2 rfl rfl ?_
            refine g_get X (v := ii (place + 1)) 0 10 dX10_readsNode_71 rfl rfl iw_X10_readsNode_X10 (by decide) fl_X10_readsNode_139 rfl ?_
            obtain ⟨v32, hc33, hf⟩ := Option.bind_eq_some_iff.mp hf
            refine g_callV X (As := [ii (place + 1)]) (st := []) (st1 := [ii v32]) (ws' := c10 K a all saved savedMany errors text textLong rdd readMany waits opn (place + 1) built builtMany parts partMany taken calls lacks callMany total values told toldLong) (X10_here_ok K l a all saved savedMany errors text textLong rdd readMany waits opn (place + 1) built builtMany parts partMany taken calls lacks callMany total values told toldLong (place + 1) v32 hc33) gX10_readsNode_X10_here rfl 1 (by decide +kernel) ⟨rfl, rfl⟩ ⟨Nat.le_of_ble_eq_true rfl, Nat.le_of_ble_eq_true rfl⟩ ⟨Nat.zero_le _, Nat.zero_le _⟩ 0 rfl rfl rfl rfl (Nat.le_of_ble_eq_true rfl) dX10_readsNode_74 (SG.all rfl) rfl ?_
            obtain ⟨v34, hc35, hf⟩ := Option.bind_eq_some_iff.mp hf
            refine g_callS X (As := [ii v32]) (st := []) (st1 := [ii v34]) (ws' := c10 K a all saved savedMany errors text textLong rdd readMany waits opn (place + 1) built builtMany parts partMany taken calls lacks callMany total values told toldLong) (X10_isDigit_ok K l v32 v34 hc35) gX10_readsNode_X10_isDigit rfl 1 (by decide +kernel) ⟨rfl, rfl⟩ ⟨Nat.le_of_ble_eq_true rfl, Nat.le_of_ble_eq_true rfl⟩ ⟨Nat.zero_le _, Nat.zero_le _⟩ rfl rfl (Nat.le_of_ble_eq_true rfl) dX10_readsNode_77 SG.none rfl ?_
            refine g_if_eq X hf 118 dX10_readsNode_80 (by decide) (fun hf => ?_) (fun hf => ?_)
            · refine g_sub (lv' := [(0, .ref (a 0)), (2, ii q5), (3, ii 0)]) [2, 1, 0] rfl ?_
              exact hj10 (q5, (place + 1)) hf
            · refine g_iconst X dX10_readsNode_83 ?_
              refine g_bipush X dX10_readsNode_84 (by decide +kernel) ?_
              refine g_iload_n X dX10_readsNode_86 3 rfl rfl ?_
              refine g_bipush X dX10_readsNode_87 (by decide +kernel) ?_
              refine g_isub X dX10_readsNode_89 ?_
              refine g_imul X dX10_readsNode_90 ?_
              refine g_aload_n X dX10_readsNode_91 2 rfl rfl ?_
              refine g_aload_n X dX10_readsNode_92 2 rfl rfl ?_
              refine g_get X (v := ii (place + 1)) 0 10 dX10_readsNode_93 rfl rfl iw_X10_readsNode_X10 (by decide) fl_X10_readsNode_139 rfl ?_
              obtain ⟨v36, hc37, hf⟩ := Option.bind_eq_some_iff.mp hf
              refine g_callV X (As := [ii (place + 1)]) (st := [ii (10 * (v1 - 48)), ii 0]) (st1 := [ii v36, ii (10 * (v1 - 48)), ii 0]) (ws' := c10 K a all saved savedMany errors text textLong rdd readMany waits opn (place + 1) built builtMany parts partMany taken calls lacks callMany total values told toldLong) (X10_here_ok K l a all saved savedMany errors text textLong rdd readMany waits opn (place + 1) built builtMany parts partMany taken calls lacks callMany total values told toldLong (place + 1) v36 hc37) gX10_readsNode_X10_here rfl 1 (by decide +kernel) ⟨rfl, rfl⟩ ⟨Nat.le_of_ble_eq_true rfl, Nat.le_of_ble_eq_true rfl⟩ ⟨Nat.zero_le _, Nat.zero_le _⟩ 0 rfl rfl rfl rfl (Nat.le_of_ble_eq_true rfl) dX10_readsNode_96 (SG.all rfl) rfl ?_
              refine g_iadd X dX10_readsNode_99 ?_
              refine g_bipush X dX10_readsNode_100 (by decide +kernel) ?_
              refine g_isub X dX10_readsNode_102 ?_
              refine g_iconst X dX10_readsNode_103 ?_
              obtain ⟨v38, hc39, hf⟩ := Option.bind_eq_some_iff.mp hf
              refine g_callS X (As := [ii 0, ii (((10 * (v1 - 48)) + v36) - 48), ii 0]) (st := []) (st1 := [ii v38]) (ws' := c10 K a all saved savedMany errors text textLong rdd readMany waits opn (place + 1) built builtMany parts partMany taken calls lacks callMany total values told toldLong) (X10_node_ok K l 0 (((10 * (v1 - 48)) + v36) - 48) 0 v38 hc39) gX10_readsNode_X10_node rfl 3 (by decide +kernel) ⟨rfl, rfl⟩ ⟨Nat.le_of_ble_eq_true rfl, Nat.le_of_ble_eq_true rfl⟩ ⟨Nat.zero_le _, Nat.zero_le _⟩ rfl rfl (Nat.le_of_ble_eq_true rfl) dX10_readsNode_104 SG.none rfl ?_
              refine g_istore_n X (lv' := [(2, ii v38), (3, ii 0), (0, .ref (a 0)), (1, ii v1)]) dX10_readsNode_107 rfl (by decide) rfl ?_
              refine g_aload_n X dX10_readsNode_108 2 rfl rfl ?_
              refine g_dup X dX10_readsNode_109 rfl ?_
              refine g_get X (v := ii (place + 1)) 0 10 dX10_readsNode_110 rfl rfl iw_X10_readsNode_X10 (by decide) fl_X10_readsNode_139 rfl ?_
              refine g_iconst X dX10_readsNode_113 ?_
              refine g_iadd X dX10_readsNode_114 ?_
              refine g_puti X 0 10 dX10_readsNode_115 rfl rfl iw_X10_readsNode_X10 tyX10_ok nmX10 (by decide) fl_X10_readsNode_139 rfl rfl (Nat.le_of_ble_eq_true rfl) (ws' := c10 K a all saved savedMany errors text textLong rdd readMany waits opn ((place + 1) + 1) built builtMany parts partMany taken calls lacks callMany total values told toldLong) rfl ?_
              refine g_sub (lv' := [(0, .ref (a 0)), (2, ii v38), (3, ii 0)]) [2, 0, 1] rfl ?_
              exact hj10 (v38, ((place + 1) + 1)) hf
  · refine g_if_eq X hf 28 dX10_readsNode_13 (by decide) (fun hf => ?_) (fun hf => ?_)
    · refine g_aload_n X dX10_readsNode_28 1 rfl rfl ?_
      refine g_iload_n X dX10_readsNode_29 0 rfl rfl ?_
      obtain ⟨v40, hc41, hf⟩ := Option.bind_eq_some_iff.mp hf
      refine g_callV X (As := [ii v1]) (st := []) (st1 := [ii v40]) (ws' := c10 K a all saved savedMany errors text textLong rdd readMany waits opn place built builtMany parts partMany taken calls lacks callMany total values told toldLong) (X10_nodeOf_ok K l a all saved savedMany errors text textLong rdd readMany waits opn place built builtMany parts partMany taken calls lacks callMany total values told toldLong v1 v40 hc41) gX10_readsNode_X10_nodeOf rfl 1 (by decide +kernel) ⟨rfl, rfl⟩ ⟨Nat.le_of_ble_eq_true rfl, Nat.le_of_ble_eq_true rfl⟩ ⟨Nat.zero_le _, Nat.zero_le _⟩ 0 rfl rfl rfl rfl (Nat.le_of_ble_eq_true rfl) dX10_readsNode_30 (SG.all rfl) rfl ?_
      refine g_sub (lv' := [(0, .ref (a 0)), (1, ii v1)]) [1, 0] rfl ?_
      exact hj6 v40 hf
    · refine g_iconst X dX10_readsNode_16 ?_
      refine g_iload_n X dX10_readsNode_17 0 rfl rfl ?_
      refine g_bipush X dX10_readsNode_18 (by decide +kernel) ?_
      refine g_isub X dX10_readsNode_20 ?_
      refine g_iconst X dX10_readsNode_21 ?_
      obtain ⟨v42, hc43, hf⟩ := Option.bind_eq_some_iff.mp hf
      refine g_callS X (As := [ii 0, ii (v1 - 48), ii 0]) (st := []) (st1 := [ii v42]) (ws' := c10 K a all saved savedMany errors text textLong rdd readMany waits opn place built builtMany parts partMany taken calls lacks callMany total values told toldLong) (X10_node_ok K l 0 (v1 - 48) 0 v42 hc43) gX10_readsNode_X10_node rfl 3 (by decide +kernel) ⟨rfl, rfl⟩ ⟨Nat.le_of_ble_eq_true rfl, Nat.le_of_ble_eq_true rfl⟩ ⟨Nat.zero_le _, Nat.zero_le _⟩ rfl rfl (Nat.le_of_ble_eq_true rfl) dX10_readsNode_22 SG.none rfl ?_
      refine g_goto X 33 dX10_readsNode_25 (by decide) ?_
      refine g_sub (lv' := [(0, .ref (a 0)), (1, ii v1)]) [1, 0] rfl ?_
      exact hj6 v42 hf
set_option maxHeartbeats 4000000 in
set_option maxRecDepth 100000 in
theorem X10_readsNode_ok (K : KE) (l : Launch) (a : Nat → Nat) (all : Arr) (saved : Arr) (savedMany : Int) (errors : Arr) (text : Arr) (textLong : Int) (rdd : Arr) (readMany : Int) (waits : Arr) (opn : Int) (place : Int) (built : Arr) (builtMany : Int) (parts : Arr) (partMany : Int) (taken : Arr) (calls : Arr) (lacks : Arr) (callMany : Int) (total : Int) (values : Arr) (told : Arr) (toldLong : Int) (res : Int × Arr × Int × Arr × Int × Int) (hf : X10_readsNode all text textLong rdd readMany waits opn place = some res) : CT l K.1 vwCl (kT K) yX10_readsNode wsX10_readsNode rmX10_readsNode [.ref (a 0)] (some (ii res.1)) (c10 K a all saved savedMany errors text textLong rdd readMany waits opn place built builtMany parts partMany taken calls lacks callMany total values told toldLong) (c10 K a all saved savedMany errors text textLong res.2.1 res.2.2.1 res.2.2.2.1 res.2.2.2.2.1 res.2.2.2.2.2 built builtMany parts partMany taken calls lacks callMany total values told toldLong) :=
  CT.mk (cc := cX10_readsNode) (maxL := 4) (ret := (some .boolean)) (by decide) rfl (Nat.le_of_ble_eq_true rfl) (fun p e s m below meth c X hr hlk => X10_readsNode_go K l a _ X hr hlk all saved savedMany errors text textLong rdd readMany waits opn place built builtMany parts partMany taken calls lacks callMany total values told toldLong res hf)
