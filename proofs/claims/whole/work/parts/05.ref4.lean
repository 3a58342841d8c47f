def rmX10_tellsNode : Room := { frames := 1, cells := 0, slots := 0, locals := 21 }
def X10_tellsNode (told : Arr) (toldLong : Int) (p1 : Int) : Option (Arr × Int) := (X10_which p1).bind (fun v1 => (X10_kind p1).bind (fun v3 => sw3 v3 (brLE v1 9 (rmK v1 10 (fun v5 => (X10_tells told toldLong (48 + v5)).bind (fun w6 => some (w6.1, w6.2)))) (dvK v1 10 (fun v8 => (X10_tells told toldLong (48 + v8)).bind (fun w9 => rmK v1 10 (fun v11 => (X10_tells w9.1 w9.2 (48 + v11)).bind (fun w12 => some (w12.1, w12.2))))))) ((X10_tells told toldLong 120).bind (fun w14 => some (w14.1, w14.2))) ((X10_tells told toldLong 121).bind (fun w16 => some (w16.1, w16.2))) ((X10_kind p1).bind (fun v18 => brEQ v18 3 ((X10_tells told toldLong (97 + v1)).bind (fun w20 => (X10_tells w20.1 w20.2 40).bind (fun w22 => some (w22.1, w22.2)))) ((X10_kind p1).bind (fun v24 => brEQ v24 4 ((X10_tells told toldLong (65 + v1)).bind (fun w26 => (X10_tells w26.1 w26.2 40).bind (fun w28 => some (w28.1, w28.2)))) ((X10_tells told toldLong (112 + v1)).bind (fun w30 => (X10_tells w30.1 w30.2 40).bind (fun w32 => some (w32.1, w32.2))))))))))
set_option maxHeartbeats 4000000 in
set_option maxRecDepth 100000 in
theorem X10_tellsNode_go (K : KE) (l : Launch) (a : Nat → Nat) (WC : va_W) {p : Program} {e : Env} {s : State} {m : MethodId} {args : Array Value} {below : List Frame} {meth : Method} {c : Code} (X : CX p s m args c K.1 vwCl (kT K) (va_A WC s.heap.size) cX10_tellsNode 3 wsX10_tellsNode RX10) (hr : meth.sig.returnType = none) (hlk : meth.locks = false) (all : Arr) (saved : Arr) (savedMany : Int) (errors : Arr) (text : Arr) (textLong : Int) (rdd : Arr) (readMany : Int) (waits : Arr) (opn : Int) (place : Int) (built : Arr) (builtMany : Int) (parts : Arr) (partMany : Int) (taken : Arr) (calls : Arr) (lacks : Arr) (callMany : Int) (total : Int) (values : Arr) (told : Arr) (toldLong : Int) (p1 : Int) (res : Arr × Int) (hf : X10_tellsNode told toldLong p1 = some res) : GO p l e rmX10_tellsNode s m args below meth c K.1 vwCl (va_A WC s.heap.size) (MQ below (QC K.1 vwCl none WC (c10 K a all saved savedMany errors text textLong rdd readMany waits opn place built builtMany parts partMany taken calls lacks callMany total values res.1 res.2) s.heap.size) args s 0 0 (va_A WC s.heap.size)) 3 0 0 0 [(0, .ref (a 0)), (1, ii p1)] [] (c10 K a all saved savedMany errors text textLong rdd readMany waits opn place built builtMany parts partMany taken calls lacks callMany total values told toldLong) := by
  rw [X10_tellsNode] at hf
  refine g_iload_n X dX10_tellsNode_0 1 rfl rfl ?_
  obtain ⟨v1, hc2, hf⟩ := Option.bind_eq_some_iff.mp hf
  refine g_callS X (As := [ii p1]) (st := []) (st1 := [ii v1]) (ws' := c10 K a all saved savedMany errors text textLong rdd readMany waits opn place built builtMany parts partMany taken calls lacks callMany total values told toldLong) (X10_which_ok K l p1 v1 hc2) gX10_tellsNode_X10_which rfl 1 (by decide +kernel) ⟨rfl, rfl⟩ ⟨Nat.le_of_ble_eq_true rfl, Nat.le_of_ble_eq_true rfl⟩ ⟨Nat.zero_le _, Nat.zero_le _⟩ rfl rfl (Nat.le_of_ble_eq_true rfl) dX10_tellsNode_1 SG.none rfl ?_
  refine g_istore_n X (lv' := [(2, ii v1), (0, .ref (a 0)), (1, ii p1)]) dX10_tellsNode_4 rfl (by decide) rfl ?_
  refine g_iload_n X dX10_tellsNode_5 2 rfl rfl ?_
  obtain ⟨v3, hc4, hf⟩ := Option.bind_eq_some_iff.mp hf
  refine g_callS X (As := [ii p1]) (st := []) (st1 := [ii v3]) (ws' := c10 K a all saved savedMany errors text textLong rdd readMany waits opn place built builtMany parts partMany taken calls lacks callMany total values told toldLong) (X10_kind_ok K l p1 v3 hc4) gX10_tellsNode_X10_kind rfl 1 (by decide +kernel) ⟨rfl, rfl⟩ ⟨Nat.le_of_ble_eq_true rfl, Nat.le_of_ble_eq_true rfl⟩ ⟨Nat.zero_le _, Nat.zero_le _⟩ rfl rfl (Nat.le_of_ble_eq_true rfl) dX10_tellsNode_6 SG.none rfl ?_
  refine g_sw3 X hf 36 67 76 85 dX10_tellsNode_9 (by decide) (by decide) (by decide) (by decide) (fun hf => ?_) (fun hf => ?_) (fun hf => ?_) (fun hf => ?_)
  · refine g_iload_n X dX10_tellsNode_36 0 rfl rfl ?_
    refine g_bipush X dX10_tellsNode_37 (by decide +kernel) ?_
    refine g_icmp_le X hf 53 dX10_tellsNode_39 (by decide) (fun hf => ?_) (fun hf => ?_)
    · refine g_aload_n X dX10_tellsNode_53 1 rfl rfl ?_
      refine g_bipush X dX10_tellsNode_54 (by decide +kernel) ?_
      refine g_iload_n X dX10_tellsNode_56 0 rfl rfl ?_
      refine g_bipush X dX10_tellsNode_57 (by decide +kernel) ?_
      refine g_irem X hf (by decide) dX10_tellsNode_59 (fun v5 hf => ?_)
      refine g_iadd X dX10_tellsNode_60 ?_
      obtain ⟨w6, hc7, hf⟩ := Option.bind_eq_some_iff.mp hf
      refine g_callV X (As := [ii (48 + v5)]) (st := []) (st1 := []) (ws' := c10 K a all saved savedMany errors text textLong rdd readMany waits opn place built builtMany parts partMany taken calls lacks callMany total values w6.1 w6.2) (X10_tells_ok K l a all saved savedMany errors text textLong rdd readMany waits opn place built builtMany parts partMany taken calls lacks callMany total values told toldLong (48 + v5) w6 hc7) gX10_tellsNode_X10_tells rfl 1 (by decide +kernel) ⟨rfl, rfl⟩ ⟨Nat.le_of_ble_eq_true rfl, Nat.le_of_ble_eq_true rfl⟩ ⟨Nat.zero_le _, Nat.zero_le _⟩ 0 rfl rfl rfl rfl (Nat.le_of_ble_eq_true rfl) dX10_tellsNode_61 (SG.all rfl) rfl ?_
      refine g_goto X 125 dX10_tellsNode_64 (by decide) ?_
      cases hf
      exact g_vret X hr hlk dX10_tellsNode_125
    · refine g_aload_n X dX10_tellsNode_42 1 rfl rfl ?_
      refine g_bipush X dX10_tellsNode_43 (by decide +kernel) ?_
      refine g_iload_n X dX10_tellsNode_45 0 rfl rfl ?_
      refine g_bipush X dX10_tellsNode_46 (by decide +kernel) ?_
      refine g_idiv X hf (by decide) dX10_tellsNode_48 (fun v8 hf => ?_)
      refine g_iadd X dX10_tellsNode_49 ?_
      obtain ⟨w9, hc10, hf⟩ := Option.bind_eq_some_iff.mp hf
      refine g_callV X (As := [ii (48 + v8)]) (st := []) (st1 := []) (ws' := c10 K a all saved savedMany errors text textLong rdd readMany waits opn place built builtMany parts partMany taken calls lacks callMany total values w9.1 w9.2) (X10_tells_ok K l a all saved savedMany errors text textLong rdd readMany waits opn place built builtMany parts partMany taken calls lacks callMany total values told toldLong (48 + v8) w9 hc10) gX10_tellsNode_X10_tells rfl 1 (by decide +kernel) ⟨rfl, rfl⟩ ⟨Nat.le_of_ble_eq_true rfl, Nat.le_of_ble_eq_true rfl⟩ ⟨Nat.zero_le _, Nat.zero_le _⟩ 0 rfl rfl rfl rfl (Nat.le_of_ble_eq_true rfl) dX10_tellsNode_50 (SG.all rfl) rfl ?_
      refine g_aload_n X dX10_tellsNode_53 1 rfl rfl ?_
      refine g_bipush X dX10_tellsNode_54 (by decide +kernel) ?_
      refine g_iload_n X dX10_tellsNode_56 0 rfl rfl ?_
      refine g_bipush X dX10_tellsNode_57 (by decide +kernel) ?_
      refine g_irem X hf (by decide) dX10_tellsNode_59 (fun v11 hf => ?_)
      refine g_iadd X dX10_tellsNode_60 ?_
      obtain ⟨w12, hc13, hf⟩ := Option.bind_eq_some_iff.mp hf
      refine g_callV X (As := [ii (48 + v11)]) (st := []) (st1 := []) (ws' := c10 K a all saved savedMany errors text textLong rdd readMany waits opn place built builtMany parts partMany taken calls lacks callMany total values w12.1 w12.2) (X10_tells_ok K l a all saved savedMany errors text textLong rdd readMany waits opn place built builtMany parts partMany taken calls lacks callMany total values w9.1 w9.2 (48 + v11) w12 hc13) gX10_tellsNode_X10_tells rfl 1 (by decide +kernel) ⟨rfl, rfl⟩ ⟨Nat.le_of_ble_eq_true rfl, Nat.le_of_ble_eq_true rfl⟩ ⟨Nat.zero_le _, Nat.zero_le _⟩ 0 rfl rfl rfl rfl (Nat.le_of_ble_eq_true rfl) dX10_tellsNode_61 (SG.all rfl) rfl ?_
      refine g_goto X 125 dX10_tellsNode_64 (by decide) ?_
      cases hf
      exact g_vret X hr hlk dX10_tellsNode_125
  · refine g_aload_n X dX10_tellsNode_67 1 rfl rfl ?_
    refine g_bipush X dX10_tellsNode_68 (by decide +kernel) ?_
    obtain ⟨w14, hc15, hf⟩ := Option.bind_eq_some_iff.mp hf
    refine g_callV X (As := [ii 120]) (st := []) (st1 := []) (ws' := c10 K a all saved savedMany errors text textLong rdd readMany waits opn place built builtMany parts partMany taken calls lacks callMany total values w14.1 w14.2) (X10_tells_ok K l a all saved savedMany errors text textLong rdd readMany waits opn place built builtMany parts partMany taken calls lacks callMany total values told toldLong 120 w14 hc15) gX10_tellsNode_X10_tells rfl 1 (by decide +kernel) ⟨rfl, rfl⟩ ⟨Nat.le_of_ble_eq_true rfl, Nat.le_of_ble_eq_true rfl⟩ ⟨Nat.zero_le _, Nat.zero_le _⟩ 0 rfl rfl rfl rfl (Nat.le_of_ble_eq_true rfl) dX10_tellsNode_70 (SG.all rfl) rfl ?_
    refine g_goto X 125 dX10_tellsNode_73 (by decide) ?_
    cases hf
    exact g_vret X hr hlk dX10_tellsNode_125
  · refine g_aload_n X dX10_tellsNode_76 1 rfl rfl ?_
    refine g_bipush X dX10_tellsNode_77 (by decide +kernel) ?_
    obtain ⟨w16, hc17, hf⟩ := Option.bind_eq_some_iff.mp hf
    refine g_callV X (As := [ii 121]) (st := []) (st1 := []) (ws' := c10 K a all saved savedMany errors text textLong rdd readMany waits opn place built builtMany parts partMany taken calls lacks callMany total values w16.1 w16.2) (X10_tells_ok K l a all saved savedMany errors text textLong rdd readMany waits opn place built builtMany parts partMany taken calls lacks callMany total values told toldLong 121 w16 hc17) gX10_tellsNode_X10_tells rfl 1 (by decide +kernel) ⟨rfl, rfl⟩ ⟨Nat.le_of_ble_eq_true rfl, Nat.le_of_ble_eq_true rfl⟩ ⟨Nat.zero_le _, Nat.zero_le _⟩ 0 rfl rfl rfl rfl (Nat.le_of_ble_eq_true rfl) dX10_tellsNode_79 (SG.all rfl) rfl ?_
    refine g_goto X 125 dX10_tellsNode_82 (by decide) ?_
    cases hf
    exact g_vret X hr hlk dX10_tellsNode_125
  · refine g_aload_n X dX10_tellsNode_85 1 rfl rfl ?_
    refine g_iload_n X dX10_tellsNode_86 2 rfl rfl ?_
    obtain ⟨v18, hc19, hf⟩ := Option.bind_eq_some_iff.mp hf
    refine g_callS X (As := [ii p1]) (st := [.ref (a 0)]) (st1 := [ii v18, .ref (a 0)]) (ws' := c10 K a all saved savedMany errors text textLong rdd readMany waits opn place built builtMany parts partMany taken calls lacks callMany total values told toldLong) (X10_kind_ok K l p1 v18 hc19) gX10_tellsNode_X10_kind rfl 1 (by decide +kernel) ⟨rfl, rfl⟩ ⟨Nat.le_of_ble_eq_true rfl, Nat.le_of_ble_eq_true rfl⟩ ⟨Nat.zero_le _, Nat.zero_le _⟩ rfl rfl (Nat.le_of_ble_eq_true rfl) dX10_tellsNode_87 SG.none rfl ?_
    refine g_iconst X dX10_tellsNode_90 ?_
    refine g_icmp_ne X hf 99 dX10_tellsNode_91 (by decide) (fun hf => ?_) (fun hf => ?_)
    · refine g_bipush X dX10_tellsNode_94 (by decide +kernel) ?_
      refine g_goto X 114 dX10_tellsNode_96 (by decide) ?_
      refine g_iload_n X dX10_tellsNode_114 0 rfl rfl ?_
      refine g_iadd X dX10_tellsNode_115 ?_
      obtain ⟨w20, hc21, hf⟩ := Option.bind_eq_some_iff.mp hf
      refine g_callV X (As := [ii (97 + v1)]) (st := []) (st1 := []) (ws' := c10 K a all saved savedMany errors text textLong rdd readMany waits opn place built builtMany parts partMany taken calls lacks callMany total values w20.1 w20.2) (X10_tells_ok K l a all saved savedMany errors text textLong rdd readMany waits opn place built builtMany parts partMany taken calls lacks callMany total values told toldLong (97 + v1) w20 hc21) gX10_tellsNode_X10_tells rfl 1 (by decide +kernel) ⟨rfl, rfl⟩ ⟨Nat.le_of_ble_eq_true rfl, Nat.le_of_ble_eq_true rfl⟩ ⟨Nat.zero_le _, Nat.zero_le _⟩ 0 rfl rfl rfl rfl (Nat.le_of_ble_eq_true rfl) dX10_tellsNode_116 (SG.all rfl) rfl ?_
      refine g_aload_n X dX10_tellsNode_119 1 rfl rfl ?_
      refine g_bipush X dX10_tellsNode_120 (by decide +kernel) ?_
      obtain ⟨w22, hc23, hf⟩ := Option.bind_eq_some_iff.mp hf
      refine g_callV X (As := [ii 40]) (st := []) (st1 := []) (ws' := c10 K a all saved savedMany errors text textLong rdd readMany waits opn place built builtMany parts partMany taken calls lacks callMany total values w22.1 w22.2) (X10_tells_ok K l a all saved savedMany errors text textLong rdd readMany waits opn place built builtMany parts partMany taken calls lacks callMany total values w20.1 w20.2 40 w22 hc23) gX10_tellsNode_X10_tells rfl 1 (by decide +kernel) ⟨rfl, rfl⟩ ⟨Nat.le_of_ble_eq_true rfl, Nat.le_of_ble_eq_true rfl⟩ ⟨Nat.zero_le _, Nat.zero_le _⟩ 0 rfl rfl rfl rfl (Nat.le_of_ble_eq_true rfl) dX10_tellsNode_122 (SG.all rfl) rfl ?_
      cases hf
      exact g_vret X hr hlk dX10_tellsNode_125
    · refine g_iload_n X dX10_tellsNode_99 2 rfl rfl ?_
      obtain ⟨v24, hc25, hf⟩ := Option.bind_eq_some_iff.mp hf
      refine g_callS X (As := [ii p1]) (st := [.ref (a 0)]) (st1 := [ii v24, .ref (a 0)]) (ws' := c10 K a all saved savedMany errors text textLong rdd readMany waits opn place built builtMany parts partMany taken calls lacks callMany total values told toldLong) (X10_kind_ok K l p1 v24 hc25) gX10_tellsNode_X10_kind rfl 1 (by decide +kernel) ⟨rfl, rfl⟩ ⟨Nat.le_of_ble_eq_true rfl, Nat.le_of_ble_eq_true rfl⟩ ⟨Nat.zero_le _, Nat.zero_le _⟩ rfl rfl (Nat.le_of_ble_eq_true rfl) dX10_tellsNode_100 SG.none rfl ?_
      refine g_iconst X dX10_tellsNode_103 ?_
      refine g_icmp_ne X hf 112 dX10_tellsNode_104 (by decide) (fun hf => ?_) (fun hf => ?_)
      · refine g_bipush X dX10_tellsNode_107 (by decide +kernel) ?_
        refine g_goto X 114 dX10_tellsNode_109 (by decide) ?_
        refine g_iload_n X dX10_tellsNode_114 0 rfl rfl ?_
        refine g_iadd X dX10_tellsNode_115 ?_
        obtain ⟨w26, hc27, hf⟩ := Option.bind_eq_some_iff.mp hf
        refine g_callV X (As := [ii (65 + v1)]) (st := []) (st1 := []) (ws' := c10 K a all saved savedMany errors text textLong rdd readMany waits opn place built builtMany parts partMany taken calls lacks callMany total values w26.1 w26.2) (X10_tells_ok K l a all saved savedMany errors text textLong rdd readMany waits opn place built builtMany parts partMany taken calls lacks callMany total values told toldLong (65 + v1) w26 hc27) gX10_tellsNode_X10_tells rfl 1 (by decide +kernel) ⟨rfl, rfl⟩ ⟨Nat.le_of_ble_eq_true rfl, Nat.le_of_ble_eq_true rfl⟩ ⟨Nat.zero_le _, Nat.zero_le _⟩ 0 rfl rfl rfl rfl (Nat.le_of_ble_eq_true rfl) dX10_tellsNode_116 (SG.all rfl) rfl ?_
        refine g_aload_n X dX10_tellsNode_119 1 rfl rfl ?_
        refine g_bipush X dX10_tellsNode_120 (by decide +kernel) ?_
        obtain ⟨w28, hc29, hf⟩ := Option.bind_eq_some_iff.mp hf
        refine g_callV X (As := [ii 40]) (st := []) (st1 := []) (ws' := c10 K a all saved savedMany errors text textLong rdd readMany waits opn place built builtMany parts partMany taken calls lacks callMany total values w28.1 w28.2) (X10_tells_ok K l a all saved savedMany errors text textLong rdd readMany waits opn place built builtMany parts partMany taken calls lacks callMany total values w26.1 w26.2 40 w28 hc29) gX10_tellsNode_X10_tells rfl 1 (by decide +kernel) ⟨rfl, rfl⟩ ⟨Nat.le_of_ble_eq_true rfl, Nat.le_of_ble_eq_true rfl⟩ ⟨Nat.zero_le _, Nat.zero_le _⟩ 0 rfl rfl rfl rfl (Nat.le_of_ble_eq_true rfl) dX10_tellsNode_122 (SG.all rfl) rfl ?_
        cases hf
        exact g_vret X hr hlk dX10_tellsNode_125
      · refine g_bipush X dX10_tellsNode_112 (by decide +kernel) ?_
        refine g_iload_n X dX10_tellsNode_114 0 rfl rfl ?_
        refine g_iadd X dX10_tellsNode_115 ?_
        obtain ⟨w30, hc31, hf⟩ := Option.bind_eq_some_iff.mp hf
        refine g_callV X (As := [ii (112 + v1)]) (st := []) (st1 := []) (ws' := c10 K a all saved savedMany errors text textLong rdd readMany waits opn place built builtMany parts partMany taken calls lacks callMany total values w30.1 w30.2) (X10_tells_ok K l a all saved savedMany errors text textLong rdd readMany waits opn place built builtMany parts partMany taken calls lacks callMany total values told toldLong (112 + v1) w30 hc31) gX10_tellsNode_X10_tells rfl 1 (by decide +kernel) ⟨rfl, rfl⟩ ⟨Nat.le_of_ble_eq_true rfl, Nat.le_of_ble_eq_true rfl⟩ ⟨Nat.zero_le _, Nat.zero_le _⟩ 0 rfl rfl rfl rfl (Nat.le_of_ble_eq_true rfl) dX10_tellsNode_116 (SG.all rfl) rfl ?_
        refine g_aload_n X dX10_tellsNode_119 1 rfl rfl ?_
        refine g_bipush X dX10_tellsNode_120 (by decide +kernel) ?_
        obtain ⟨w32, hc33, hf⟩ := Option.bind_eq_some_iff.mp hf
        refine g_callV X (As := [ii 40]) (st := []) (st1 := []) (ws' := c10 K a all saved savedMany errors text textLong rdd readMany waits opn place built builtMany parts partMany taken calls lacks callMany total values w32.1 w32.2) (X10_tells_ok K l a all saved savedMany errors text textLong rdd readMany waits opn place built builtMany parts partMany taken calls lacks callMany total values w30.1 w30.2 40 w32 hc33) gX10_tellsNode_X10_tells rfl 1 (by decide +kernel) ⟨rfl, rfl⟩ ⟨Nat.le_of_ble_eq_true rfl, Nat.le_of_ble_eq_true rfl⟩ ⟨Nat.zero_le _, Nat.zero_le _⟩ 0 rfl rfl rfl rfl (Nat.le_of_ble_eq_true rfl) dX10_tellsNode_122 (SG.all rfl) rfl ?_
        cases hf
        exact g_vret X hr hlk dX10_tellsNode_125
set_option maxHeartbeats 4000000 in
set_option maxRecDepth 100000 in
theorem X10_tellsNode_ok (K : KE) (l : Launch) (a : Nat → Nat) (all : Arr) (saved : Arr) (savedMany : Int) (errors : Arr) (text : Arr) (textLong : Int) (rdd : Arr) (readMany : Int) (waits : Arr) (opn : Int) (place : Int) (built : Arr) (builtMany : Int) (parts : Arr) (partMany : Int) (taken : Arr) (calls : Arr) (lacks : Arr) (callMany : Int) (total : Int) (values : Arr) (told : Arr) (toldLong : Int) (p1 : Int) (res : Arr × Int) (hf : X10_tellsNode told toldLong p1 = some res) : CT l K.1 vwCl (kT K) yX10_tellsNode wsX10_tellsNode rmX10_tellsNode [.ref (a 0), ii p1] none (c10 K a all saved savedMany errors text textLong rdd readMany waits opn place built builtMany parts partMany taken calls lacks callMany total values told toldLong) (c10 K a all saved savedMany errors text textLong rdd readMany waits opn place built builtMany parts partMany taken calls lacks callMany total values res.1 res.2) :=
  CT.mk (cc := cX10_tellsNode) (maxL := 3) (ret := none) (by decide) rfl (Nat.le_of_ble_eq_true rfl) (fun p e s m below meth c X hr hlk => X10_tellsNode_go K l a _ X hr hlk all saved savedMany errors text textLong rdd readMany waits opn place built builtMany parts partMany taken calls lacks callMany total values told toldLong p1 res hf)
theorem iw_X10_tellsEnds_X10 : ∀ w ∈ u_ws RX10 TX10 23, w ∈ wsX10_tellsEnds := by decide +kernel
theorem fl_X10_tellsEnds_157 : Cond.fieldLink RX10 157 (TX10 9).1 (TX10 9).2.1 (TX10 9).2.2.1 ∈ wsX10_tellsEnds := by decide +kernel
theorem fl_X10_tellsEnds_25 : Cond.fieldLink RX10 25 (TX10 8).1 (TX10 8).2.1 (TX10 8).2.2.1 ∈ wsX10_tellsEnds := by decide +kernel
def rmX10_tellsEnds : Room := { frames := 1, cells := 0, slots := 0, locals := 21 }
def X10_tellsEnds_L13 (kx : Arr → Int → Arr → Int → Option (Arr × Int × Arr × Int))  : Nat → Int → Arr → Int → Arr → Int → Option (Arr × Int × Arr × Int)
  | 0, _, _, _, _, _ => none
  | n + 1, y1, waits, opn, told, toldLong => brEQ y1 0 (kx waits opn told toldLong) (rdK 30 waits (opn - 1) (fun v3 => wrK 30 waits (opn - 1) (v3 - 1) (fun f4 => rdK 30 f4 (opn - 1) (fun v5 => ltK (fun q6 : Int => ltK (fun q8 : Int => (X10_tells told toldLong q8).bind (fun w10 => ltK (fun q12 : Int => ltK (fun q14 : Int => X10_tellsEnds_L13 kx n q14 f4 (opn - q12) w10.1 w10.2) (fun j15 => ltK (fun q16 : Unit => j15 0) (fun j17 => brEQ q6 0 (j17 ()) (brLE (opn - q12) 0 (j17 ()) (j15 1))))) (fun j13 => brEQ q6 0 (j13 0) (j13 1)))) (fun j9 => brEQ q6 0 (j9 44) (j9 41))) (fun j7 => brEQ v5 0 (j7 1) (j7 0))))))
def X10_tellsEnds (waits : Arr) (opn : Int) (told : Arr) (toldLong : Int) : Option (Arr × Int × Arr × Int) := ltK (fun q1 : Int => X10_tellsEnds_L13 (fun w18 w19 w20 w21 => some (w18, w19, w20, w21)) FU q1 waits opn told toldLong) (fun j2 => brLE opn 0 (j2 0) (j2 1))
set_option maxHeartbeats 4000000 in
set_option maxRecDepth 100000 in
theorem X10_tellsEnds_L13_ok (K : KE) (l : Launch) (a : Nat → Nat) (WC : va_W) {p : Program} {e : Env} {s : State} {m : MethodId} {args : Array Value} {below : List Frame} {meth : Method} {c : Code} (X : CX p s m args c K.1 vwCl (kT K) (va_A WC s.heap.size) cX10_tellsEnds 2 wsX10_tellsEnds RX10) (hr : meth.sig.returnType = none) (hlk : meth.locks = false) (all : Arr) (saved : Arr) (savedMany : Int) (errors : Arr) (text : Arr) (textLong : Int) (rdd : Arr) (readMany : Int) (place : Int) (built : Arr) (builtMany : Int) (parts : Arr) (partMany : Int) (taken : Arr) (calls : Arr) (lacks : Arr) (callMany : Int) (total : Int) (values : Arr)  (res : Arr × Int × Arr × Int) {kx : Arr → Int → Arr → Int → Option (Arr × Int × Arr × Int)} : ∀ (n : Nat) (y1 : Int) (waits : Arr) (opn : Int) (told : Arr) (toldLong : Int), X10_tellsEnds_L13 kx  n y1 waits opn told toldLong = some res → (∀ (waitsz : Arr) (opnz : Int) (toldz : Arr) (toldLongz : Int), kx waitsz opnz toldz toldLongz = some res → GO p l e rmX10_tellsEnds s m args below meth c K.1 vwCl (va_A WC s.heap.size) (MQ below (QC K.1 vwCl none WC (c10 K a all saved savedMany errors text textLong rdd readMany res.1 res.2.1 place built builtMany parts partMany taken calls lacks callMany total values res.2.2.1 res.2.2.2) s.heap.size) args s 0 0 (va_A WC s.heap.size)) 2 0 0 105 [] [] (c10 K a all saved savedMany errors text textLong rdd readMany waitsz opnz place built builtMany parts partMany taken calls lacks callMany total values toldz toldLongz)) → GO p l e rmX10_tellsEnds s m args below meth c K.1 vwCl (va_A WC s.heap.size) (MQ below (QC K.1 vwCl none WC (c10 K a all saved savedMany errors text textLong rdd readMany res.1 res.2.1 place built builtMany parts partMany taken calls lacks callMany total values res.2.2.1 res.2.2.2) s.heap.size) args s 0 0 (va_A WC s.heap.size)) 2 0 0 13 [(0, .ref (a 0)), (1, ii y1)] [] (c10 K a all saved savedMany errors text textLong rdd readMany waits opn place built builtMany parts partMany taken calls lacks callMany total values told toldLong) := by
  intro n
  induction n with
  | zero =>
    intro y1 waits opn told toldLong hf _
    rw [X10_tellsEnds_L13] at hf
    cases hf
  | succ n ih =>
    intro y1 waits opn told toldLong hf hk
    rw [X10_tellsEnds_L13] at hf
    refine g_iload_n X dX10_tellsEnds_13 1 rfl rfl ?_
    refine g_if_eq X hf 105 dX10_tellsEnds_14 (by decide) (fun hf => ?_) (fun hf => ?_)
    · refine g_sub (lv' := []) [] rfl ?_
      exact hk waits opn told toldLong hf
    · refine g_aload_n X dX10_tellsEnds_17 0 rfl rfl ?_
      refine g_get X (v := .ref (a 6)) 0 8 dX10_tellsEnds_18 rfl rfl iw_X10_tellsEnds_X10 (by decide) fl_X10_tellsEnds_25 rfl ?_
      refine g_aload_n X dX10_tellsEnds_21 0 rfl rfl ?_
      refine g_get X (v := ii opn) 0 9 dX10_tellsEnds_22 rfl rfl iw_X10_tellsEnds_X10 (by decide) fl_X10_tellsEnds_157 rfl ?_
      refine g_iconst X dX10_tellsEnds_25 ?_
      refine g_isub X dX10_tellsEnds_26 ?_
      refine g_dup2 X dX10_tellsEnds_27 rfl rfl ?_
      refine g_iald X hf (by decide) 6 0 dX10_tellsEnds_28 rfl rfl (fun v3 hf => ?_)
      refine g_iconst X dX10_tellsEnds_29 ?_
      refine g_isub X dX10_tellsEnds_30 ?_
      refine g_iast X hf (by decide) 6 0 dX10_tellsEnds_31 rfl rfl (fun f4 => c10 K a all saved savedMany errors text textLong rdd readMany f4 opn place built builtMany parts partMany taken calls lacks callMany total values told toldLong) (fun _ => rfl) (fun f4 hf => ?_)
      refine g_aload_n X dX10_tellsEnds_32 0 rfl rfl ?_
      refine g_get X (v := .ref (a 6)) 0 8 dX10_tellsEnds_33 rfl rfl iw_X10_tellsEnds_X10 (by decide) fl_X10_tellsEnds_25 rfl ?_
      refine g_aload_n X dX10_tellsEnds_36 0 rfl rfl ?_
      refine g_get X (v := ii opn) 0 9 dX10_tellsEnds_37 rfl rfl iw_X10_tellsEnds_X10 (by decide) fl_X10_tellsEnds_157 rfl ?_
      refine g_iconst X dX10_tellsEnds_40 ?_
      refine g_isub X dX10_tellsEnds_41 ?_
      refine g_iald X hf (by decide) 6 0 dX10_tellsEnds_42 rfl rfl (fun v5 hf => ?_)
      refine g_let (G := fun q6 : Int => GO p l e rmX10_tellsEnds s m args below meth c K.1 vwCl (va_A WC s.heap.size) (MQ below (QC K.1 vwCl none WC (c10 K a all saved savedMany errors text textLong rdd readMany res.1 res.2.1 place built builtMany parts partMany taken calls lacks callMany total values res.2.2.1 res.2.2.2) s.heap.size) args s 0 0 (va_A WC s.heap.size)) 2 0 0 51 [(0, .ref (a 0))] [ii q6] (c10 K a all saved savedMany errors text textLong rdd readMany f4 opn place built builtMany parts partMany taken calls lacks callMany total values told toldLong)) hf (fun q6 hf => ?_) (fun j7 hj7 hf => ?_)
      · refine g_istore_n X (lv' := [(1, ii q6), (0, .ref (a 0))]) dX10_tellsEnds_51 rfl (by decide) rfl ?_
        refine g_aload_n X dX10_tellsEnds_52 1 rfl rfl ?_
        refine g_iload_n X dX10_tellsEnds_53 0 rfl rfl ?_
        refine g_let (G := fun q8 : Int => GO p l e rmX10_tellsEnds s m args below meth c K.1 vwCl (va_A WC s.heap.size) (MQ below (QC K.1 vwCl none WC (c10 K a all saved savedMany errors text textLong rdd readMany res.1 res.2.1 place built builtMany parts partMany taken calls lacks callMany total values res.2.2.1 res.2.2.2) s.heap.size) args s 0 0 (va_A WC s.heap.size)) 2 0 0 64 [(0, .ref (a 0)), (1, ii q6)] [ii q8, .ref (a 0)] (c10 K a all saved savedMany errors text textLong rdd readMany f4 opn place built builtMany parts partMany taken calls lacks callMany total values told toldLong)) hf (fun q8 hf => ?_) (fun j9 hj9 hf => ?_)
        · obtain ⟨w10, hc11, hf⟩ := Option.bind_eq_some_iff.mp hf
          refine g_callV X (As := [ii q8]) (st := []) (st1 := []) (ws' := c10 K a all saved savedMany errors text textLong rdd readMany f4 opn place built builtMany parts partMany taken calls lacks callMany total values w10.1 w10.2) (X10_tells_ok K l a all saved savedMany errors text textLong rdd readMany f4 opn place built builtMany parts partMany taken calls lacks callMany total values told toldLong q8 w10 hc11) gX10_tellsEnds_X10_tells rfl 1 (by decide +kernel) ⟨rfl, rfl⟩ ⟨Nat.le_of_ble_eq_true rfl, Nat.le_of_ble_eq_true rfl⟩ ⟨Nat.zero_le _, Nat.zero_le _⟩ 0 rfl rfl rfl rfl (Nat.le_of_ble_eq_true rfl) dX10_tellsEnds_64 (SG.all rfl) rfl ?_
          refine g_aload_n X dX10_tellsEnds_67 0 rfl rfl ?_
          refine g_dup X dX10_tellsEnds_68 rfl ?_
          refine g_get X (v := ii opn) 0 9 dX10_tellsEnds_69 rfl rfl iw_X10_tellsEnds_X10 (by decide) fl_X10_tellsEnds_157 rfl ?_
          refine g_iload_n X dX10_tellsEnds_72 1 rfl rfl ?_
          refine g_let (G := fun q12 : Int => GO p l e rmX10_tellsEnds s m args below meth c K.1 vwCl (va_A WC s.heap.size) (MQ below (QC K.1 vwCl none WC (c10 K a all saved savedMany errors text textLong rdd readMany res.1 res.2.1 place built builtMany parts partMany taken calls lacks callMany total values res.2.2.1 res.2.2.2) s.heap.size) args s 0 0 (va_A WC s.heap.size)) 2 0 0 81 [(0, .ref (a 0)), (1, ii q6)] [ii q12, ii opn, .ref (a 0)] (c10 K a all saved savedMany errors text textLong rdd readMany f4 opn place built builtMany parts partMany taken calls lacks callMany total values w10.1 w10.2)) hf (fun q12 hf => ?_) (fun j13 hj13 hf => ?_)
          · refine g_isub X dX10_tellsEnds_81 ?_
            refine g_puti X 0 9 dX10_tellsEnds_82 rfl rfl iw_X10_tellsEnds_X10 tyX10_ok nmX10 (by decide) fl_X10_tellsEnds_157 rfl rfl (Nat.le_of_ble_eq_true rfl) (ws' := c10 K a all saved savedMany errors text textLong rdd readMany f4 (opn - q12) place built builtMany parts partMany taken calls lacks callMany total values w10.1 w10.2) rfl ?_
            refine g_iload_n X dX10_tellsEnds_85 1 rfl rfl ?_
            refine g_let (G := fun q14 : Int => GO p l e rmX10_tellsEnds s m args below meth c K.1 vwCl (va_A WC s.heap.size) (MQ below (QC K.1 vwCl none WC (c10 K a all saved savedMany errors text textLong rdd readMany res.1 res.2.1 place built builtMany parts partMany taken calls lacks callMany total values res.2.2.1 res.2.2.2) s.heap.size) args s 0 0 (va_A WC s.heap.size)) 2 0 0 101 [(0, .ref (a 0))] [ii q14] (c10 K a all saved savedMany errors text textLong rdd readMany f4 (opn - q12) place built builtMany parts partMany taken calls lacks callMany total values w10.1 w10.2)) hf (fun q14 hf => ?_) (fun j15 hj15 hf => ?_)
            · refine g_istore_n X (lv' := [(1, ii q14), (0, .ref (a 0))]) dX10_tellsEnds_101 rfl (by decide) rfl ?_
              refine g_goto X 13 dX10_tellsEnds_102 (by decide) ?_
              refine g_sub (lv' := [(0, .ref (a 0)), (1, ii q14)]) [1, 0] rfl ?_
              exact ih q14 f4 (opn - q12) w10.1 w10.2 hf hk
            · refine g_let (G := fun q16 : Unit => GO p l e rmX10_tellsEnds s m args below meth c K.1 vwCl (va_A WC s.heap.size) (MQ below (QC K.1 vwCl none WC (c10 K a all saved savedMany errors text textLong rdd readMany res.1 res.2.1 place built builtMany parts partMany taken calls lacks callMany total values res.2.2.1 res.2.2.2) s.heap.size) args s 0 0 (va_A WC s.heap.size)) 2 0 0 100 [(0, .ref (a 0))] [] (c10 K a all saved savedMany errors text textLong rdd readMany f4 (opn - q12) place built builtMany parts partMany taken calls lacks callMany total values w10.1 w10.2)) hf (fun q16 hf => ?_) (fun j17 hj17 hf => ?_)
              · refine g_iconst X dX10_tellsEnds_100 ?_
                exact hj15 0 hf
              · refine g_if_eq X hf 100 dX10_tellsEnds_86 (by decide) (fun hf => ?_) (fun hf => ?_)
                · refine g_sub (lv' := [(0, .ref (a 0))]) [0] rfl ?_
                  exact hj17 () hf
                · refine g_aload_n X dX10_tellsEnds_89 0 rfl rfl ?_
                  refine g_get X (v := ii (opn - q12)) 0 9 dX10_tellsEnds_90 rfl rfl iw_X10_tellsEnds_X10 (by decide) fl_X10_tellsEnds_157 rfl ?_
                  refine g_if_le X hf 100 dX10_tellsEnds_93 (by decide) (fun hf => ?_) (fun hf => ?_)
                  · refine g_sub (lv' := [(0, .ref (a 0))]) [0] rfl ?_
                    exact hj17 () hf
                  · refine g_iconst X dX10_tellsEnds_96 ?_
                    refine g_goto X 101 dX10_tellsEnds_97 (by decide) ?_
                    refine g_sub (lv' := [(0, .ref (a 0))]) [0] rfl ?_
                    exact hj15 1 hf
          · refine g_if_eq X hf 80 dX10_tellsEnds_73 (by decide) (fun hf => ?_) (fun hf => ?_)
            · refine g_iconst X dX10_tellsEnds_80 ?_
              exact hj13 0 hf
            · refine g_iconst X dX10_tellsEnds_76 ?_
              refine g_goto X 81 dX10_tellsEnds_77 (by decide) ?_
              exact hj13 1 hf
        · refine g_if_eq X hf 62 dX10_tellsEnds_54 (by decide) (fun hf => ?_) (fun hf => ?_)
          · refine g_bipush X dX10_tellsEnds_62 (by decide +kernel) ?_
            refine g_sub (lv' := [(0, .ref (a 0)), (1, ii q6)]) [1, 0] rfl ?_
            exact hj9 44 hf
          · refine g_bipush X dX10_tellsEnds_57 (by decide +kernel) ?_
            refine g_goto X 64 dX10_tellsEnds_59 (by decide) ?_
            refine g_sub (lv' := [(0, .ref (a 0)), (1, ii q6)]) [1, 0] rfl ?_
            exact hj9 41 hf
      · refine g_if_ne X hf 50 dX10_tellsEnds_43 (by decide) (fun hf => ?_) (fun hf => ?_)
        · refine g_iconst X dX10_tellsEnds_46 ?_
          refine g_goto X 51 dX10_tellsEnds_47 (by decide) ?_
          refine g_sub (lv' := [(0, .ref (a 0))]) [0] rfl ?_
          exact hj7 1 hf
        · refine g_iconst X dX10_tellsEnds_50 ?_
          refine g_sub (lv' := [(0, .ref (a 0))]) [0] rfl ?_
          exact hj7 0 hf
set_option maxHeartbeats 4000000 in
set_option maxRecDepth 100000 in
theorem X10_tellsEnds_go (K : KE) (l : Launch) (a : Nat → Nat) (WC : va_W) {p : Program} {e : Env} {s : State} {m : MethodId} {args : Array Value} {below : List Frame} {meth : Method} {c : Code} (X : CX p s m args c K.1 vwCl (kT K) (va_A WC s.heap.size) cX10_tellsEnds 2 wsX10_tellsEnds RX10) (hr : meth.sig.returnType = none) (hlk : meth.locks = false) (all : Arr) (saved : Arr) (savedMany : Int) (errors : Arr) (text : Arr) (textLong : Int) (rdd : Arr) (readMany : Int) (waits : Arr) (opn : Int) (place : Int) (built : Arr) (builtMany : Int) (parts : Arr) (partMany : Int) (taken : Arr) (calls : Arr) (lacks : Arr) (callMany : Int) (total : Int) (values : Arr) (told : Arr) (toldLong : Int) (res : Arr × Int × Arr × Int) (hf : X10_tellsEnds waits opn told toldLong = some res) : GO p l e rmX10_tellsEnds s m args below meth c K.1 vwCl (va_A WC s.heap.size) (MQ below (QC K.1 vwCl none WC (c10 K a all saved savedMany errors text textLong rdd readMany res.1 res.2.1 place built builtMany parts partMany taken calls lacks callMany total values res.2.2.1 res.2.2.2) s.heap.size) args s 0 0 (va_A WC s.heap.size)) 2 0 0 0 [(0, .ref (a 0))] [] (c10 K a all saved savedMany errors text textLong rdd readMany waits opn place built builtMany parts partMany taken calls lacks callMany total values told toldLong) := by
  rw [X10_tellsEnds] at hf
  refine g_aload_n X dX10_tellsEnds_0 0 rfl rfl ?_
  refine g_get X (v := ii opn) 0 9 dX10_tellsEnds_1 rfl rfl iw_X10_tellsEnds_X10 (by decide) fl_X10_tellsEnds_157 rfl ?_
  refine g_let (G := fun q1 : Int => GO p l e rmX10_tellsEnds s m args below meth c K.1 vwCl (va_A WC s.heap.size) (MQ below (QC K.1 vwCl none WC (c10 K a all saved savedMany errors text textLong rdd readMany res.1 res.2.1 place built builtMany parts partMany taken calls lacks callMany total values res.2.2.1 res.2.2.2) s.heap.size) args s 0 0 (va_A WC s.heap.size)) 2 0 0 12 [(0, .ref (a 0))] [ii q1] (c10 K a all saved savedMany errors text textLong rdd readMany waits opn place built builtMany parts partMany taken calls lacks callMany total values told toldLong)) hf (fun q1 hf => ?_) (fun j2 hj2 hf => ?_)
  · refine g_istore_n X (lv' := [(1, ii q1), (0, .ref (a 0))]) dX10_tellsEnds_12 rfl (by decide) rfl ?_
    refine g_sub (lv' := [(0, .ref (a 0)), (1, ii q1)]) [1, 0] rfl ?_
    refine X10_tellsEnds_L13_ok K l a WC X hr hlk all saved savedMany errors text textLong rdd readMany place built builtMany parts partMany taken calls lacks callMany total values res FU q1 waits opn told toldLong hf (fun w18 w19 w20 w21 hf => ?_)
    cases hf
    exact g_vret X hr hlk dX10_tellsEnds_105
  · refine g_if_le X hf 11 dX10_tellsEnds_4 (by decide) (fun hf => ?_) (fun hf => ?_)
    · refine g_iconst X dX10_tellsEnds_11 ?_
      exact hj2 0 hf
    · refine g_iconst X dX10_tellsEnds_7 ?_
      refine g_goto X 12 dX10_tellsEnds_8 (by decide) ?_
      exact hj2 1 hf
set_option maxHeartbeats 4000000 in
set_option maxRecDepth 100000 in
theorem X10_tellsEnds_ok (K : KE) (l : Launch) (a : Nat → Nat) (all : Arr) (saved : Arr) (savedMany : Int) (errors : Arr) (text : Arr) (textLong : Int) (rdd : Arr) (readMany : Int) (waits : Arr) (opn : Int) (place : Int) (built : Arr) (builtMany : Int) (parts : Arr) (partMany : Int) (taken : Arr) (calls : Arr) (lacks : Arr) (callMany : Int) (total : Int) (values : Arr) (told : Arr) (toldLong : Int) (res : Arr × Int × Arr × Int) (hf : X10_tellsEnds waits opn told toldLong = some res) : CT l K.1 vwCl (kT K) yX10_tellsEnds wsX10_tellsEnds rmX10_tellsEnds [.ref (a 0)] none (c10 K a all saved savedMany errors text textLong rdd readMany waits opn place built builtMany parts partMany taken calls lacks callMany total values told toldLong) (c10 K a all saved savedMany errors text textLong rdd readMany res.1 res.2.1 place built builtMany parts partMany taken calls lacks callMany total values res.2.2.1 res.2.2.2) :=
  CT.mk (cc := cX10_tellsEnds) (maxL := 2) (ret := none) (by decide) rfl (Nat.le_of_ble_eq_true rfl) (fun p e s m below meth c X hr hlk => X10_tellsEnds_go K l a _ X hr hlk all saved savedMany errors text textLong rdd readMany waits opn place built builtMany parts partMany taken calls lacks callMany total values told toldLong res hf)
theorem iw_X10_tellsAll_X10 : ∀ w ∈ u_ws RX10 TX10 23, w ∈ wsX10_tellsAll := by decide +kernel
theorem fl_X10_tellsAll_227 : Cond.fieldLink RX10 227 (TX10 22).1 (TX10 22).2.1 (TX10 22).2.2.1 ∈ wsX10_tellsAll := by decide +kernel
theorem fl_X10_tellsAll_157 : Cond.fieldLink RX10 157 (TX10 9).1 (TX10 9).2.1 (TX10 9).2.2.1 ∈ wsX10_tellsAll := by decide +kernel
theorem fl_X10_tellsAll_7 : Cond.fieldLink RX10 7 (TX10 0).1 (TX10 0).2.1 (TX10 0).2.2.1 ∈ wsX10_tellsAll := by decide +kernel
theorem fl_X10_tellsAll_25 : Cond.fieldLink RX10 25 (TX10 8).1 (TX10 8).2.1 (TX10 8).2.2.1 ∈ wsX10_tellsAll := by decide +kernel
def rmX10_tellsAll : Room := { frames := 2, cells := 0, slots := 0, locals := 43 }
def X10_tellsAll_L12 (kx : Arr → Int → Arr → Int → Option (Arr × Int × Arr × Int)) (all : Arr) : Nat → Int → Arr → Int → Arr → Int → Option (Arr × Int × Arr × Int)
  | 0, _, _, _, _, _ => none
  | n + 1, y1, waits, opn, told, toldLong => rdK 186 all 148 (fun v1 => brLT y1 v1 (rdK 186 all (149 + y1) (fun v2 => (X10_tellsNode told toldLong v2).bind (fun w3 => (X10_arguments v2).bind (fun v5 => ltK (fun q7 : Arr × Int × Arr × Int => X10_tellsAll_L12 kx all n (y1 + 1) q7.1 q7.2.1 q7.2.2.1 q7.2.2.2) (fun j8 => brLE v5 0 ((X10_kind v2).bind (fun v9 => ltK (fun q11 : Arr × Int => (X10_tellsEnds waits opn q11.1 q11.2).bind (fun w13 => j8 (w13.1, w13.2.1, w13.2.2.1, w13.2.2.2))) (fun j12 => brLE v9 2 (j12 (w3.1, w3.2)) ((X10_tells w3.1 w3.2 41).bind (fun w15 => j12 (w15.1, w15.2)))))) ((X10_arguments v2).bind (fun v17 => wrK 30 waits opn v17 (fun f19 => j8 (f19, (opn + 1), w3.1, w3.2))))))))) (kx waits opn told toldLong))
def X10_tellsAll (all : Arr) (waits : Arr) (opn : Int) (told : Arr) (toldLong : Int) : Option (Arr × Int × Arr × Int) := X10_tellsAll_L12 (fun w20 w21 w22 w23 => some (w20, w21, w22, w23)) all FU 0 waits 0 told 0
set_option maxHeartbeats 4000000 in
set_option maxRecDepth 100000 in
theorem X10_tellsAll_L12_ok (K : KE) (l : Launch) (a : Nat → Nat) (WC : va_W) {p : Program} {e : Env} {s : State} {m : MethodId} {args : Array Value} {below : List Frame} {meth : Method} {c : Code} (X : CX p s m args c K.1 vwCl (kT K) (va_A WC s.heap.size) cX10_tellsAll 3 wsX10_tellsAll RX10) (hr : meth.sig.returnType = none) (hlk : meth.locks = false) (all : Arr) (saved : Arr) (savedMany : Int) (errors : Arr) (text : Arr) (textLong : Int) (rdd : Arr) (readMany : Int) (place : Int) (built : Arr) (builtMany : Int) (parts : Arr) (partMany : Int) (taken : Arr) (calls : Arr) (lacks : Arr) (callMany : Int) (total : Int) (values : Arr)  (res : Arr × Int × Arr × Int) {kx : Arr → Int → Arr → Int → Option (Arr × Int × Arr × Int)} : ∀ (n : Nat) (y1 : Int) (waits : Arr) (opn : Int) (told : Arr) (toldLong : Int), X10_tellsAll_L12 kx all n y1 waits opn told toldLong = some res → (∀ (waitsz : Arr) (opnz : Int) (toldz : Arr) (toldLongz : Int), kx waitsz opnz toldz toldLongz = some res → GO p l e rmX10_tellsAll s m args below meth c K.1 vwCl (va_A WC s.heap.size) (MQ below (QC K.1 vwCl none WC (c10 K a all saved savedMany errors text textLong rdd readMany res.1 res.2.1 place built builtMany parts partMany taken calls lacks callMany total values res.2.2.1 res.2.2.2) s.heap.size) args s 0 0 (va_A WC s.heap.size)) 3 0 0 97 [] [] (c10 K a all saved savedMany errors text textLong rdd readMany waitsz opnz place built builtMany parts partMany taken calls lacks callMany total values toldz toldLongz)) → GO p l e rmX10_tellsAll s m args below meth c K.1 vwCl (va_A WC s.heap.size) (MQ below (QC K.1 vwCl none WC (c10 K a all saved savedMany errors text textLong rdd readMany res.1 res.2.1 place built builtMany parts partMany taken calls lacks callMany total values res.2.2.1 res.2.2.2) s.heap.size) args s 0 0 (va_A WC s.heap.size)) 3 0 0 12 [(0, .ref (a 0)), (1, ii y1)] [] (c10 K a all saved savedMany errors text textLong rdd readMany waits opn place built builtMany parts partMany taken calls lacks callMany total values told toldLong) := by
  intro n
  induction n with
  | zero =>
    intro y1 waits opn told toldLong hf _
    rw [X10_tellsAll_L12] at hf
    cases hf
  | succ n ih =>
    intro y1 waits opn told toldLong hf hk
    rw [X10_tellsAll_L12] at hf
    refine g_iload_n X dX10_tellsAll_12 1 rfl rfl ?_
    refine g_aload_n X dX10_tellsAll_13 0 rfl rfl ?_
    refine g_get X (v := .ref (a 1)) 0 0 dX10_tellsAll_14 rfl rfl iw_X10_tellsAll_X10 (by decide) fl_X10_tellsAll_7 rfl ?_
    refine g_sipush X dX10_tellsAll_17 (by decide +kernel) ?_
    refine g_iald X hf (by decide) 1 0 dX10_tellsAll_20 rfl rfl (fun v1 hf => ?_)
    refine g_icmp_ge X hf 97 dX10_tellsAll_21 (by decide) (fun hf => ?_) (fun hf => ?_)
    · refine g_aload_n X dX10_tellsAll_24 0 rfl rfl ?_
      refine g_get X (v := .ref (a 1)) 0 0 dX10_tellsAll_25 rfl rfl iw_X10_tellsAll_X10 (by decide) fl_X10_tellsAll_7 rfl ?_
      refine g_sipush X dX10_tellsAll_28 (by decide +kernel) ?_
      refine g_iload_n X dX10_tellsAll_31 1 rfl rfl ?_
      refine g_iadd X dX10_tellsAll_32 ?_
      refine g_iald X hf (by decide) 1 0 dX10_tellsAll_33 rfl rfl (fun v2 hf => ?_)
      refine g_istore_n X (lv' := [(2, ii v2), (0, .ref (a 0)), (1, ii y1)]) dX10_tellsAll_34 rfl (by decide) rfl ?_
      refine g_aload_n X dX10_tellsAll_35 1 rfl rfl ?_
      refine g_iload_n X dX10_tellsAll_36 0 rfl rfl ?_
      obtain ⟨w3, hc4, hf⟩ := Option.bind_eq_some_iff.mp hf
      refine g_callV X (As := [ii v2]) (st := []) (st1 := []) (ws' := c10 K a all saved savedMany errors text textLong rdd readMany waits opn place built builtMany parts partMany taken calls lacks callMany total values w3.1 w3.2) (X10_tellsNode_ok K l a all saved savedMany errors text textLong rdd readMany waits opn place built builtMany parts partMany taken calls lacks callMany total values told toldLong v2 w3 hc4) gX10_tellsAll_X10_tellsNode rfl 1 (by decide +kernel) ⟨rfl, rfl⟩ ⟨Nat.le_of_ble_eq_true rfl, Nat.le_of_ble_eq_true rfl⟩ ⟨Nat.zero_le _, Nat.zero_le _⟩ 0 rfl rfl rfl rfl (Nat.le_of_ble_eq_true rfl) dX10_tellsAll_37 (SG.all rfl) rfl ?_
      refine g_iload_n X dX10_tellsAll_40 0 rfl rfl ?_
      obtain ⟨v5, hc6, hf⟩ := Option.bind_eq_some_iff.mp hf
      refine g_callS X (As := [ii v2]) (st := []) (st1 := [ii v5]) (ws' := c10 K a all saved savedMany errors text textLong rdd readMany waits opn place built builtMany parts partMany taken calls lacks callMany total values w3.1 w3.2) (X10_arguments_ok K l v2 v5 hc6) gX10_tellsAll_X10_arguments rfl 1 (by decide +kernel) ⟨rfl, rfl⟩ ⟨Nat.le_of_ble_eq_true rfl, Nat.le_of_ble_eq_true rfl⟩ ⟨Nat.zero_le _, Nat.zero_le _⟩ rfl rfl (Nat.le_of_ble_eq_true rfl) dX10_tellsAll_41 SG.none rfl ?_
      refine g_let (G := fun q7 : Arr × Int × Arr × Int => GO p l e rmX10_tellsAll s m args below meth c K.1 vwCl (va_A WC s.heap.size) (MQ below (QC K.1 vwCl none WC (c10 K a all saved savedMany errors text textLong rdd readMany res.1 res.2.1 place built builtMany parts partMany taken calls lacks callMany total values res.2.2.1 res.2.2.2) s.heap.size) args s 0 0 (va_A WC s.heap.size)) 3 0 0 91 [(0, .ref (a 0)), (1, ii y1)] [] (c10 K a all saved savedMany errors text textLong rdd readMany q7.1 q7.2.1 place built builtMany parts partMany taken calls lacks callMany total values q7.2.2.1 q7.2.2.2)) hf (fun q7 hf => ?_) (fun j8 hj8 hf => ?_)
      · refine g_iinc X (lv' := [(1, ii (y1 + 1)), (0, .ref (a 0))]) dX10_tellsAll_91 1 rfl (by decide) rfl ?_
        refine g_goto X 12 dX10_tellsAll_94 (by decide) ?_
        refine g_sub (lv' := [(0, .ref (a 0)), (1, ii (y1 + 1))]) [1, 0] rfl ?_
        exact ih (y1 + 1) q7.1 q7.2.1 q7.2.2.1 q7.2.2.2 hf hk
      · refine g_if_le X hf 73 dX10_tellsAll_44 (by decide) (fun hf => ?_) (fun hf => ?_)
        · refine g_iload_n X dX10_tellsAll_73 0 rfl rfl ?_
          obtain ⟨v9, hc10, hf⟩ := Option.bind_eq_some_iff.mp hf
          refine g_callS X (As := [ii v2]) (st := []) (st1 := [ii v9]) (ws' := c10 K a all saved savedMany errors text textLong rdd readMany waits opn place built builtMany parts partMany taken calls lacks callMany total values w3.1 w3.2) (X10_kind_ok K l v2 v9 hc10) gX10_tellsAll_X10_kind rfl 1 (by decide +kernel) ⟨rfl, rfl⟩ ⟨Nat.le_of_ble_eq_true rfl, Nat.le_of_ble_eq_true rfl⟩ ⟨Nat.zero_le _, Nat.zero_le _⟩ rfl rfl (Nat.le_of_ble_eq_true rfl) dX10_tellsAll_74 SG.none rfl ?_
          refine g_iconst X dX10_tellsAll_77 ?_
          refine g_let (G := fun q11 : Arr × Int => GO p l e rmX10_tellsAll s m args below meth c K.1 vwCl (va_A WC s.heap.size) (MQ below (QC K.1 vwCl none WC (c10 K a all saved savedMany errors text textLong rdd readMany res.1 res.2.1 place built builtMany parts partMany taken calls lacks callMany total values res.2.2.1 res.2.2.2) s.heap.size) args s 0 0 (va_A WC s.heap.size)) 3 0 0 87 [(0, .ref (a 0)), (1, ii y1)] [] (c10 K a all saved savedMany errors text textLong rdd readMany waits opn place built builtMany parts partMany taken calls lacks callMany total values q11.1 q11.2)) hf (fun q11 hf => ?_) (fun j12 hj12 hf => ?_)
          · refine g_aload_n X dX10_tellsAll_87 0 rfl rfl ?_
            obtain ⟨w13, hc14, hf⟩ := Option.bind_eq_some_iff.mp hf
            refine g_callV X (As := []) (st := []) (st1 := []) (ws' := c10 K a all saved savedMany errors text textLong rdd readMany w13.1 w13.2.1 place built builtMany parts partMany taken calls lacks callMany total values w13.2.2.1 w13.2.2.2) (X10_tellsEnds_ok K l a all saved savedMany errors text textLong rdd readMany waits opn place built builtMany parts partMany taken calls lacks callMany total values q11.1 q11.2 w13 hc14) gX10_tellsAll_X10_tellsEnds rfl 0 (by decide +kernel) ⟨rfl, rfl⟩ ⟨Nat.le_of_ble_eq_true rfl, Nat.le_of_ble_eq_true rfl⟩ ⟨Nat.zero_le _, Nat.zero_le _⟩ 0 rfl rfl rfl rfl (Nat.le_of_ble_eq_true rfl) dX10_tellsAll_88 (SG.all rfl) rfl ?_
            exact hj8 (w13.1, w13.2.1, w13.2.2.1, w13.2.2.2) hf
          · refine g_icmp_le X hf 87 dX10_tellsAll_78 (by decide) (fun hf => ?_) (fun hf => ?_)
            · refine g_sub (lv' := [(0, .ref (a 0)), (1, ii y1)]) [1, 2] rfl ?_
              exact hj12 (w3.1, w3.2) hf
            · refine g_aload_n X dX10_tellsAll_81 1 rfl rfl ?_
              refine g_bipush X dX10_tellsAll_82 (by decide +kernel) ?_
              obtain ⟨w15, hc16, hf⟩ := Option.bind_eq_some_iff.mp hf
              refine g_callV X (As := [ii 41]) (st := []) (st1 := []) (ws' := c10 K a all saved savedMany errors text textLong rdd readMany waits opn place built builtMany parts partMany taken calls lacks callMany total values w15.1 w15.2) (X10_tells_ok K l a all saved savedMany errors text textLong rdd readMany waits opn place built builtMany parts partMany taken calls lacks callMany total values w3.1 w3.2 41 w15 hc16) gX10_tellsAll_X10_tells rfl 1 (by decide +kernel) ⟨rfl, rfl⟩ ⟨Nat.le_of_ble_eq_true rfl, Nat.le_of_ble_eq_true rfl⟩ ⟨Nat.zero_le _, Nat.zero_le _⟩ 0 rfl rfl rfl rfl (Nat.le_of_ble_eq_true rfl) dX10_tellsAll_84 (SG.all rfl) rfl ?_
              refine g_sub (lv' := [(0, .ref (a 0)), (1, ii y1)]) [1, 2] rfl ?_
              exact hj12 (w15.1, w15.2) hf
        · refine g_aload_n X dX10_tellsAll_47 1 rfl rfl ?_
          refine g_get X (v := .ref (a 6)) 0 8 dX10_tellsAll_48 rfl rfl iw_X10_tellsAll_X10 (by decide) fl_X10_tellsAll_25 rfl ?_
          refine g_aload_n X dX10_tellsAll_51 1 rfl rfl ?_
          refine g_get X (v := ii opn) 0 9 dX10_tellsAll_52 rfl rfl iw_X10_tellsAll_X10 (by decide) fl_X10_tellsAll_157 rfl ?_
          refine g_iload_n X dX10_tellsAll_55 0 rfl rfl ?_
          obtain ⟨v17, hc18, hf⟩ := Option.bind_eq_some_iff.mp hf
          refine g_callS X (As := [ii v2]) (st := [ii opn, .ref (a 6)]) (st1 := [ii v17, ii opn, .ref (a 6)]) (ws' := c10 K a all saved savedMany errors text textLong rdd readMany waits opn place built builtMany parts partMany taken calls lacks callMany total values w3.1 w3.2) (X10_arguments_ok K l v2 v17 hc18) gX10_tellsAll_X10_arguments rfl 1 (by decide +kernel) ⟨rfl, rfl⟩ ⟨Nat.le_of_ble_eq_true rfl, Nat.le_of_ble_eq_true rfl⟩ ⟨Nat.zero_le _, Nat.zero_le _⟩ rfl rfl (Nat.le_of_ble_eq_true rfl) dX10_tellsAll_56 SG.none rfl ?_
          refine g_iast X hf (by decide) 6 0 dX10_tellsAll_59 rfl rfl (fun f19 => c10 K a all saved savedMany errors text textLong rdd readMany f19 opn place built builtMany parts partMany taken calls lacks callMany total values w3.1 w3.2) (fun _ => rfl) (fun f19 hf => ?_)
          refine g_aload_n X dX10_tellsAll_60 1 rfl rfl ?_
          refine g_dup X dX10_tellsAll_61 rfl ?_
          refine g_get X (v := ii opn) 0 9 dX10_tellsAll_62 rfl rfl iw_X10_tellsAll_X10 (by decide) fl_X10_tellsAll_157 rfl ?_
          refine g_iconst X dX10_tellsAll_65 ?_
          refine g_iadd X dX10_tellsAll_66 ?_
          refine g_puti X 0 9 dX10_tellsAll_67 rfl rfl iw_X10_tellsAll_X10 tyX10_ok nmX10 (by decide) fl_X10_tellsAll_157 rfl rfl (Nat.le_of_ble_eq_true rfl) (ws' := c10 K a all saved savedMany errors text textLong rdd readMany f19 (opn + 1) place built builtMany parts partMany taken calls lacks callMany total values w3.1 w3.2) rfl ?_
          refine g_goto X 91 dX10_tellsAll_70 (by decide) ?_
          refine g_sub (lv' := [(0, .ref (a 0)), (1, ii y1)]) [1, 2] rfl ?_
          exact hj8 (f19, (opn + 1), w3.1, w3.2) hf
    · refine g_sub (lv' := []) [] rfl ?_
      exact hk waits opn told toldLong hf
set_option maxHeartbeats 4000000 in
set_option maxRecDepth 100000 in
theorem X10_tellsAll_go (K : KE) (l : Launch) (a : Nat → Nat) (WC : va_W) {p : Program} {e : Env} {s : State} {m : MethodId} {args : Array Value} {below : List Frame} {meth : Method} {c : Code} (X : CX p s m args c K.1 vwCl (kT K) (va_A WC s.heap.size) cX10_tellsAll 3 wsX10_tellsAll RX10) (hr : meth.sig.returnType = none) (hlk : meth.locks = false) (all : Arr) (saved : Arr) (savedMany : Int) (errors : Arr) (text : Arr) (textLong : Int) (rdd : Arr) (readMany : Int) (waits : Arr) (opn : Int) (place : Int) (built : Arr) (builtMany : Int) (parts : Arr) (partMany : Int) (taken : Arr) (calls : Arr) (lacks : Arr) (callMany : Int) (total : Int) (values : Arr) (told : Arr) (toldLong : Int) (res : Arr × Int × Arr × Int) (hf : X10_tellsAll all waits opn told toldLong = some res) : GO p l e rmX10_tellsAll s m args below meth c K.1 vwCl (va_A WC s.heap.size) (MQ below (QC K.1 vwCl none WC (c10 K a all saved savedMany errors text textLong rdd readMany res.1 res.2.1 place built builtMany parts partMany taken calls lacks callMany total values res.2.2.1 res.2.2.2) s.heap.size) args s 0 0 (va_A WC s.heap.size)) 3 0 0 0 [(0, .ref (a 0))] [] (c10 K a all saved savedMany errors text textLong rdd readMany waits opn place built builtMany parts partMany taken calls lacks callMany total values told toldLong) := by
  rw [X10_tellsAll] at hf
  refine g_aload_n X dX10_tellsAll_0 0 rfl rfl ?_
  refine g_iconst X dX10_tellsAll_1 ?_
  refine g_puti X 0 22 dX10_tellsAll_2 rfl rfl iw_X10_tellsAll_X10 tyX10_ok nmX10 (by decide) fl_X10_tellsAll_227 rfl rfl (Nat.le_of_ble_eq_true rfl) (ws' := c10 K a all saved savedMany errors text textLong rdd readMany waits opn place built builtMany parts partMany taken calls lacks callMany total values told 0) rfl ?_
  refine g_aload_n X dX10_tellsAll_5 0 rfl rfl ?_
  refine g_iconst X dX10_tellsAll_6 ?_
  refine g_puti X 0 9 dX10_tellsAll_7 rfl rfl iw_X10_tellsAll_X10 tyX10_ok nmX10 (by decide) fl_X10_tellsAll_157 rfl rfl (Nat.le_of_ble_eq_true rfl) (ws' := c10 K a all saved savedMany errors text textLong rdd readMany waits 0 place built builtMany parts partMany taken calls lacks callMany total values told 0) rfl ?_
  refine g_iconst X dX10_tellsAll_10 ?_
  refine g_istore_n X (lv' := [(1, ii 0), (0, .ref (a 0))]) dX10_tellsAll_11 rfl (by decide) rfl ?_
  refine g_sub (lv' := [(0, .ref (a 0)), (1, ii 0)]) [1, 0] rfl ?_
  refine X10_tellsAll_L12_ok K l a WC X hr hlk all saved savedMany errors text textLong rdd readMany place built builtMany parts partMany taken calls lacks callMany total values res FU 0 waits 0 told 0 hf (fun w20 w21 w22 w23 hf => ?_)
  cases hf
  exact g_vret X hr hlk dX10_tellsAll_97
set_option maxHeartbeats 4000000 in
set_option maxRecDepth 100000 in
theorem X10_tellsAll_ok (K : KE) (l : Launch) (a : Nat → Nat) (all : Arr) (saved : Arr) (savedMany : Int) (errors : Arr) (text : Arr) (textLong : Int) (rdd : Arr) (readMany : Int) (waits : Arr) (opn : Int) (place : Int) (built : Arr) (builtMany : Int) (parts : Arr) (partMany : Int) (taken : Arr) (calls : Arr) (lacks : Arr) (callMany : Int) (total : Int) (values : Arr) (told : Arr) (toldLong : Int) (res : Arr × Int × Arr × Int) (hf : X10_tellsAll all waits opn told toldLong = some res) : CT l K.1 vwCl (kT K) yX10_tellsAll wsX10_tellsAll rmX10_tellsAll [.ref (a 0)] none (c10 K a all saved savedMany errors text textLong rdd readMany waits opn place built builtMany parts partMany taken calls lacks callMany total values told toldLong) (c10 K a all saved savedMany errors text textLong rdd readMany res.1 res.2.1 place built builtMany parts partMany taken calls lacks callMany total values res.2.2.1 res.2.2.2) :=
  CT.mk (cc := cX10_tellsAll) (maxL := 3) (ret := none) (by decide) rfl (Nat.le_of_ble_eq_true rfl) (fun p e s m below meth c X hr hlk => X10_tellsAll_go K l a _ X hr hlk all saved savedMany errors text textLong rdd readMany waits opn place built builtMany parts partMany taken calls lacks callMany total values told toldLong res hf)
theorem iw_X10_textByte_X10 : ∀ w ∈ u_ws RX10 TX10 23, w ∈ wsX10_textByte := by decide +kernel
theorem fl_X10_textByte_227 : Cond.fieldLink RX10 227 (TX10 22).1 (TX10 22).2.1 (TX10 22).2.2.1 ∈ wsX10_textByte := by decide +kernel
theorem fl_X10_textByte_46 : Cond.fieldLink RX10 46 (TX10 21).1 (TX10 21).2.1 (TX10 21).2.2.1 ∈ wsX10_textByte := by decide +kernel
def rmX10_textByte : Room := { frames := 3, cells := 0, slots := 0, locals := 65 }
def X10_textByte (all : Arr) (errors : Arr) (waits : Arr) (opn : Int) (told : Arr) (toldLong : Int) (p1 : Int) : Option (Int × Arr × Arr × Int × Arr × Int) := brLT p1 (-1) ((X10_error errors (-2)).bind (fun w1 => some (w1.1, w1.2, waits, opn, told, toldLong))) ((X10_tellsAll all waits opn told toldLong).bind (fun w3 => brEQ p1 (-1) (some (w3.2.2.2, errors, w3.1, w3.2.1, w3.2.2.1, w3.2.2.2)) (brLT p1 w3.2.2.2 (rdK 200 w3.2.2.1 p1 (fun v5 => some (v5, errors, w3.1, w3.2.1, w3.2.2.1, w3.2.2.2))) (some ((-1), errors, w3.1, w3.2.1, w3.2.2.1, w3.2.2.2)))))
set_option maxHeartbeats 4000000 in
set_option maxRecDepth 100000 in
theorem X10_textByte_go (K : KE) (l : Launch) (a : Nat → Nat) (WC : va_W) {p : Program} {e : Env} {s : State} {m : MethodId} {args : Array Value} {below : List Frame} {meth : Method} {c : Code} (X : CX p s m args c K.1 vwCl (kT K) (va_A WC s.heap.size) cX10_textByte 2 wsX10_textByte RX10) (hr : meth.sig.returnType = (some .int)) (hlk : meth.locks = false) (all : Arr) (saved : Arr) (savedMany : Int) (errors : Arr) (text : Arr) (textLong : Int) (rdd : Arr) (readMany : Int) (waits : Arr) (opn : Int) (place : Int) (built : Arr) (builtMany : Int) (parts : Arr) (partMany : Int) (taken : Arr) (calls : Arr) (lacks : Arr) (callMany : Int) (total : Int) (values : Arr) (told : Arr) (toldLong : Int) (p1 : Int) (res : Int × Arr × Arr × Int × Arr × Int) (hf : X10_textByte all errors waits opn told toldLong p1 = some res) : GO p l e rmX10_textByte s m args below meth c K.1 vwCl (va_A WC s.heap.size) (MQ below (QC K.1 vwCl (some (ii res.1)) WC (c10 K a all saved savedMany res.2.1 text textLong rdd readMany res.2.2.1 res.2.2.2.1 place built builtMany parts partMany taken calls lacks callMany total values res.2.2.2.2.1 res.2.2.2.2.2) s.heap.size) args s 0 0 (va_A WC s.heap.size)) 2 0 0 0 [(0, .ref (a 0)), (1, ii p1)] [] (c10 K a all saved savedMany errors text textLong rdd readMany waits opn place built builtMany parts partMany taken calls lacks callMany total values told toldLong) := by
  rw [X10_textByte] at hf
  refine g_iload_n X dX10_textByte_0 1 rfl rfl ?_
  refine g_iconst X dX10_textByte_1 ?_
  refine g_icmp_ge X hf 12 dX10_textByte_2 (by decide) (fun hf => ?_) (fun hf => ?_)
  · refine g_aload_n X dX10_textByte_5 0 rfl rfl ?_
    refine g_bipush X dX10_textByte_6 (by decide +kernel) ?_
    obtain ⟨w1, hc2, hf⟩ := Option.bind_eq_some_iff.mp hf
    refine g_callV X (As := [ii (-2)]) (st := []) (st1 := [ii w1.1]) (ws' := c10 K a all saved savedMany w1.2 text textLong rdd readMany waits opn place built builtMany parts partMany taken calls lacks callMany total values told toldLong) (X10_error_ok K l a all saved savedMany errors text textLong rdd readMany waits opn place built builtMany parts partMany taken calls lacks callMany total values told toldLong (-2) w1 hc2) gX10_textByte_X10_error rfl 1 (by decide +kernel) ⟨rfl, rfl⟩ ⟨Nat.le_of_ble_eq_true rfl, Nat.le_of_ble_eq_true rfl⟩ ⟨Nat.zero_le _, Nat.zero_le _⟩ 0 rfl rfl rfl rfl (Nat.le_of_ble_eq_true rfl) dX10_textByte_8 (SG.all rfl) rfl ?_
    cases hf
    exact g_iret X hr hlk dX10_textByte_11
  · refine g_aload_n X dX10_textByte_12 0 rfl rfl ?_
    obtain ⟨w3, hc4, hf⟩ := Option.bind_eq_some_iff.mp hf
    refine g_callV X (As := []) (st := []) (st1 := []) (ws' := c10 K a all saved savedMany errors text textLong rdd readMany w3.1 w3.2.1 place built builtMany parts partMany taken calls lacks callMany total values w3.2.2.1 w3.2.2.2) (X10_tellsAll_ok K l a all saved savedMany errors text textLong rdd readMany waits opn place built builtMany parts partMany taken calls lacks callMany total values told toldLong w3 hc4) gX10_textByte_X10_tellsAll rfl 0 (by decide +kernel) ⟨rfl, rfl⟩ ⟨Nat.le_of_ble_eq_true rfl, Nat.le_of_ble_eq_true rfl⟩ ⟨Nat.zero_le _, Nat.zero_le _⟩ 0 rfl rfl rfl rfl (Nat.le_of_ble_eq_true rfl) dX10_textByte_13 (SG.all rfl) rfl ?_
    refine g_iload_n X dX10_textByte_16 1 rfl rfl ?_
    refine g_iconst X dX10_textByte_17 ?_
    refine g_icmp_ne X hf 28 dX10_textByte_18 (by decide) (fun hf => ?_) (fun hf => ?_)
    · refine g_aload_n X dX10_textByte_21 0 rfl rfl ?_
      refine g_get X (v := ii w3.2.2.2) 0 22 dX10_textByte_22 rfl rfl iw_X10_textByte_X10 (by decide) fl_X10_textByte_227 rfl ?_
      refine g_goto X 46 dX10_textByte_25 (by decide) ?_
      cases hf
      exact g_iret X hr hlk dX10_textByte_46
    · refine g_iload_n X dX10_textByte_28 1 rfl rfl ?_
      refine g_aload_n X dX10_textByte_29 0 rfl rfl ?_
      refine g_get X (v := ii w3.2.2.2) 0 22 dX10_textByte_30 rfl rfl iw_X10_textByte_X10 (by decide) fl_X10_textByte_227 rfl ?_
      refine g_icmp_ge X hf 45 dX10_textByte_33 (by decide) (fun hf => ?_) (fun hf => ?_)
      · refine g_aload_n X dX10_textByte_36 0 rfl rfl ?_
        refine g_get X (v := .ref (a 13)) 0 21 dX10_textByte_37 rfl rfl iw_X10_textByte_X10 (by decide) fl_X10_textByte_46 rfl ?_
        refine g_iload_n X dX10_textByte_40 1 rfl rfl ?_
        refine g_iald X hf (by decide) 13 0 dX10_textByte_41 rfl rfl (fun v5 hf => ?_)
        refine g_goto X 46 dX10_textByte_42 (by decide) ?_
        cases hf
        exact g_iret X hr hlk dX10_textByte_46
      · refine g_iconst X dX10_textByte_45 ?_
        cases hf
        exact g_iret X hr hlk dX10_textByte_46
set_option maxHeartbeats 4000000 in
set_option maxRecDepth 100000 in
theorem X10_textByte_ok (K : KE) (l : Launch) (a : Nat → Nat) (all : Arr) (saved : Arr) (savedMany : Int) (errors : Arr) (text : Arr) (textLong : Int) (rdd : Arr) (readMany : Int) (waits : Arr) (opn : Int) (place : Int) (built : Arr) (builtMany : Int) (parts : Arr) (partMany : Int) (taken : Arr) (calls : Arr) (lacks : Arr) (callMany : Int) (total : Int) (values : Arr) (told : Arr) (toldLong : Int) (p1 : Int) (res : Int × Arr × Arr × Int × Arr × Int) (hf : X10_textByte all errors waits opn told toldLong p1 = some res) : CT l K.1 vwCl (kT K) yX10_textByte wsX10_textByte rmX10_textByte [.ref (a 0), ii p1] (some (ii res.1)) (c10 K a all saved savedMany errors text textLong rdd readMany waits opn place built builtMany parts partMany taken calls lacks callMany total values told toldLong) (c10 K a all saved savedMany res.2.1 text textLong rdd readMany res.2.2.1 res.2.2.2.1 place built builtMany parts partMany taken calls lacks callMany total values res.2.2.2.2.1 res.2.2.2.2.2) :=
  CT.mk (cc := cX10_textByte) (maxL := 2) (ret := (some .int)) (by decide) rfl (Nat.le_of_ble_eq_true rfl) (fun p e s m below meth c X hr hlk => X10_textByte_go K l a _ X hr hlk all saved savedMany errors text textLong rdd readMany waits opn place built builtMany parts partMany taken calls lacks callMany total values told toldLong p1 res hf)
theorem iw_X10_undo_X10 : ∀ w ∈ u_ws RX10 TX10 23, w ∈ wsX10_undo := by decide +kernel
theorem fl_X10_undo_49 : Cond.fieldLink RX10 49 (TX10 2).1 (TX10 2).2.1 (TX10 2).2.2.1 ∈ wsX10_undo := by decide +kernel
theorem fl_X10_undo_7 : Cond.fieldLink RX10 7 (TX10 0).1 (TX10 0).2.1 (TX10 0).2.2.1 ∈ wsX10_undo := by decide +kernel
theorem fl_X10_undo_13 : Cond.fieldLink RX10 13 (TX10 1).1 (TX10 1).2.1 (TX10 1).2.2.1 ∈ wsX10_undo := by decide +kernel
def rmX10_undo : Room := { frames := 1, cells := 0, slots := 0, locals := 21 }
def X10_undo_L26 (kx : Arr → Option (Int × Arr × Int × Arr)) (saved : Arr) (savedMany : Int) (errors : Arr) : Nat → Int → Arr → Option (Int × Arr × Int × Arr)
  | 0, _, _ => none
  | n + 1, y1, all => brLT y1 186 (rdK 744 saved ((186 * savedMany) + y1) (fun v3 => wrK 186 all y1 v3 (fun f4 => X10_undo_L26 kx saved savedMany errors n (y1 + 1) f4))) (kx all)
def X10_undo (all : Arr) (saved : Arr) (savedMany : Int) (errors : Arr) : Option (Int × Arr × Int × Arr) := brEQ savedMany 0 ((X10_error errors (-5)).bind (fun w1 => some (w1.1, all, savedMany, w1.2))) (X10_undo_L26 (fun w5 => some ((savedMany - 1), w5, (savedMany - 1), errors)) saved (savedMany - 1) errors FU 0 all)
set_option maxHeartbeats 4000000 in
set_option maxRecDepth 100000 in
theorem X10_undo_L26_ok (K : KE) (l : Launch) (a : Nat → Nat) (WC : va_W) {p : Program} {e : Env} {s : State} {m : MethodId} {args : Array Value} {below : List Frame} {meth : Method} {c : Code} (X : CX p s m args c K.1 vwCl (kT K) (va_A WC s.heap.size) cX10_undo 2 wsX10_undo RX10) (hr : meth.sig.returnType = (some .int)) (hlk : meth.locks = false) (saved : Arr) (savedMany : Int) (errors : Arr) (text : Arr) (textLong : Int) (rdd : Arr) (readMany : Int) (waits : Arr) (opn : Int) (place : Int) (built : Arr) (builtMany : Int) (parts : Arr) (partMany : Int) (taken : Arr) (calls : Arr) (lacks : Arr) (callMany : Int) (total : Int) (values : Arr) (told : Arr) (toldLong : Int)  (res : Int × Arr × Int × Arr) {kx : Arr → Option (Int × Arr × Int × Arr)} : ∀ (n : Nat) (y1 : Int) (all : Arr), X10_undo_L26 kx saved savedMany errors n y1 all = some res → (∀ (allz : Arr), kx allz = some res → GO p l e rmX10_undo s m args below meth c K.1 vwCl (va_A WC s.heap.size) (MQ below (QC K.1 vwCl (some (ii res.1)) WC (c10 K a res.2.1 saved res.2.2.1 res.2.2.2 text textLong rdd readMany waits opn place built builtMany parts partMany taken calls lacks callMany total values told toldLong) s.heap.size) args s 0 0 (va_A WC s.heap.size)) 2 0 0 60 [(0, .ref (a 0))] [] (c10 K a allz saved savedMany errors text textLong rdd readMany waits opn place built builtMany parts partMany taken calls lacks callMany total values told toldLong)) → GO p l e rmX10_undo s m args below meth c K.1 vwCl (va_A WC s.heap.size) (MQ below (QC K.1 vwCl (some (ii res.1)) WC (c10 K a res.2.1 saved res.2.2.1 res.2.2.2 text textLong rdd readMany waits opn place built builtMany parts partMany taken calls lacks callMany total values told toldLong) s.heap.size) args s 0 0 (va_A WC s.heap.size)) 2 0 0 26 [(0, .ref (a 0)), (1, ii y1)] [] (c10 K a all saved savedMany errors text textLong rdd readMany waits opn place built builtMany parts partMany taken calls lacks callMany total values told toldLong) := by
  intro n
  induction n with
  | zero =>
    intro y1 all hf _
    rw [X10_undo_L26] at hf
    cases hf
  | succ n ih =>
    intro y1 all hf hk
    rw [X10_undo_L26] at hf
    refine g_iload_n X dX10_undo_26 1 rfl rfl ?_
    refine g_sipush X dX10_undo_27 (by decide +kernel) ?_
    refine g_icmp_ge X hf 60 dX10_undo_30 (by decide) (fun hf => ?_) (fun hf => ?_)
    · refine g_aload_n X dX10_undo_33 0 rfl rfl ?_
      refine g_get X (v := .ref (a 1)) 0 0 dX10_undo_34 rfl rfl iw_X10_undo_X10 (by decide) fl_X10_undo_7 rfl ?_
      refine g_iload_n X dX10_undo_37 1 rfl rfl ?_
      refine g_aload_n X dX10_undo_38 0 rfl rfl ?_
      refine g_get X (v := .ref (a 2)) 0 1 dX10_undo_39 rfl rfl iw_X10_undo_X10 (by decide) fl_X10_undo_13 rfl ?_
      refine g_sipush X dX10_undo_42 (by decide +kernel) ?_
      refine g_aload_n X dX10_undo_45 0 rfl rfl ?_
      refine g_get X (v := ii savedMany) 0 2 dX10_undo_46 rfl rfl iw_X10_undo_X10 (by decide) fl_X10_undo_49 rfl ?_
      refine g_imul X dX10_undo_49 ?_
      refine g_iload_n X dX10_undo_50 1 rfl rfl ?_
      refine g_iadd X dX10_undo_51 ?_
      refine g_iald X hf (by decide) 2 0 dX10_undo_52 rfl rfl (fun v3 hf => ?_)
      refine g_iast X hf (by decide) 1 0 dX10_undo_53 rfl rfl (fun f4 => c10 K a f4 saved savedMany errors text textLong rdd readMany waits opn place built builtMany parts partMany taken calls lacks callMany total values told toldLong) (fun _ => rfl) (fun f4 hf => ?_)
      refine g_iinc X (lv' := [(1, ii (y1 + 1)), (0, .ref (a 0))]) dX10_undo_54 1 rfl (by decide) rfl ?_
      refine g_goto X 26 dX10_undo_57 (by decide) ?_
      refine g_sub (lv' := [(0, .ref (a 0)), (1, ii (y1 + 1))]) [1, 0] rfl ?_
      exact ih (y1 + 1) f4 hf hk
    · refine g_sub (lv' := [(0, .ref (a 0))]) [0] rfl ?_
      exact hk all hf
set_option maxHeartbeats 4000000 in
set_option maxRecDepth 100000 in
theorem X10_undo_go (K : KE) (l : Launch) (a : Nat → Nat) (WC : va_W) {p : Program} {e : Env} {s : State} {m : MethodId} {args : Array Value} {below : List Frame} {meth : Method} {c : Code} (X : CX p s m args c K.1 vwCl (kT K) (va_A WC s.heap.size) cX10_undo 2 wsX10_undo RX10) (hr : meth.sig.returnType = (some .int)) (hlk : meth.locks = false) (all : Arr) (saved : Arr) (savedMany : Int) (errors : Arr) (text : Arr) (textLong : Int) (rdd : Arr) (readMany : Int) (waits : Arr) (opn : Int) (place : Int) (built : Arr) (builtMany : Int) (parts : Arr) (partMany : Int) (taken : Arr) (calls : Arr) (lacks : Arr) (callMany : Int) (total : Int) (values : Arr) (told : Arr) (toldLong : Int) (res : Int × Arr × Int × Arr) (hf : X10_undo all saved savedMany errors = some res) : GO p l e rmX10_undo s m args below meth c K.1 vwCl (va_A WC s.heap.size) (MQ below (QC K.1 vwCl (some (ii res.1)) WC (c10 K a res.2.1 saved res.2.2.1 res.2.2.2 text textLong rdd readMany waits opn place built builtMany parts partMany taken calls lacks callMany total values told toldLong) s.heap.size) args s 0 0 (va_A WC s.heap.size)) 2 0 0 0 [(0, .ref (a 0))] [] (c10 K a all saved savedMany errors text textLong rdd readMany waits opn place built builtMany parts partMany taken calls lacks callMany total values told toldLong) := by
  rw [X10_undo] at hf
  refine g_aload_n X dX10_undo_0 0 rfl rfl ?_
  refine g_get X (v := ii savedMany) 0 2 dX10_undo_1 rfl rfl iw_X10_undo_X10 (by decide) fl_X10_undo_49 rfl ?_
  refine g_if_ne X hf 14 dX10_undo_4 (by decide) (fun hf => ?_) (fun hf => ?_)
  · refine g_aload_n X dX10_undo_7 0 rfl rfl ?_
    refine g_bipush X dX10_undo_8 (by decide +kernel) ?_
    obtain ⟨w1, hc2, hf⟩ := Option.bind_eq_some_iff.mp hf
    refine g_callV X (As := [ii (-5)]) (st := []) (st1 := [ii w1.1]) (ws' := c10 K a all saved savedMany w1.2 text textLong rdd readMany waits opn place built builtMany parts partMany taken calls lacks callMany total values told toldLong) (X10_error_ok K l a all saved savedMany errors text textLong rdd readMany waits opn place built builtMany parts partMany taken calls lacks callMany total values told toldLong (-5) w1 hc2) gX10_undo_X10_error rfl 1 (by decide +kernel) ⟨rfl, rfl⟩ ⟨Nat.le_of_ble_eq_true rfl, Nat.le_of_ble_eq_true rfl⟩ ⟨Nat.zero_le _, Nat.zero_le _⟩ 0 rfl rfl rfl rfl (Nat.le_of_ble_eq_true rfl) dX10_undo_10 (SG.all rfl) rfl ?_
    cases hf
    exact g_iret X hr hlk dX10_undo_13
  · refine g_aload_n X dX10_undo_14 0 rfl rfl ?_
    refine g_dup X dX10_undo_15 rfl ?_
    refine g_get X (v := ii savedMany) 0 2 dX10_undo_16 rfl rfl iw_X10_undo_X10 (by decide) fl_X10_undo_49 rfl ?_
    refine g_iconst X dX10_undo_19 ?_
    refine g_isub X dX10_undo_20 ?_
    refine g_puti X 0 2 dX10_undo_21 rfl rfl iw_X10_undo_X10 tyX10_ok nmX10 (by decide) fl_X10_undo_49 rfl rfl (Nat.le_of_ble_eq_true rfl) (ws' := c10 K a all saved (savedMany - 1) errors text textLong rdd readMany waits opn place built builtMany parts partMany taken calls lacks callMany total values told toldLong) rfl ?_
    refine g_iconst X dX10_undo_24 ?_
    refine g_istore_n X (lv' := [(1, ii 0), (0, .ref (a 0))]) dX10_undo_25 rfl (by decide) rfl ?_
    refine g_sub (lv' := [(0, .ref (a 0)), (1, ii 0)]) [1, 0] rfl ?_
    refine X10_undo_L26_ok K l a WC X hr hlk saved (savedMany - 1) errors text textLong rdd readMany waits opn place built builtMany parts partMany taken calls lacks callMany total values told toldLong res FU 0 all hf (fun w5 hf => ?_)
    refine g_aload_n X dX10_undo_60 0 rfl rfl ?_
    refine g_get X (v := ii (savedMany - 1)) 0 2 dX10_undo_61 rfl rfl iw_X10_undo_X10 (by decide) fl_X10_undo_49 rfl ?_
    cases hf
    exact g_iret X hr hlk dX10_undo_64
set_option maxHeartbeats 4000000 in
set_option maxRecDepth 100000 in
theorem X10_undo_ok (K : KE) (l : Launch) (a : Nat → Nat) (all : Arr) (saved : Arr) (savedMany : Int) (errors : Arr) (text : Arr) (textLong : Int) (rdd : Arr) (readMany : Int) (waits : Arr) (opn : Int) (place : Int) (built : Arr) (builtMany : Int) (parts : Arr) (partMany : Int) (taken : Arr) (calls : Arr) (lacks : Arr) (callMany : Int) (total : Int) (values : Arr) (told : Arr) (toldLong : Int) (res : Int × Arr × Int × Arr) (hf : X10_undo all saved savedMany errors = some res) : CT l K.1 vwCl (kT K) yX10_undo wsX10_undo rmX10_undo [.ref (a 0)] (some (ii res.1)) (c10 K a all saved savedMany errors text textLong rdd readMany waits opn place built builtMany parts partMany taken calls lacks callMany total values told toldLong) (c10 K a res.2.1 saved res.2.2.1 res.2.2.2 text textLong rdd readMany waits opn place built builtMany parts partMany taken calls lacks callMany total values told toldLong) :=
  CT.mk (cc := cX10_undo) (maxL := 2) (ret := (some .int)) (by decide) rfl (Nat.le_of_ble_eq_true rfl) (fun p e s m below meth c X hr hlk => X10_undo_go K l a _ X hr hlk all saved savedMany errors text textLong rdd readMany waits opn place built builtMany parts partMany taken calls lacks callMany total values told toldLong res hf)
theorem wd_X10_errorCount_cl242 : Jvm.Cond.constantLong RX10 242 (-5) ∈ wsX10_errorCount := by decide +kernel
theorem wd_X10_errorCount_cl244 : Jvm.Cond.constantLong RX10 244 (-2) ∈ wsX10_errorCount := by decide +kernel
theorem iw_X10_errorCount_X10 : ∀ w ∈ u_ws RX10 TX10 23, w ∈ wsX10_errorCount := by decide +kernel
theorem fl_X10_errorCount_16 : Cond.fieldLink RX10 16 (TX10 3).1 (TX10 3).2.1 (TX10 3).2.2.1 ∈ wsX10_errorCount := by decide +kernel
def rmX10_errorCount : Room := { frames := 1, cells := 0, slots := 0, locals := 25 }
def X10_errorCount (errors : Arr) (p1 : Int) : Option (Int × Arr) := lgK p1 ((X10_in p1 (-5) (-2)).bind (fun v1 => brEQ v1 0 ((X10_error errors (-2)).bind (fun w3 => some (w3.1, w3.2))) (rdK 4 errors ((-2) - p1) (fun v5 => some (v5, errors)))))
set_option maxHeartbeats 4000000 in
set_option maxRecDepth 100000 in
theorem X10_errorCount_go (K : KE) (l : Launch) (a : Nat → Nat) (WC : va_W) {p : Program} {e : Env} {s : State} {m : MethodId} {args : Array Value} {below : List Frame} {meth : Method} {c : Code} (X : CX p s m args c K.1 vwCl (kT K) (va_A WC s.heap.size) cX10_errorCount 2 wsX10_errorCount RX10) (hr : meth.sig.returnType = (some .int)) (hlk : meth.locks = false) (all : Arr) (saved : Arr) (savedMany : Int) (errors : Arr) (text : Arr) (textLong : Int) (rdd : Arr) (readMany : Int) (waits : Arr) (opn : Int) (place : Int) (built : Arr) (builtMany : Int) (parts : Arr) (partMany : Int) (taken : Arr) (calls : Arr) (lacks : Arr) (callMany : Int) (total : Int) (values : Arr) (told : Arr) (toldLong : Int) (p1 : Int) (res : Int × Arr) (hf : X10_errorCount errors p1 = some res) : GO p l e rmX10_errorCount s m args below meth c K.1 vwCl (va_A WC s.heap.size) (MQ below (QC K.1 vwCl (some (ii res.1)) WC (c10 K a all saved savedMany res.2 text textLong rdd readMany waits opn place built builtMany parts partMany taken calls lacks callMany total values told toldLong) s.heap.size) args s 0 0 (va_A WC s.heap.size)) 2 0 0 0 [(0, .ref (a 0)), (1, ii p1)] [] (c10 K a all saved savedMany errors text textLong rdd readMany waits opn place built builtMany parts partMany taken calls lacks callMany total values told toldLong) := by
  rw [X10_errorCount] at hf
  refine g_iload_n X dX10_errorCount_0 1 rfl rfl ?_
  refine g_i2l X hf dX10_errorCount_1 (fun hf => ?_)
  refine g_ldc2 X (-5) dX10_errorCount_2 wd_X10_errorCount_cl242 (by decide +kernel) ?_
  refine g_ldc2 X (-2) dX10_errorCount_5 wd_X10_errorCount_cl244 (by decide +kernel) ?_
  obtain ⟨v1, hc2, hf⟩ := Option.bind_eq_some_iff.mp hf
  refine g_callS X (As := [ll p1, ll (-5), ll (-2)]) (st := []) (st1 := [ii v1]) (ws' := c10 K a all saved savedMany errors text textLong rdd readMany waits opn place built builtMany parts partMany taken calls lacks callMany total values told toldLong) (X10_in_ok K l p1 (-5) (-2) v1 hc2) gX10_errorCount_X10_in rfl 3 (by decide +kernel) ⟨rfl, rfl⟩ ⟨Nat.le_of_ble_eq_true rfl, Nat.le_of_ble_eq_true rfl⟩ ⟨Nat.zero_le _, Nat.zero_le _⟩ rfl rfl (Nat.le_of_ble_eq_true rfl) dX10_errorCount_8 SG.none rfl ?_
  refine g_if_eq X hf 26 dX10_errorCount_11 (by decide) (fun hf => ?_) (fun hf => ?_)
  · refine g_aload_n X dX10_errorCount_26 0 rfl rfl ?_
    refine g_bipush X dX10_errorCount_27 (by decide +kernel) ?_
    obtain ⟨w3, hc4, hf⟩ := Option.bind_eq_some_iff.mp hf
    refine g_callV X (As := [ii (-2)]) (st := []) (st1 := [ii w3.1]) (ws' := c10 K a all saved savedMany w3.2 text textLong rdd readMany waits opn place built builtMany parts partMany taken calls lacks callMany total values told toldLong) (X10_error_ok K l a all saved savedMany errors text textLong rdd readMany waits opn place built builtMany parts partMany taken calls lacks callMany total values told toldLong (-2) w3 hc4) gX10_errorCount_X10_error rfl 1 (by decide +kernel) ⟨rfl, rfl⟩ ⟨Nat.le_of_ble_eq_true rfl, Nat.le_of_ble_eq_true rfl⟩ ⟨Nat.zero_le _, Nat.zero_le _⟩ 0 rfl rfl rfl rfl (Nat.le_of_ble_eq_true rfl) dX10_errorCount_29 (SG.all rfl) rfl ?_
    cases hf
    exact g_iret X hr hlk dX10_errorCount_32
  · refine g_aload_n X dX10_errorCount_14 0 rfl rfl ?_
    refine g_get X (v := .ref (a 3)) 0 3 dX10_errorCount_15 rfl rfl iw_X10_errorCount_X10 (by decide) fl_X10_errorCount_16 rfl ?_
    refine g_bipush X dX10_errorCount_18 (by decide +kernel) ?_
    refine g_iload_n X dX10_errorCount_20 1 rfl rfl ?_
    refine g_isub X dX10_errorCount_21 ?_
    refine g_iald X hf (by decide) 3 0 dX10_errorCount_22 rfl rfl (fun v5 hf => ?_)
    refine g_goto X 32 dX10_errorCount_23 (by decide) ?_
    cases hf
    exact g_iret X hr hlk dX10_errorCount_32
set_option maxHeartbeats 4000000 in
set_option maxRecDepth 100000 in
theorem X10_errorCount_ok (K : KE) (l : Launch) (a : Nat → Nat) (all : Arr) (saved : Arr) (savedMany : Int) (errors : Arr) (text : Arr) (textLong : Int) (rdd : Arr) (readMany : Int) (waits : Arr) (opn : Int) (place : Int) (built : Arr) (builtMany : Int) (parts : Arr) (partMany : Int) (taken : Arr) (calls : Arr) (lacks : Arr) (callMany : Int) (total : Int) (values : Arr) (told : Arr) (toldLong : Int) (p1 : Int) (res : Int × Arr) (hf : X10_errorCount errors p1 = some res) : CT l K.1 vwCl (kT K) yX10_errorCount wsX10_errorCount rmX10_errorCount [.ref (a 0), ii p1] (some (ii res.1)) (c10 K a all saved savedMany errors text textLong rdd readMany waits opn place built builtMany parts partMany taken calls lacks callMany total values told toldLong) (c10 K a all saved savedMany res.2 text textLong rdd readMany waits opn place built builtMany parts partMany taken calls lacks callMany total values told toldLong) :=
  CT.mk (cc := cX10_errorCount) (maxL := 2) (ret := (some .int)) (by decide) rfl (Nat.le_of_ble_eq_true rfl) (fun p e s m below meth c X hr hlk => X10_errorCount_go K l a _ X hr hlk all saved savedMany errors text textLong rdd readMany waits opn place built builtMany parts partMany taken calls lacks callMany total values told toldLong p1 res hf)
theorem wd_X10_digest_cl246 : Jvm.Cond.constantLong RX10 246 (2683) ∈ wsX10_digest := by decide +kernel
theorem wd_X10_digest_cl248 : Jvm.Cond.constantLong RX10 248 (31) ∈ wsX10_digest := by decide +kernel
theorem iw_X10_digest_X10 : ∀ w ∈ u_ws RX10 TX10 23, w ∈ wsX10_digest := by decide +kernel
theorem fl_X10_digest_16 : Cond.fieldLink RX10 16 (TX10 3).1 (TX10 3).2.1 (TX10 3).2.2.1 ∈ wsX10_digest := by decide +kernel
theorem fl_X10_digest_119 : Cond.fieldLink RX10 119 (TX10 5).1 (TX10 5).2.1 (TX10 5).2.2.1 ∈ wsX10_digest := by decide +kernel
theorem fl_X10_digest_7 : Cond.fieldLink RX10 7 (TX10 0).1 (TX10 0).2.1 (TX10 0).2.2.1 ∈ wsX10_digest := by decide +kernel
theorem fl_X10_digest_227 : Cond.fieldLink RX10 227 (TX10 22).1 (TX10 22).2.1 (TX10 22).2.2.1 ∈ wsX10_digest := by decide +kernel
theorem fl_X10_digest_46 : Cond.fieldLink RX10 46 (TX10 21).1 (TX10 21).2.1 (TX10 21).2.2.1 ∈ wsX10_digest := by decide +kernel
theorem fl_X10_digest_49 : Cond.fieldLink RX10 49 (TX10 2).1 (TX10 2).2.1 (TX10 2).2.2.1 ∈ wsX10_digest := by decide +kernel
def rmX10_digest : Room := { frames := 4, cells := 0, slots := 0, locals := 91 }
def X10_digest_L6 (kx : Int → Option (Int × Arr × Int × Arr × Int)) (all : Arr) (savedMany : Int) (errors : Arr) (textLong : Int) (waits : Arr) (opn : Int) (told : Arr) (toldLong : Int) : Nat → Int → Int → Option (Int × Arr × Int × Arr × Int)
  | 0, _, _ => none
  | n + 1, y1, y3 => brLT y3 4 (rdK 4 errors y3 (fun v1 => lgK v1 (X10_digest_L6 kx all savedMany errors textLong waits opn told toldLong n ((31 * y1) + v1) (y3 + 1)))) (kx y1)
def X10_digest_L45 (kx : Int → Option (Int × Arr × Int × Arr × Int)) (all : Arr) (savedMany : Int) (errors : Arr) (textLong : Int) (waits : Arr) (opn : Int) (told : Arr) (toldLong : Int) : Nat → Int → Int → Option (Int × Arr × Int × Arr × Int)
  | 0, _, _ => none
  | n + 1, y1, y3 => brLT y3 84 (rdK 186 all y3 (fun v3 => lgK v3 (X10_digest_L45 kx all savedMany errors textLong waits opn told toldLong n ((31 * y1) + v3) (y3 + 1)))) (kx y1)
def X10_digest_L73 (kx : Int → Option (Int × Arr × Int × Arr × Int)) (all : Arr) (savedMany : Int) (errors : Arr) (textLong : Int) (waits : Arr) (opn : Int) (told : Arr) (toldLong : Int) : Nat → Int → Int → Option (Int × Arr × Int × Arr × Int)
  | 0, _, _ => none
  | n + 1, y1, y3 => brLT y3 6 ((X10_newOf all y3).bind (fun v5 => ltK (fun q7 : Int => lgK q7 ((X10_adapter all y3).bind (fun v9 => lgK v9 (X10_digest_L73 kx all savedMany errors textLong waits opn told toldLong n ((31 * ((31 * y1) + q7)) + v9) (y3 + 1))))) (fun j8 => brEQ v5 (-1) (j8 0) ((X10_faithful all y3).bind (fun v11 => j8 (1 + v11)))))) (kx y1)
def X10_digest_L148 (kx : Int → Option (Int × Arr × Int × Arr × Int)) (all : Arr) (savedMany : Int) (errors : Arr) (textLong : Int) (waits : Arr) (opn : Int) (told : Arr) (toldLong : Int) : Nat → Int → Int → Option (Int × Arr × Int × Arr × Int)
  | 0, _, _ => none
  | n + 1, y1, y3 => brLT y3 toldLong (rdK 200 told y3 (fun v17 => lgK v17 (X10_digest_L148 kx all savedMany errors textLong waits opn told toldLong n ((31 * y1) + v17) (y3 + 1)))) (kx y1)
def X10_digest_L190 (kx : Int → Option (Int × Arr × Int × Arr × Int)) (all : Arr) (savedMany : Int) (errors : Arr) (textLong : Int) (waits : Arr) (opn : Int) (told : Arr) (toldLong : Int) : Nat → Int → Int → Option (Int × Arr × Int × Arr × Int)
  | 0, _, _ => none
  | n + 1, y1, y3 => brLT y3 7 (rdK 186 all (179 + y3) (fun v21 => lgK v21 (X10_digest_L190 kx all savedMany errors textLong waits opn told toldLong n ((31 * y1) + v21) (y3 + 1)))) (kx y1)
def X10_digest (all : Arr) (savedMany : Int) (errors : Arr) (textLong : Int) (waits : Arr) (opn : Int) (told : Arr) (toldLong : Int) : Option (Int × Arr × Int × Arr × Int) := X10_digest_L6 (fun w2 => lgK textLong (X10_digest_L45 (fun w4 => X10_digest_L73 (fun w13 => rdK 186 all 147 (fun v14 => lgK v14 ((X10_tellsAll all waits opn told toldLong).bind (fun w15 => X10_digest_L148 (fun w18 => (X10_siteMany all).bind (fun v19 => lgK v19 (X10_digest_L190 (fun w22 => lgK savedMany (some (((31 * w22) + savedMany), w15.1, w15.2.1, w15.2.2.1, w15.2.2.2))) all savedMany errors textLong w15.1 w15.2.1 w15.2.2.1 w15.2.2.2 FU ((31 * w18) + v19) 0))) all savedMany errors textLong w15.1 w15.2.1 w15.2.2.1 w15.2.2.2 FU ((31 * w13) + v14) 0)))) all savedMany errors textLong waits opn told toldLong FU w4 0) all savedMany errors textLong waits opn told toldLong FU ((31 * w2) + textLong) 0)) all savedMany errors textLong waits opn told toldLong FU 2683 0
set_option maxHeartbeats 4000000 in
set_option maxRecDepth 100000 in
theorem X10_digest_L6_ok (K : KE) (l : Launch) (a : Nat → Nat) (WC : va_W) {p : Program} {e : Env} {s : State} {m : MethodId} {args : Array Value} {below : List Frame} {meth : Method} {c : Code} (X : CX p s m args c K.1 vwCl (kT K) (va_A WC s.heap.size) cX10_digest 4 wsX10_digest RX10) (hr : meth.sig.returnType = (some .long)) (hlk : meth.locks = false) (all : Arr) (saved : Arr) (savedMany : Int) (errors : Arr) (text : Arr) (textLong : Int) (rdd : Arr) (readMany : Int) (waits : Arr) (opn : Int) (place : Int) (built : Arr) (builtMany : Int) (parts : Arr) (partMany : Int) (taken : Arr) (calls : Arr) (lacks : Arr) (callMany : Int) (total : Int) (values : Arr) (told : Arr) (toldLong : Int)  (res : Int × Arr × Int × Arr × Int) {kx : Int → Option (Int × Arr × Int × Arr × Int)} : ∀ (n : Nat) (y1 : Int) (y3 : Int), X10_digest_L6 kx all savedMany errors textLong waits opn told toldLong n y1 y3 = some res → (∀ (z1 : Int), kx z1 = some res → GO p l e rmX10_digest s m args below meth c K.1 vwCl (va_A WC s.heap.size) (MQ below (QC K.1 vwCl (some (ll res.1)) WC (c10 K a all saved savedMany errors text textLong rdd readMany res.2.1 res.2.2.1 place built builtMany parts partMany taken calls lacks callMany total values res.2.2.2.1 res.2.2.2.2) s.heap.size) args s 0 0 (va_A WC s.heap.size)) 4 0 0 31 [(0, .ref (a 0)), (1, ll z1)] [] (c10 K a all saved savedMany errors text textLong rdd readMany waits opn place built builtMany parts partMany taken calls lacks callMany total values told toldLong)) → GO p l e rmX10_digest s m args below meth c K.1 vwCl (va_A WC s.heap.size) (MQ below (QC K.1 vwCl (some (ll res.1)) WC (c10 K a all saved savedMany errors text textLong rdd readMany res.2.1 res.2.2.1 place built builtMany parts partMany taken calls lacks callMany total values res.2.2.2.1 res.2.2.2.2) s.heap.size) args s 0 0 (va_A WC s.heap.size)) 4 0 0 6 [(0, .ref (a 0)), (1, ll y1), (3, ii y3)] [] (c10 K a all saved savedMany errors text textLong rdd readMany waits opn place built builtMany parts partMany taken calls lacks callMany total values told toldLong) := by
  intro n
  induction n with
  | zero =>
    intro y1 y3 hf _
    rw [X10_digest_L6] at hf
    cases hf
  | succ n ih =>
    intro y1 y3 hf hk
    rw [X10_digest_L6] at hf
    refine g_iload_n X dX10_digest_6 2 rfl rfl ?_
    refine g_iconst X dX10_digest_7 ?_
    refine g_icmp_ge X hf 31 dX10_digest_8 (by decide) (fun hf => ?_) (fun hf => ?_)
    · refine g_ldc2 X 31 dX10_digest_11 wd_X10_digest_cl248 (by decide +kernel) ?_
      refine g_lload_n X dX10_digest_14 1 rfl rfl ?_
      refine g_lmul X dX10_digest_15 ?_
      refine g_aload_n X dX10_digest_16 0 rfl rfl ?_
      refine g_get X (v := .ref (a 3)) 0 3 dX10_digest_17 rfl rfl iw_X10_digest_X10 (by decide) fl_X10_digest_16 rfl ?_
      refine g_iload_n X dX10_digest_20 2 rfl rfl ?_
      refine g_iald X hf (by decide) 3 0 dX10_digest_21 rfl rfl (fun v1 hf => ?_)
      refine g_i2l X hf dX10_digest_22 (fun hf => ?_)
      refine g_ladd X dX10_digest_23 ?_
      refine g_lstore_n X (lv' := [(1, ll ((31 * y1) + v1)), (0, .ref (a 0)), (3, ii y3)]) dX10_digest_24 rfl (by decide) rfl ?_
      refine g_iinc X (lv' := [(3, ii (y3 + 1)), (1, ll ((31 * y1) + v1)), (0, .ref (a 0))]) dX10_digest_25 2 rfl (by decide) rfl ?_
      refine g_goto X 6 dX10_digest_28 (by decide) ?_
      refine g_sub (lv' := [(0, .ref (a 0)), (1, ll ((31 * y1) + v1)), (3, ii (y3 + 1))]) [2, 1, 0] rfl ?_
      exact ih ((31 * y1) + v1) (y3 + 1) hf hk
    · refine g_sub (lv' := [(0, .ref (a 0)), (1, ll y1)]) [0, 1] rfl ?_
      exact hk y1 hf
set_option maxHeartbeats 4000000 in
set_option maxRecDepth 100000 in
theorem X10_digest_L45_ok (K : KE) (l : Launch) (a : Nat → Nat) (WC : va_W) {p : Program} {e : Env} {s : State} {m : MethodId} {args : Array Value} {below : List Frame} {meth : Method} {c : Code} (X : CX p s m args c K.1 vwCl (kT K) (va_A WC s.heap.size) cX10_digest 4 wsX10_digest RX10) (hr : meth.sig.returnType = (some .long)) (hlk : meth.locks = false) (all : Arr) (saved : Arr) (savedMany : Int) (errors : Arr) (text : Arr) (textLong : Int) (rdd : Arr) (readMany : Int) (waits : Arr) (opn : Int) (place : Int) (built : Arr) (builtMany : Int) (parts : Arr) (partMany : Int) (taken : Arr) (calls : Arr) (lacks : Arr) (callMany : Int) (total : Int) (values : Arr) (told : Arr) (toldLong : Int)  (res : Int × Arr × Int × Arr × Int) {kx : Int → Option (Int × Arr × Int × Arr × Int)} : ∀ (n : Nat) (y1 : Int) (y3 : Int), X10_digest_L45 kx all savedMany errors textLong waits opn told toldLong n y1 y3 = some res → (∀ (z1 : Int), kx z1 = some res → GO p l e rmX10_digest s m args below meth c K.1 vwCl (va_A WC s.heap.size) (MQ below (QC K.1 vwCl (some (ll res.1)) WC (c10 K a all saved savedMany errors text textLong rdd readMany res.2.1 res.2.2.1 place built builtMany parts partMany taken calls lacks callMany total values res.2.2.2.1 res.2.2.2.2) s.heap.size) args s 0 0 (va_A WC s.heap.size)) 4 0 0 71 [(0, .ref (a 0)), (1, ll z1)] [] (c10 K a all saved savedMany errors text textLong rdd readMany waits opn place built builtMany parts partMany taken calls lacks callMany total values told toldLong)) → GO p l e rmX10_digest s m args below meth c K.1 vwCl (va_A WC s.heap.size) (MQ below (QC K.1 vwCl (some (ll res.1)) WC (c10 K a all saved savedMany errors text textLong rdd readMany res.2.1 res.2.2.1 place built builtMany parts partMany taken calls lacks callMany total values res.2.2.2.1 res.2.2.2.2) s.heap.size) args s 0 0 (va_A WC s.heap.size)) 4 0 0 45 [(0, .ref (a 0)), (1, ll y1), (3, ii y3)] [] (c10 K a all saved savedMany errors text textLong rdd readMany waits opn place built builtMany parts partMany taken calls lacks callMany total values told toldLong) := by
  intro n
  induction n with
  | zero =>
    intro y1 y3 hf _
    rw [X10_digest_L45] at hf
    cases hf
  | succ n ih =>
    intro y1 y3 hf hk
    rw [X10_digest_L45] at hf
    refine g_iload_n X dX10_digest_45 2 rfl rfl ?_
    refine g_bipush X dX10_digest_46 (by decide +kernel) ?_
    refine g_icmp_ge X hf 71 dX10_digest_48 (by decide) (fun hf => ?_) (fun hf => ?_)
    · refine g_ldc2 X 31 dX10_digest_51 wd_X10_digest_cl248 (by decide +kernel) ?_
      refine g_lload_n X dX10_digest_54 1 rfl rfl ?_
      refine g_lmul X dX10_digest_55 ?_
      refine g_aload_n X dX10_digest_56 0 rfl rfl ?_
      refine g_get X (v := .ref (a 1)) 0 0 dX10_digest_57 rfl rfl iw_X10_digest_X10 (by decide) fl_X10_digest_7 rfl ?_
      refine g_iload_n X dX10_digest_60 2 rfl rfl ?_
      refine g_iald X hf (by decide) 1 0 dX10_digest_61 rfl rfl (fun v3 hf => ?_)
      refine g_i2l X hf dX10_digest_62 (fun hf => ?_)
      refine g_ladd X dX10_digest_63 ?_
      refine g_lstore_n X (lv' := [(1, ll ((31 * y1) + v3)), (0, .ref (a 0)), (3, ii y3)]) dX10_digest_64 rfl (by decide) rfl ?_
      refine g_iinc X (lv' := [(3, ii (y3 + 1)), (1, ll ((31 * y1) + v3)), (0, .ref (a 0))]) dX10_digest_65 2 rfl (by decide) rfl ?_
      refine g_goto X 45 dX10_digest_68 (by decide) ?_
      refine g_sub (lv' := [(0, .ref (a 0)), (1, ll ((31 * y1) + v3)), (3, ii (y3 + 1))]) [2, 1, 0] rfl ?_
      exact ih ((31 * y1) + v3) (y3 + 1) hf hk
    · refine g_sub (lv' := [(0, .ref (a 0)), (1, ll y1)]) [0, 1] rfl ?_
      exact hk y1 hf
set_option maxHeartbeats 4000000 in
set_option maxRecDepth 100000 in
theorem X10_digest_L73_ok (K : KE) (l : Launch) (a : Nat → Nat) (WC : va_W) {p : Program} {e : Env} {s : State} {m : MethodId} {args : Array Value} {below : List Frame} {meth : Method} {c : Code} (X : CX p s m args c K.1 vwCl (kT K) (va_A WC s.heap.size) cX10_digest 4 wsX10_digest RX10) (hr : meth.sig.returnType = (some .long)) (hlk : meth.locks = false) (all : Arr) (saved : Arr) (savedMany : Int) (errors : Arr) (text : Arr) (textLong : Int) (rdd : Arr) (readMany : Int) (waits : Arr) (opn : Int) (place : Int) (built : Arr) (builtMany : Int) (parts : Arr) (partMany : Int) (taken : Arr) (calls : Arr) (lacks : Arr) (callMany : Int) (total : Int) (values : Arr) (told : Arr) (toldLong : Int)  (res : Int × Arr × Int × Arr × Int) {kx : Int → Option (Int × Arr × Int × Arr × Int)} : ∀ (n : Nat) (y1 : Int) (y3 : Int), X10_digest_L73 kx all savedMany errors textLong waits opn told toldLong n y1 y3 = some res → (∀ (z1 : Int), kx z1 = some res → GO p l e rmX10_digest s m args below meth c K.1 vwCl (va_A WC s.heap.size) (MQ below (QC K.1 vwCl (some (ll res.1)) WC (c10 K a all saved savedMany errors text textLong rdd readMany res.2.1 res.2.2.1 place built builtMany parts partMany taken calls lacks callMany total values res.2.2.2.1 res.2.2.2.2) s.heap.size) args s 0 0 (va_A WC s.heap.size)) 4 0 0 126 [(0, .ref (a 0)), (1, ll z1)] [] (c10 K a all saved savedMany errors text textLong rdd readMany waits opn place built builtMany parts partMany taken calls lacks callMany total values told toldLong)) → GO p l e rmX10_digest s m args below meth c K.1 vwCl (va_A WC s.heap.size) (MQ below (QC K.1 vwCl (some (ll res.1)) WC (c10 K a all saved savedMany errors text textLong rdd readMany res.2.1 res.2.2.1 place built builtMany parts partMany taken calls lacks callMany total values res.2.2.2.1 res.2.2.2.2) s.heap.size) args s 0 0 (va_A WC s.heap.size)) 4 0 0 73 [(0, .ref (a 0)), (1, ll y1), (3, ii y3)] [] (c10 K a all saved savedMany errors text textLong rdd readMany waits opn place built builtMany parts partMany taken calls lacks callMany total values told toldLong) := by
  intro n
  induction n with
  | zero =>
    intro y1 y3 hf _
    rw [X10_digest_L73] at hf
    cases hf
  | succ n ih =>
    intro y1 y3 hf hk
    rw [X10_digest_L73] at hf
    refine g_iload_n X dX10_digest_73 2 rfl rfl ?_
    refine g_bipush X dX10_digest_74 (by decide +kernel) ?_
    refine g_icmp_ge X hf 126 dX10_digest_76 (by decide) (fun hf => ?_) (fun hf => ?_)
    · refine g_ldc2 X 31 dX10_digest_79 wd_X10_digest_cl248 (by decide +kernel) ?_
      refine g_lload_n X dX10_digest_82 1 rfl rfl ?_
      refine g_lmul X dX10_digest_83 ?_
      refine g_aload_n X dX10_digest_84 0 rfl rfl ?_
      refine g_iload_n X dX10_digest_85 2 rfl rfl ?_
      obtain ⟨v5, hc6, hf⟩ := Option.bind_eq_some_iff.mp hf
      refine g_callV X (As := [ii y3]) (st := [ll (31 * y1)]) (st1 := [ii v5, ll (31 * y1)]) (ws' := c10 K a all saved savedMany errors text textLong rdd readMany waits opn place built builtMany parts partMany taken calls lacks callMany total values told toldLong) (X10_newOf_ok K l a all saved savedMany errors text textLong rdd readMany waits opn place built builtMany parts partMany taken calls lacks callMany total values told toldLong y3 v5 hc6) gX10_digest_X10_newOf rfl 1 (by decide +kernel) ⟨rfl, rfl⟩ ⟨Nat.le_of_ble_eq_true rfl, Nat.le_of_ble_eq_true rfl⟩ ⟨Nat.zero_le _, Nat.zero_le _⟩ 0 rfl rfl rfl rfl (Nat.le_of_ble_eq_true rfl) dX10_digest_86 (SG.all rfl) rfl ?_
      refine g_iconst X dX10_digest_89 ?_
      refine g_let (G := fun q7 : Int => GO p l e rmX10_digest s m args below meth c K.1 vwCl (va_A WC s.heap.size) (MQ below (QC K.1 vwCl (some (ll res.1)) WC (c10 K a all saved savedMany errors text textLong rdd readMany res.2.1 res.2.2.1 place built builtMany parts partMany taken calls lacks callMany total values res.2.2.2.1 res.2.2.2.2) s.heap.size) args s 0 0 (va_A WC s.heap.size)) 4 0 0 104 [(0, .ref (a 0)), (3, ii y3)] [ii q7, ll (31 * y1)] (c10 K a all saved savedMany errors text textLong rdd readMany waits opn place built builtMany parts partMany taken calls lacks callMany total values told toldLong)) hf (fun q7 hf => ?_) (fun j8 hj8 hf => ?_)
      · refine g_i2l X hf dX10_digest_104 (fun hf => ?_)
        refine g_ladd X dX10_digest_105 ?_
        refine g_lstore_n X (lv' := [(1, ll ((31 * y1) + q7)), (0, .ref (a 0)), (3, ii y3)]) dX10_digest_106 rfl (by decide) rfl ?_
        refine g_ldc2 X 31 dX10_digest_107 wd_X10_digest_cl248 (by decide +kernel) ?_
        refine g_lload_n X dX10_digest_110 0 rfl rfl ?_
        refine g_lmul X dX10_digest_111 ?_
        refine g_aload_n X dX10_digest_112 1 rfl rfl ?_
        refine g_iload_n X dX10_digest_113 2 rfl rfl ?_
        obtain ⟨v9, hc10, hf⟩ := Option.bind_eq_some_iff.mp hf
        refine g_callV X (As := [ii y3]) (st := [ll (31 * ((31 * y1) + q7))]) (st1 := [ii v9, ll (31 * ((31 * y1) + q7))]) (ws' := c10 K a all saved savedMany errors text textLong rdd readMany waits opn place built builtMany parts partMany taken calls lacks callMany total values told toldLong) (X10_adapter_ok K l a all saved savedMany errors text textLong rdd readMany waits opn place built builtMany parts partMany taken calls lacks callMany total values told toldLong y3 v9 hc10) gX10_digest_X10_adapter rfl 1 (by decide +kernel) ⟨rfl, rfl⟩ ⟨Nat.le_of_ble_eq_true rfl, Nat.le_of_ble_eq_true rfl⟩ ⟨Nat.zero_le _, Nat.zero_le _⟩ 0 rfl rfl rfl rfl (Nat.le_of_ble_eq_true rfl) dX10_digest_114 (SG.all rfl) rfl ?_
        refine g_i2l X hf dX10_digest_117 (fun hf => ?_)
        refine g_ladd X dX10_digest_118 ?_
        refine g_lstore_n X (lv' := [(1, ll ((31 * ((31 * y1) + q7)) + v9)), (0, .ref (a 0)), (3, ii y3)]) dX10_digest_119 rfl (by decide) rfl ?_
        refine g_iinc X (lv' := [(3, ii (y3 + 1)), (1, ll ((31 * ((31 * y1) + q7)) + v9)), (0, .ref (a 0))]) dX10_digest_120 2 rfl (by decide) rfl ?_
        refine g_goto X 73 dX10_digest_123 (by decide) ?_
        refine g_sub (lv' := [(0, .ref (a 0)), (1, ll ((31 * ((31 * y1) + q7)) + v9)), (3, ii (y3 + 1))]) [2, 1, 0] rfl ?_
        exact ih ((31 * ((31 * y1) + q7)) + v9) (y3 + 1) hf hk
      · refine g_icmp_ne X hf 97 dX10_digest_90 (by decide) (fun hf => ?_) (fun hf => ?_)
        · refine g_iconst X dX10_digest_93 ?_
          refine g_goto X 104 dX10_digest_94 (by decide) ?_
          refine g_sub (lv' := [(0, .ref (a 0)), (3, ii y3)]) [0, 2] rfl ?_
          exact hj8 0 hf
        · refine g_iconst X dX10_digest_97 ?_
          refine g_aload_n X dX10_digest_98 0 rfl rfl ?_
          refine g_iload_n X dX10_digest_99 2 rfl rfl ?_
          obtain ⟨v11, hc12, hf⟩ := Option.bind_eq_some_iff.mp hf
          refine g_callV X (As := [ii y3]) (st := [ii 1, ll (31 * y1)]) (st1 := [ii v11, ii 1, ll (31 * y1)]) (ws' := c10 K a all saved savedMany errors text textLong rdd readMany waits opn place built builtMany parts partMany taken calls lacks callMany total values told toldLong) (X10_faithful_ok K l a all saved savedMany errors text textLong rdd readMany waits opn place built builtMany parts partMany taken calls lacks callMany total values told toldLong y3 v11 hc12) gX10_digest_X10_faithful rfl 1 (by decide +kernel) ⟨rfl, rfl⟩ ⟨Nat.le_of_ble_eq_true rfl, Nat.le_of_ble_eq_true rfl⟩ ⟨Nat.zero_le _, Nat.zero_le _⟩ 0 rfl rfl rfl rfl (Nat.le_of_ble_eq_true rfl) dX10_digest_100 (SG.all rfl) rfl ?_
          refine g_iadd X dX10_digest_103 ?_
          refine g_sub (lv' := [(0, .ref (a 0)), (3, ii y3)]) [0, 2] rfl ?_
          exact hj8 (1 + v11) hf
    · refine g_sub (lv' := [(0, .ref (a 0)), (1, ll y1)]) [0, 1] rfl ?_
      exact hk y1 hf
set_option maxHeartbeats 4000000 in
set_option maxRecDepth 100000 in
theorem X10_digest_L148_ok (K : KE) (l : Launch) (a : Nat → Nat) (WC : va_W) {p : Program} {e : Env} {s : State} {m : MethodId} {args : Array Value} {below : List Frame} {meth : Method} {c : Code} (X : CX p s m args c K.1 vwCl (kT K) (va_A WC s.heap.size) cX10_digest 4 wsX10_digest RX10) (hr : meth.sig.returnType = (some .long)) (hlk : meth.locks = false) (all : Arr) (saved : Arr) (savedMany : Int) (errors : Arr) (text : Arr) (textLong : Int) (rdd : Arr) (readMany : Int) (waits : Arr) (opn : Int) (place : Int) (built : Arr) (builtMany : Int) (parts : Arr) (partMany : Int) (taken : Arr) (calls : Arr) (lacks : Arr) (callMany : Int) (total : Int) (values : Arr) (told : Arr) (toldLong : Int)  (res : Int × Arr × Int × Arr × Int) {kx : Int → Option (Int × Arr × Int × Arr × Int)} : ∀ (n : Nat) (y1 : Int) (y3 : Int), X10_digest_L148 kx all savedMany errors textLong waits opn told toldLong n y1 y3 = some res → (∀ (z1 : Int), kx z1 = some res → GO p l e rmX10_digest s m args below meth c K.1 vwCl (va_A WC s.heap.size) (MQ below (QC K.1 vwCl (some (ll res.1)) WC (c10 K a all saved savedMany errors text textLong rdd readMany res.2.1 res.2.2.1 place built builtMany parts partMany taken calls lacks callMany total values res.2.2.2.1 res.2.2.2.2) s.heap.size) args s 0 0 (va_A WC s.heap.size)) 4 0 0 176 [(0, .ref (a 0)), (1, ll z1)] [] (c10 K a all saved savedMany errors text textLong rdd readMany waits opn place built builtMany parts partMany taken calls lacks callMany total values told toldLong)) → GO p l e rmX10_digest s m args below meth c K.1 vwCl (va_A WC s.heap.size) (MQ below (QC K.1 vwCl (some (ll res.1)) WC (c10 K a all saved savedMany errors text textLong rdd readMany res.2.1 res.2.2.1 place built builtMany parts partMany taken calls lacks callMany total values res.2.2.2.1 res.2.2.2.2) s.heap.size) args s 0 0 (va_A WC s.heap.size)) 4 0 0 148 [(0, .ref (a 0)), (1, ll y1), (3, ii y3)] [] (c10 K a all saved savedMany errors text textLong rdd readMany waits opn place built builtMany parts partMany taken calls lacks callMany total values told toldLong) := by
  intro n
  induction n with
  | zero =>
    intro y1 y3 hf _
    rw [X10_digest_L148] at hf
    cases hf
  | succ n ih =>
    intro y1 y3 hf hk
    rw [X10_digest_L148] at hf
    refine g_iload_n X dX10_digest_148 2 rfl rfl ?_
    refine g_aload_n X dX10_digest_149 0 rfl rfl ?_
    refine g_get X (v := ii toldLong) 0 22 dX10_digest_150 rfl rfl iw_X10_digest_X10 (by decide) fl_X10_digest_227 rfl ?_
    refine g_icmp_ge X hf 176 dX10_digest_153 (by decide) (fun hf => ?_) (fun hf => ?_)
    · refine g_ldc2 X 31 dX10_digest_156 wd_X10_digest_cl248 (by decide +kernel) ?_
      refine g_lload_n X dX10_digest_159 1 rfl rfl ?_
      refine g_lmul X dX10_digest_160 ?_
      refine g_aload_n X dX10_digest_161 0 rfl rfl ?_
      refine g_get X (v := .ref (a 13)) 0 21 dX10_digest_162 rfl rfl iw_X10_digest_X10 (by decide) fl_X10_digest_46 rfl ?_
      refine g_iload_n X dX10_digest_165 2 rfl rfl ?_
      refine g_iald X hf (by decide) 13 0 dX10_digest_166 rfl rfl (fun v17 hf => ?_)
      refine g_i2l X hf dX10_digest_167 (fun hf => ?_)
      refine g_ladd X dX10_digest_168 ?_
      refine g_lstore_n X (lv' := [(1, ll ((31 * y1) + v17)), (0, .ref (a 0)), (3, ii y3)]) dX10_digest_169 rfl (by decide) rfl ?_
      refine g_iinc X (lv' := [(3, ii (y3 + 1)), (1, ll ((31 * y1) + v17)), (0, .ref (a 0))]) dX10_digest_170 2 rfl (by decide) rfl ?_
      refine g_goto X 148 dX10_digest_173 (by decide) ?_
      refine g_sub (lv' := [(0, .ref (a 0)), (1, ll ((31 * y1) + v17)), (3, ii (y3 + 1))]) [2, 1, 0] rfl ?_
      exact ih ((31 * y1) + v17) (y3 + 1) hf hk
    · refine g_sub (lv' := [(0, .ref (a 0)), (1, ll y1)]) [0, 1] rfl ?_
      exact hk y1 hf
set_option maxHeartbeats 4000000 in
set_option maxRecDepth 100000 in
theorem X10_digest_L190_ok (K : KE) (l : Launch) (a : Nat → Nat) (WC : va_W) {p : Program} {e : Env} {s : State} {m : MethodId} {args : Array Value} {below : List Frame} {meth : Method} {c : Code} (X : CX p s m args c K.1 vwCl (kT K) (va_A WC s.heap.size) cX10_digest 4 wsX10_digest RX10) (hr : meth.sig.returnType = (some .long)) (hlk : meth.locks = false) (all : Arr) (saved : Arr) (savedMany : Int) (errors : Arr) (text : Arr) (textLong : Int) (rdd : Arr) (readMany : Int) (waits : Arr) (opn : Int) (place : Int) (built : Arr) (builtMany : Int) (parts : Arr) (partMany : Int) (taken : Arr) (calls : Arr) (lacks : Arr) (callMany : Int) (total : Int) (values : Arr) (told : Arr) (toldLong : Int)  (res : Int × Arr × Int × Arr × Int) {kx : Int → Option (Int × Arr × Int × Arr × Int)} : ∀ (n : Nat) (y1 : Int) (y3 : Int), X10_digest_L190 kx all savedMany errors textLong waits opn told toldLong n y1 y3 = some res → (∀ (z1 : Int), kx z1 = some res → GO p l e rmX10_digest s m args below meth c K.1 vwCl (va_A WC s.heap.size) (MQ below (QC K.1 vwCl (some (ll res.1)) WC (c10 K a all saved savedMany errors text textLong rdd readMany res.2.1 res.2.2.1 place built builtMany parts partMany taken calls lacks callMany total values res.2.2.2.1 res.2.2.2.2) s.heap.size) args s 0 0 (va_A WC s.heap.size)) 4 0 0 220 [(0, .ref (a 0)), (1, ll z1)] [] (c10 K a all saved savedMany errors text textLong rdd readMany waits opn place built builtMany parts partMany taken calls lacks callMany total values told toldLong)) → GO p l e rmX10_digest s m args below meth c K.1 vwCl (va_A WC s.heap.size) (MQ below (QC K.1 vwCl (some (ll res.1)) WC (c10 K a all saved savedMany errors text textLong rdd readMany res.2.1 res.2.2.1 place built builtMany parts partMany taken calls lacks callMany total values res.2.2.2.1 res.2.2.2.2) s.heap.size) args s 0 0 (va_A WC s.heap.size)) 4 0 0 190 [(0, .ref (a 0)), (1, ll y1), (3, ii y3)] [] (c10 K a all saved savedMany errors text textLong rdd readMany waits opn place built builtMany parts partMany taken calls lacks callMany total values told toldLong) := by
  intro n
  induction n with
  | zero =>
    intro y1 y3 hf _
    rw [X10_digest_L190] at hf
    cases hf
  | succ n ih =>
    intro y1 y3 hf hk
    rw [X10_digest_L190] at hf
    refine g_iload_n X dX10_digest_190 2 rfl rfl ?_
    refine g_bipush X dX10_digest_191 (by decide +kernel) ?_
    refine g_icmp_ge X hf 220 dX10_digest_193 (by decide) (fun hf => ?_) (fun hf => ?_)
    · refine g_ldc2 X 31 dX10_digest_196 wd_X10_digest_cl248 (by decide +kernel) ?_
      refine g_lload_n X dX10_digest_199 1 rfl rfl ?_
      refine g_lmul X dX10_digest_200 ?_
      refine g_aload_n X dX10_digest_201 0 rfl rfl ?_
      refine g_get X (v := .ref (a 1)) 0 0 dX10_digest_202 rfl rfl iw_X10_digest_X10 (by decide) fl_X10_digest_7 rfl ?_
      refine g_sipush X dX10_digest_205 (by decide +kernel) ?_
      refine g_iload_n X dX10_digest_208 2 rfl rfl ?_
      refine g_iadd X dX10_digest_209 ?_
      refine g_iald X hf (by decide) 1 0 dX10_digest_210 rfl rfl (fun v21 hf => ?_)
      refine g_i2l X hf dX10_digest_211 (fun hf => ?_)
      refine g_ladd X dX10_digest_212 ?_
      refine g_lstore_n X (lv' := [(1, ll ((31 * y1) + v21)), (0, .ref (a 0)), (3, ii y3)]) dX10_digest_213 rfl (by decide) rfl ?_
      refine g_iinc X (lv' := [(3, ii (y3 + 1)), (1, ll ((31 * y1) + v21)), (0, .ref (a 0))]) dX10_digest_214 2 rfl (by decide) rfl ?_
      refine g_goto X 190 dX10_digest_217 (by decide) ?_
      refine g_sub (lv' := [(0, .ref (a 0)), (1, ll ((31 * y1) + v21)), (3, ii (y3 + 1))]) [2, 1, 0] rfl ?_
      exact ih ((31 * y1) + v21) (y3 + 1) hf hk
    · refine g_sub (lv' := [(0, .ref (a 0)), (1, ll y1)]) [0, 1] rfl ?_
      exact hk y1 hf
set_option maxHeartbeats 4000000 in
set_option maxRecDepth 100000 in
theorem X10_digest_go (K : KE) (l : Launch) (a : Nat → Nat) (WC : va_W) {p : Program} {e : Env} {s : State} {m : MethodId} {args : Array Value} {below : List Frame} {meth : Method} {c : Code} (X : CX p s m args c K.1 vwCl (kT K) (va_A WC s.heap.size) cX10_digest 4 wsX10_digest RX10) (hr : meth.sig.returnType = (some .long)) (hlk : meth.locks = false) (all : Arr) (saved : Arr) (savedMany : Int) (errors : Arr) (text : Arr) (textLong : Int) (rdd : Arr) (readMany : Int) (waits : Arr) (opn : Int) (place : Int) (built : Arr) (builtMany : Int) (parts : Arr) (partMany : Int) (taken : Arr) (calls : Arr) (lacks : Arr) (callMany : Int) (total : Int) (values : Arr) (told : Arr) (toldLong : Int) (res : Int × Arr × Int × Arr × Int) (hf : X10_digest all savedMany errors textLong waits opn told toldLong = some res) : GO p l e rmX10_digest s m args below meth c K.1 vwCl (va_A WC s.heap.size) (MQ below (QC K.1 vwCl (some (ll res.1)) WC (c10 K a all saved savedMany errors text textLong rdd readMany res.2.1 res.2.2.1 place built builtMany parts partMany taken calls lacks callMany total values res.2.2.2.1 res.2.2.2.2) s.heap.size) args s 0 0 (va_A WC s.heap.size)) 4 0 0 0 [(0, .ref (a 0))] [] (c10 K a all saved savedMany errors text textLong rdd readMany waits opn place built builtMany parts partMany taken calls lacks callMany total values told toldLong) := by
  rw [X10_digest] at hf
  refine g_ldc2 X 2683 dX10_digest_0 wd_X10_digest_cl246 (by decide +kernel) ?_
  refine g_lstore_n X (lv' := [(1, ll 2683), (0, .ref (a 0))]) dX10_digest_3 rfl (by decide) rfl ?_
  refine g_iconst X dX10_digest_4 ?_
  refine g_istore_n X (lv' := [(3, ii 0), (1, ll 2683), (0, .ref (a 0))]) dX10_digest_5 rfl (by decide) rfl ?_
  refine g_sub (lv' := [(0, .ref (a 0)), (1, ll 2683), (3, ii 0)]) [2, 1, 0] rfl ?_
  refine X10_digest_L6_ok K l a WC X hr hlk all saved savedMany errors text textLong rdd readMany waits opn place built builtMany parts partMany taken calls lacks callMany total values told toldLong res FU 2683 0 hf (fun w2 hf => ?_)
  refine g_ldc2 X 31 dX10_digest_31 wd_X10_digest_cl248 (by decide +kernel) ?_
  refine g_lload_n X dX10_digest_34 1 rfl rfl ?_
  refine g_lmul X dX10_digest_35 ?_
  refine g_aload_n X dX10_digest_36 0 rfl rfl ?_
  refine g_get X (v := ii textLong) 0 5 dX10_digest_37 rfl rfl iw_X10_digest_X10 (by decide) fl_X10_digest_119 rfl ?_
  refine g_i2l X hf dX10_digest_40 (fun hf => ?_)
  refine g_ladd X dX10_digest_41 ?_
  refine g_lstore_n X (lv' := [(1, ll ((31 * w2) + textLong)), (0, .ref (a 0))]) dX10_digest_42 rfl (by decide) rfl ?_
  refine g_iconst X dX10_digest_43 ?_
  refine g_istore_n X (lv' := [(3, ii 0), (1, ll ((31 * w2) + textLong)), (0, .ref (a 0))]) dX10_digest_44 rfl (by decide) rfl ?_
  refine g_sub (lv' := [(0, .ref (a 0)), (1, ll ((31 * w2) + textLong)), (3, ii 0)]) [2, 1, 0] rfl ?_
  refine X10_digest_L45_ok K l a WC X hr hlk all saved savedMany errors text textLong rdd readMany waits opn place built builtMany parts partMany taken calls lacks callMany total values told toldLong res FU ((31 * w2) + textLong) 0 hf (fun w4 hf => ?_)
  refine g_iconst X dX10_digest_71 ?_
  refine g_istore_n X (lv' := [(3, ii 0), (0, .ref (a 0)), (1, ll w4)]) dX10_digest_72 rfl (by decide) rfl ?_
  refine g_sub (lv' := [(0, .ref (a 0)), (1, ll w4), (3, ii 0)]) [1, 2, 0] rfl ?_
  refine X10_digest_L73_ok K l a WC X hr hlk all saved savedMany errors text textLong rdd readMany waits opn place built builtMany parts partMany taken calls lacks callMany total values told toldLong res FU w4 0 hf (fun w13 hf => ?_)
  refine g_ldc2 X 31 dX10_digest_126 wd_X10_digest_cl248 (by decide +kernel) ?_
  refine g_lload_n X dX10_digest_129 1 rfl rfl ?_
  refine g_lmul X dX10_digest_130 ?_
  refine g_aload_n X dX10_digest_131 0 rfl rfl ?_
  refine g_get X (v := .ref (a 1)) 0 0 dX10_digest_132 rfl rfl iw_X10_digest_X10 (by decide) fl_X10_digest_7 rfl ?_
  refine g_sipush X dX10_digest_135 (by decide +kernel) ?_
  refine g_iald X hf (by decide) 1 0 dX10_digest_138 rfl rfl (fun v14 hf => ?_)
  refine g_i2l X hf dX10_digest_139 (fun hf => ?_)
  refine g_ladd X dX10_digest_140 ?_
  refine g_lstore_n X (lv' := [(1, ll ((31 * w13) + v14)), (0, .ref (a 0))]) dX10_digest_141 rfl (by decide) rfl ?_
  refine g_aload_n X dX10_digest_142 1 rfl rfl ?_
  obtain ⟨w15, hc16, hf⟩ := Option.bind_eq_some_iff.mp hf
  refine g_callV X (As := []) (st := []) (st1 := []) (ws' := c10 K a all saved savedMany errors text textLong rdd readMany w15.1 w15.2.1 place built builtMany parts partMany taken calls lacks callMany total values w15.2.2.1 w15.2.2.2) (X10_tellsAll_ok K l a all saved savedMany errors text textLong rdd readMany waits opn place built builtMany parts partMany taken calls lacks callMany total values told toldLong w15 hc16) gX10_digest_X10_tellsAll rfl 0 (by decide +kernel) ⟨rfl, rfl⟩ ⟨Nat.le_of_ble_eq_true rfl, Nat.le_of_ble_eq_true rfl⟩ ⟨Nat.zero_le _, Nat.zero_le _⟩ 0 rfl rfl rfl rfl (Nat.le_of_ble_eq_true rfl) dX10_digest_143 (SG.all rfl) rfl ?_
  refine g_iconst X dX10_digest_146 ?_
  refine g_istore_n X (lv' := [(3, ii 0), (1, ll ((31 * w13) + v14)), (0, .ref (a 0))]) dX10_digest_147 rfl (by decide) rfl ?_
  refine g_sub (lv' := [(0, .ref (a 0)), (1, ll ((31 * w13) + v14)), (3, ii 0)]) [2, 1, 0] rfl ?_
  refine X10_digest_L148_ok K l a WC X hr hlk all saved savedMany errors text textLong rdd readMany w15.1 w15.2.1 place built builtMany parts partMany taken calls lacks callMany total values w15.2.2.1 w15.2.2.2 res FU ((31 * w13) + v14) 0 hf (fun w18 hf => ?_)
  refine g_ldc2 X 31 dX10_digest_176 wd_X10_digest_cl248 (by decide +kernel) ?_
  refine g_lload_n X dX10_digest_179 1 rfl rfl ?_
  refine g_lmul X dX10_digest_180 ?_
  refine g_aload_n X dX10_digest_181 0 rfl rfl ?_
  obtain ⟨v19, hc20, hf⟩ := Option.bind_eq_some_iff.mp hf
  refine g_callV X (As := []) (st := [ll (31 * w18)]) (st1 := [ii v19, ll (31 * w18)]) (ws' := c10 K a all saved savedMany errors text textLong rdd readMany w15.1 w15.2.1 place built builtMany parts partMany taken calls lacks callMany total values w15.2.2.1 w15.2.2.2) (X10_siteMany_ok K l a all saved savedMany errors text textLong rdd readMany w15.1 w15.2.1 place built builtMany parts partMany taken calls lacks callMany total values w15.2.2.1 w15.2.2.2 v19 hc20) gX10_digest_X10_siteMany rfl 0 (by decide +kernel) ⟨rfl, rfl⟩ ⟨Nat.le_of_ble_eq_true rfl, Nat.le_of_ble_eq_true rfl⟩ ⟨Nat.zero_le _, Nat.zero_le _⟩ 0 rfl rfl rfl rfl (Nat.le_of_ble_eq_true rfl) dX10_digest_182 (SG.all rfl) rfl ?_
  refine g_i2l X hf dX10_digest_185 (fun hf => ?_)
  refine g_ladd X dX10_digest_186 ?_
  refine g_lstore_n X (lv' := [(1, ll ((31 * w18) + v19)), (0, .ref (a 0))]) dX10_digest_187 rfl (by decide) rfl ?_
  refine g_iconst X dX10_digest_188 ?_
  refine g_istore_n X (lv' := [(3, ii 0), (1, ll ((31 * w18) + v19)), (0, .ref (a 0))]) dX10_digest_189 rfl (by decide) rfl ?_
  refine g_sub (lv' := [(0, .ref (a 0)), (1, ll ((31 * w18) + v19)), (3, ii 0)]) [2, 1, 0] rfl ?_
  refine X10_digest_L190_ok K l a WC X hr hlk all saved savedMany errors text textLong rdd readMany w15.1 w15.2.1 place built builtMany parts partMany taken calls lacks callMany total values w15.2.2.1 w15.2.2.2 res FU ((31 * w18) + v19) 0 hf (fun w22 hf => ?_)
  refine g_ldc2 X 31 dX10_digest_220 wd_X10_digest_cl248 (by decide +kernel) ?_
  refine g_lload_n X dX10_digest_223 1 rfl rfl ?_
  refine g_lmul X dX10_digest_224 ?_
  refine g_aload_n X dX10_digest_225 0 rfl rfl ?_
  refine g_get X (v := ii savedMany) 0 2 dX10_digest_226 rfl rfl iw_X10_digest_X10 (by decide) fl_X10_digest_49 rfl ?_
  refine g_i2l X hf dX10_digest_229 (fun hf => ?_)
  refine g_ladd X dX10_digest_230 ?_
  cases hf
  exact g_lret X hr hlk dX10_digest_231
set_option maxHeartbeats 4000000 in
set_option maxRecDepth 100000 in
theorem X10_digest_ok (K : KE) (l : Launch) (a : Nat → Nat) (all : Arr) (saved : Arr) (savedMany : Int) (errors : Arr) (text : Arr) (textLong : Int) (rdd : Arr) (readMany : Int) (waits : Arr) (opn : Int) (place : Int) (built : Arr) (builtMany : Int) (parts : Arr) (partMany : Int) (taken : Arr) (calls : Arr) (lacks : Arr) (callMany : Int) (total : Int) (values : Arr) (told : Arr) (toldLong : Int) (res : Int × Arr × Int × Arr × Int) (hf : X10_digest all savedMany errors textLong waits opn told toldLong = some res) : CT l K.1 vwCl (kT K) yX10_digest wsX10_digest rmX10_digest [.ref (a 0)] (some (ll res.1)) (c10 K a all saved savedMany errors text textLong rdd readMany waits opn place built builtMany parts partMany taken calls lacks callMany total values told toldLong) (c10 K a all saved savedMany errors text textLong rdd readMany res.2.1 res.2.2.1 place built builtMany parts partMany taken calls lacks callMany total values res.2.2.2.1 res.2.2.2.2) :=
  CT.mk (cc := cX10_digest) (maxL := 4) (ret := (some .long)) (by decide) rfl (Nat.le_of_ble_eq_true rfl) (fun p e s m below meth c X hr hlk => X10_digest_go K l a _ X hr hlk all saved savedMany errors text textLong rdd readMany waits opn place built builtMany parts partMany taken calls lacks callMany total values told toldLong res hf)
