set_option maxHeartbeats 4000000 in
set_option maxRecDepth 100000 in
theorem law_setOld (K : KE) (l : Launch) (a d : Nat → Nat) {p : Program} {e : Env} {s : State} {m : MethodId} {below : List Frame} {meth : Method} {c : Code} {b L : Nat} {xs : Nat → Int32} (X : CX p s m #[Value.ref b] c K.1 vwCl (kT K) (fun q : Nat => s.heap.size ≤ q) cL_law 4 wsL_law RL) (hX : va_X b L xs s s.heap) (hbl : b < s.heap.size) (hL : L ≤ 2048) (i : Int) (hi0 : 0 ≤ i) (hi3 : i + 3 < L) (C C' : CM) (M M' : MT) (r : Int) (hC : cm_setOld C ((xs (i + 1).toNat).toInt) ((xs (i + 2).toNat).toInt) ((xs (i + 3).toNat).toInt) = some (r, C')) (hM : rm_setOld M ((xs (i + 1).toNat).toInt) ((xs (i + 2).toNat).toInt) ((xs (i + 3).toNat).toInt) = some (r, M')) (hk : GO p l e room_1 s m #[Value.ref b] below meth c K.1 vwCl (fun q : Nat => s.heap.size ≤ q) (lw_Z below #[Value.ref b] s) 4 600000 7302250 740 [(0, .ref b), (1, .ref (a 0)), (2, .ref (d 0)), (3, ii i)] [] (c9 K a C' ++ cM K d M')) : GO p l e room_1 s m #[Value.ref b] below meth c K.1 vwCl (fun q : Nat => s.heap.size ≤ q) (lw_Z below #[Value.ref b] s) 4 600000 7302250 140 [(0, .ref b), (1, .ref (a 0)), (2, .ref (d 0)), (3, ii i)] [] (c9 K a C ++ cM K d M) := by
  have hbA : ¬ (fun q : Nat => s.heap.size ≤ q) b := Nat.not_le.mpr hbl
  unfold cm_setOld at hC
  unfold rm_setOld at hM
  obtain ⟨w, hw, hwe⟩ := Option.map_eq_some_iff.mp hM
  cases hwe
  refine g_aload_n X dL_law_140 1 rfl rfl ?_
  refine g_aload_n X dL_law_141 0 rfl rfl ?_
  refine g_iload_n X dL_law_142 3 rfl rfl ?_
  refine g_iconst X dL_law_143 ?_
  refine g_iadd X dL_law_144 ?_
  refine g_sld X hX hbl hbA hL ⟨by omega, by omega⟩ dL_law_145 ?_
  refine g_aload_n X dL_law_146 0 rfl rfl ?_
  refine g_iload_n X dL_law_147 3 rfl rfl ?_
  refine g_iconst X dL_law_148 ?_
  refine g_iadd X dL_law_149 ?_
  refine g_sld X hX hbl hbA hL ⟨by omega, by omega⟩ dL_law_150 ?_
  refine g_aload_n X dL_law_151 0 rfl rfl ?_
  refine g_iload_n X dL_law_152 3 rfl rfl ?_
  refine g_iconst X dL_law_153 ?_
  refine g_iadd X dL_law_154 ?_
  refine g_sld X hX hbl hbA hL ⟨by omega, by omega⟩ dL_law_155 ?_
  refine g_callV X (As := [ii (xs (i + 1).toNat).toInt, ii (xs (i + 2).toNat).toInt, ii (xs (i + 3).toNat).toInt]) (st := []) (st1 := [ii w.1]) (ws' := c9 K a C' ++ cM K d M) (X9_setOld_ok K l a C ((xs (i + 1).toNat).toInt) ((xs (i + 2).toNat).toInt) ((xs (i + 3).toNat).toInt) _ hC) gL_law_X9_setOld rfl 3 (by decide +kernel) ⟨rfl, rfl⟩ ⟨Nat.le_of_ble_eq_true rfl, Nat.le_of_ble_eq_true rfl⟩ ⟨Nat.le_of_ble_eq_true rfl, Nat.le_of_ble_eq_true rfl⟩ 0 rfl rfl rfl rfl (Nat.le_of_ble_eq_true rfl) dL_law_156 (SG.one [] (cM K d M) rfl rfl rfl) rfl ?_
  refine g_aload_n X dL_law_159 2 rfl rfl ?_
  refine g_aload_n X dL_law_160 0 rfl rfl ?_
  refine g_iload_n X dL_law_161 3 rfl rfl ?_
  refine g_iconst X dL_law_162 ?_
  refine g_iadd X dL_law_163 ?_
  refine g_sld X hX hbl hbA hL ⟨by omega, by omega⟩ dL_law_164 ?_
  refine g_aload_n X dL_law_165 0 rfl rfl ?_
  refine g_iload_n X dL_law_166 3 rfl rfl ?_
  refine g_iconst X dL_law_167 ?_
  refine g_iadd X dL_law_168 ?_
  refine g_sld X hX hbl hbA hL ⟨by omega, by omega⟩ dL_law_169 ?_
  refine g_aload_n X dL_law_170 0 rfl rfl ?_
  refine g_iload_n X dL_law_171 3 rfl rfl ?_
  refine g_iconst X dL_law_172 ?_
  refine g_iadd X dL_law_173 ?_
  refine g_sld X hX hbl hbA hL ⟨by omega, by omega⟩ dL_law_174 ?_
  refine g_callV X (As := [ii (xs (i + 1).toNat).toInt, ii (xs (i + 2).toNat).toInt, ii (xs (i + 3).toNat).toInt]) (st := [ii w.1]) (st1 := [ii w.1, ii w.1]) (ws' := c9 K a C' ++ c10 K d w.2.1 w.2.2.1 w.2.2.2.1 w.2.2.2.2 M.2.2.2.2.1 M.2.2.2.2.2.1 M.2.2.2.2.2.2.1 M.2.2.2.2.2.2.2.1 M.2.2.2.2.2.2.2.2.1 M.2.2.2.2.2.2.2.2.2.1 M.2.2.2.2.2.2.2.2.2.2.1 M.2.2.2.2.2.2.2.2.2.2.2.1 M.2.2.2.2.2.2.2.2.2.2.2.2.1 M.2.2.2.2.2.2.2.2.2.2.2.2.2.1 M.2.2.2.2.2.2.2.2.2.2.2.2.2.2.1 M.2.2.2.2.2.2.2.2.2.2.2.2.2.2.2.1 M.2.2.2.2.2.2.2.2.2.2.2.2.2.2.2.2.1 M.2.2.2.2.2.2.2.2.2.2.2.2.2.2.2.2.2.1 M.2.2.2.2.2.2.2.2.2.2.2.2.2.2.2.2.2.2.1 M.2.2.2.2.2.2.2.2.2.2.2.2.2.2.2.2.2.2.2.1 M.2.2.2.2.2.2.2.2.2.2.2.2.2.2.2.2.2.2.2.2.1 M.2.2.2.2.2.2.2.2.2.2.2.2.2.2.2.2.2.2.2.2.2.1 M.2.2.2.2.2.2.2.2.2.2.2.2.2.2.2.2.2.2.2.2.2.2) (X10_setOld_ok K l d M.1 M.2.1 M.2.2.1 M.2.2.2.1 M.2.2.2.2.1 M.2.2.2.2.2.1 M.2.2.2.2.2.2.1 M.2.2.2.2.2.2.2.1 M.2.2.2.2.2.2.2.2.1 M.2.2.2.2.2.2.2.2.2.1 M.2.2.2.2.2.2.2.2.2.2.1 M.2.2.2.2.2.2.2.2.2.2.2.1 M.2.2.2.2.2.2.2.2.2.2.2.2.1 M.2.2.2.2.2.2.2.2.2.2.2.2.2.1 M.2.2.2.2.2.2.2.2.2.2.2.2.2.2.1 M.2.2.2.2.2.2.2.2.2.2.2.2.2.2.2.1 M.2.2.2.2.2.2.2.2.2.2.2.2.2.2.2.2.1 M.2.2.2.2.2.2.2.2.2.2.2.2.2.2.2.2.2.1 M.2.2.2.2.2.2.2.2.2.2.2.2.2.2.2.2.2.2.1 M.2.2.2.2.2.2.2.2.2.2.2.2.2.2.2.2.2.2.2.1 M.2.2.2.2.2.2.2.2.2.2.2.2.2.2.2.2.2.2.2.2.1 M.2.2.2.2.2.2.2.2.2.2.2.2.2.2.2.2.2.2.2.2.2.1 M.2.2.2.2.2.2.2.2.2.2.2.2.2.2.2.2.2.2.2.2.2.2 ((xs (i + 1).toNat).toInt) ((xs (i + 2).toNat).toInt) ((xs (i + 3).toNat).toInt) w hw) gL_law_X10_setOld rfl 3 (by decide +kernel) ⟨rfl, rfl⟩ ⟨Nat.le_of_ble_eq_true rfl, Nat.le_of_ble_eq_true rfl⟩ ⟨Nat.le_of_ble_eq_true rfl, Nat.le_of_ble_eq_true rfl⟩ 137 rfl rfl rfl rfl (Nat.le_of_ble_eq_true rfl) dL_law_175 (SG.one (c9 K a C') [] rfl rfl rfl) rfl ?_
  refine g_same X 740 dL_law_178 (by decide) ?_
  exact hk
set_option maxHeartbeats 4000000 in
set_option maxRecDepth 100000 in
theorem law_setNew (K : KE) (l : Launch) (a d : Nat → Nat) {p : Program} {e : Env} {s : State} {m : MethodId} {below : List Frame} {meth : Method} {c : Code} {b L : Nat} {xs : Nat → Int32} (X : CX p s m #[Value.ref b] c K.1 vwCl (kT K) (fun q : Nat => s.heap.size ≤ q) cL_law 4 wsL_law RL) (hX : va_X b L xs s s.heap) (hbl : b < s.heap.size) (hL : L ≤ 2048) (i : Int) (hi0 : 0 ≤ i) (hi3 : i + 3 < L) (C C' : CM) (M M' : MT) (r : Int) (hC : cm_setNew C ((xs (i + 1).toNat).toInt) ((xs (i + 2).toNat).toInt) ((xs (i + 3).toNat).toInt) = some (r, C')) (hM : rm_setNew M ((xs (i + 1).toNat).toInt) ((xs (i + 2).toNat).toInt) ((xs (i + 3).toNat).toInt) = some (r, M')) (hk : GO p l e room_1 s m #[Value.ref b] below meth c K.1 vwCl (fun q : Nat => s.heap.size ≤ q) (lw_Z below #[Value.ref b] s) 4 600000 7302250 740 [(0, .ref b), (1, .ref (a 0)), (2, .ref (d 0)), (3, ii i)] [] (c9 K a C' ++ cM K d M')) : GO p l e room_1 s m #[Value.ref b] below meth c K.1 vwCl (fun q : Nat => s.heap.size ≤ q) (lw_Z below #[Value.ref b] s) 4 600000 7302250 183 [(0, .ref b), (1, .ref (a 0)), (2, .ref (d 0)), (3, ii i)] [] (c9 K a C ++ cM K d M) := by
  have hbA : ¬ (fun q : Nat => s.heap.size ≤ q) b := Nat.not_le.mpr hbl
  unfold cm_setNew at hC
  unfold rm_setNew at hM
  obtain ⟨w, hw, hwe⟩ := Option.map_eq_some_iff.mp hM
  cases hwe
  refine g_aload_n X dL_law_183 1 rfl rfl ?_
  refine g_aload_n X dL_law_184 0 rfl rfl ?_
  refine g_iload_n X dL_law_185 3 rfl rfl ?_
  refine g_iconst X dL_law_186 ?_
  refine g_iadd X dL_law_187 ?_
  refine g_sld X hX hbl hbA hL ⟨by omega, by omega⟩ dL_law_188 ?_
  refine g_aload_n X dL_law_189 0 rfl rfl ?_
  refine g_iload_n X dL_law_190 3 rfl rfl ?_
  refine g_iconst X dL_law_191 ?_
  refine g_iadd X dL_law_192 ?_
  refine g_sld X hX hbl hbA hL ⟨by omega, by omega⟩ dL_law_193 ?_
  refine g_aload_n X dL_law_194 0 rfl rfl ?_
  refine g_iload_n X dL_law_195 3 rfl rfl ?_
  refine g_iconst X dL_law_196 ?_
  refine g_iadd X dL_law_197 ?_
  refine g_sld X hX hbl hbA hL ⟨by omega, by omega⟩ dL_law_198 ?_
  refine g_callV X (As := [ii (xs (i + 1).toNat).toInt, ii (xs (i + 2).toNat).toInt, ii (xs (i + 3).toNat).toInt]) (st := []) (st1 := [ii w.1]) (ws' := c9 K a C' ++ cM K d M) (X9_setNew_ok K l a C ((xs (i + 1).toNat).toInt) ((xs (i + 2).toNat).toInt) ((xs (i + 3).toNat).toInt) _ hC) gL_law_X9_setNew rfl 3 (by decide +kernel) ⟨rfl, rfl⟩ ⟨Nat.le_of_ble_eq_true rfl, Nat.le_of_ble_eq_true rfl⟩ ⟨Nat.le_of_ble_eq_true rfl, Nat.le_of_ble_eq_true rfl⟩ 0 rfl rfl rfl rfl (Nat.le_of_ble_eq_true rfl) dL_law_199 (SG.one [] (cM K d M) rfl rfl rfl) rfl ?_
  refine g_aload_n X dL_law_202 2 rfl rfl ?_
  refine g_aload_n X dL_law_203 0 rfl rfl ?_
  refine g_iload_n X dL_law_204 3 rfl rfl ?_
  refine g_iconst X dL_law_205 ?_
  refine g_iadd X dL_law_206 ?_
  refine g_sld X hX hbl hbA hL ⟨by omega, by omega⟩ dL_law_207 ?_
  refine g_aload_n X dL_law_208 0 rfl rfl ?_
  refine g_iload_n X dL_law_209 3 rfl rfl ?_
  refine g_iconst X dL_law_210 ?_
  refine g_iadd X dL_law_211 ?_
  refine g_sld X hX hbl hbA hL ⟨by omega, by omega⟩ dL_law_212 ?_
  refine g_aload_n X dL_law_213 0 rfl rfl ?_
  refine g_iload_n X dL_law_214 3 rfl rfl ?_
  refine g_iconst X dL_law_215 ?_
  refine g_iadd X dL_law_216 ?_
  refine g_sld X hX hbl hbA hL ⟨by omega, by omega⟩ dL_law_217 ?_
  refine g_callV X (As := [ii (xs (i + 1).toNat).toInt, ii (xs (i + 2).toNat).toInt, ii (xs (i + 3).toNat).toInt]) (st := [ii w.1]) (st1 := [ii w.1, ii w.1]) (ws' := c9 K a C' ++ c10 K d w.2.1 w.2.2.1 w.2.2.2.1 w.2.2.2.2 M.2.2.2.2.1 M.2.2.2.2.2.1 M.2.2.2.2.2.2.1 M.2.2.2.2.2.2.2.1 M.2.2.2.2.2.2.2.2.1 M.2.2.2.2.2.2.2.2.2.1 M.2.2.2.2.2.2.2.2.2.2.1 M.2.2.2.2.2.2.2.2.2.2.2.1 M.2.2.2.2.2.2.2.2.2.2.2.2.1 M.2.2.2.2.2.2.2.2.2.2.2.2.2.1 M.2.2.2.2.2.2.2.2.2.2.2.2.2.2.1 M.2.2.2.2.2.2.2.2.2.2.2.2.2.2.2.1 M.2.2.2.2.2.2.2.2.2.2.2.2.2.2.2.2.1 M.2.2.2.2.2.2.2.2.2.2.2.2.2.2.2.2.2.1 M.2.2.2.2.2.2.2.2.2.2.2.2.2.2.2.2.2.2.1 M.2.2.2.2.2.2.2.2.2.2.2.2.2.2.2.2.2.2.2.1 M.2.2.2.2.2.2.2.2.2.2.2.2.2.2.2.2.2.2.2.2.1 M.2.2.2.2.2.2.2.2.2.2.2.2.2.2.2.2.2.2.2.2.2.1 M.2.2.2.2.2.2.2.2.2.2.2.2.2.2.2.2.2.2.2.2.2.2) (X10_setNew_ok K l d M.1 M.2.1 M.2.2.1 M.2.2.2.1 M.2.2.2.2.1 M.2.2.2.2.2.1 M.2.2.2.2.2.2.1 M.2.2.2.2.2.2.2.1 M.2.2.2.2.2.2.2.2.1 M.2.2.2.2.2.2.2.2.2.1 M.2.2.2.2.2.2.2.2.2.2.1 M.2.2.2.2.2.2.2.2.2.2.2.1 M.2.2.2.2.2.2.2.2.2.2.2.2.1 M.2.2.2.2.2.2.2.2.2.2.2.2.2.1 M.2.2.2.2.2.2.2.2.2.2.2.2.2.2.1 M.2.2.2.2.2.2.2.2.2.2.2.2.2.2.2.1 M.2.2.2.2.2.2.2.2.2.2.2.2.2.2.2.2.1 M.2.2.2.2.2.2.2.2.2.2.2.2.2.2.2.2.2.1 M.2.2.2.2.2.2.2.2.2.2.2.2.2.2.2.2.2.2.1 M.2.2.2.2.2.2.2.2.2.2.2.2.2.2.2.2.2.2.2.1 M.2.2.2.2.2.2.2.2.2.2.2.2.2.2.2.2.2.2.2.2.1 M.2.2.2.2.2.2.2.2.2.2.2.2.2.2.2.2.2.2.2.2.2.1 M.2.2.2.2.2.2.2.2.2.2.2.2.2.2.2.2.2.2.2.2.2.2 ((xs (i + 1).toNat).toInt) ((xs (i + 2).toNat).toInt) ((xs (i + 3).toNat).toInt) w hw) gL_law_X10_setNew rfl 3 (by decide +kernel) ⟨rfl, rfl⟩ ⟨Nat.le_of_ble_eq_true rfl, Nat.le_of_ble_eq_true rfl⟩ ⟨Nat.le_of_ble_eq_true rfl, Nat.le_of_ble_eq_true rfl⟩ 137 rfl rfl rfl rfl (Nat.le_of_ble_eq_true rfl) dL_law_218 (SG.one (c9 K a C') [] rfl rfl rfl) rfl ?_
  refine g_same X 740 dL_law_221 (by decide) ?_
  exact hk
set_option maxHeartbeats 4000000 in
set_option maxRecDepth 100000 in
theorem law_setOldTerm (K : KE) (l : Launch) (a d : Nat → Nat) {p : Program} {e : Env} {s : State} {m : MethodId} {below : List Frame} {meth : Method} {c : Code} {b L : Nat} {xs : Nat → Int32} (X : CX p s m #[Value.ref b] c K.1 vwCl (kT K) (fun q : Nat => s.heap.size ≤ q) cL_law 4 wsL_law RL) (hX : va_X b L xs s s.heap) (hbl : b < s.heap.size) (hL : L ≤ 2048) (i : Int) (hi0 : 0 ≤ i) (hi3 : i + 3 < L) (C C' : CM) (M M' : MT) (r : Int) (hC : cm_setOldTerm C ((xs (i + 1).toNat).toInt) ((xs (i + 2).toNat).toInt) ((xs (i + 3).toNat).toInt) = some (r, C')) (hM : rm_setOldTerm M ((xs (i + 1).toNat).toInt) ((xs (i + 2).toNat).toInt) ((xs (i + 3).toNat).toInt) = some (r, M')) (hk : GO p l e room_1 s m #[Value.ref b] below meth c K.1 vwCl (fun q : Nat => s.heap.size ≤ q) (lw_Z below #[Value.ref b] s) 4 600000 7302250 740 [(0, .ref b), (1, .ref (a 0)), (2, .ref (d 0)), (3, ii i)] [] (c9 K a C' ++ cM K d M')) : GO p l e room_1 s m #[Value.ref b] below meth c K.1 vwCl (fun q : Nat => s.heap.size ≤ q) (lw_Z below #[Value.ref b] s) 4 600000 7302250 226 [(0, .ref b), (1, .ref (a 0)), (2, .ref (d 0)), (3, ii i)] [] (c9 K a C ++ cM K d M) := by
  have hbA : ¬ (fun q : Nat => s.heap.size ≤ q) b := Nat.not_le.mpr hbl
  unfold cm_setOldTerm at hC
  unfold rm_setOldTerm at hM
  obtain ⟨w, hw, hwe⟩ := Option.map_eq_some_iff.mp hM
  cases hwe
  refine g_aload_n X dL_law_226 1 rfl rfl ?_
  refine g_aload_n X dL_law_227 0 rfl rfl ?_
  refine g_iload_n X dL_law_228 3 rfl rfl ?_
  refine g_iconst X dL_law_229 ?_
  refine g_iadd X dL_law_230 ?_
  refine g_sld X hX hbl hbA hL ⟨by omega, by omega⟩ dL_law_231 ?_
  refine g_aload_n X dL_law_232 0 rfl rfl ?_
  refine g_iload_n X dL_law_233 3 rfl rfl ?_
  refine g_iconst X dL_law_234 ?_
  refine g_iadd X dL_law_235 ?_
  refine g_sld X hX hbl hbA hL ⟨by omega, by omega⟩ dL_law_236 ?_
  refine g_aload_n X dL_law_237 0 rfl rfl ?_
  refine g_iload_n X dL_law_238 3 rfl rfl ?_
  refine g_iconst X dL_law_239 ?_
  refine g_iadd X dL_law_240 ?_
  refine g_sld X hX hbl hbA hL ⟨by omega, by omega⟩ dL_law_241 ?_
  refine g_callV X (As := [ii (xs (i + 1).toNat).toInt, ii (xs (i + 2).toNat).toInt, ii (xs (i + 3).toNat).toInt]) (st := []) (st1 := [ii w.1]) (ws' := c9 K a C' ++ cM K d M) (X9_setOldTerm_ok K l a C ((xs (i + 1).toNat).toInt) ((xs (i + 2).toNat).toInt) ((xs (i + 3).toNat).toInt) _ hC) gL_law_X9_setOldTerm rfl 3 (by decide +kernel) ⟨rfl, rfl⟩ ⟨Nat.le_of_ble_eq_true rfl, Nat.le_of_ble_eq_true rfl⟩ ⟨Nat.le_of_ble_eq_true rfl, Nat.le_of_ble_eq_true rfl⟩ 0 rfl rfl rfl rfl (Nat.le_of_ble_eq_true rfl) dL_law_242 (SG.one [] (cM K d M) rfl rfl rfl) rfl ?_
  refine g_aload_n X dL_law_245 2 rfl rfl ?_
  refine g_aload_n X dL_law_246 0 rfl rfl ?_
  refine g_iload_n X dL_law_247 3 rfl rfl ?_
  refine g_iconst X dL_law_248 ?_
  refine g_iadd X dL_law_249 ?_
  refine g_sld X hX hbl hbA hL ⟨by omega, by omega⟩ dL_law_250 ?_
  refine g_aload_n X dL_law_251 0 rfl rfl ?_
  refine g_iload_n X dL_law_252 3 rfl rfl ?_
  refine g_iconst X dL_law_253 ?_
  refine g_iadd X dL_law_254 ?_
  refine g_sld X hX hbl hbA hL ⟨by omega, by omega⟩ dL_law_255 ?_
  refine g_aload_n X dL_law_256 0 rfl rfl ?_
  refine g_iload_n X dL_law_257 3 rfl rfl ?_
  refine g_iconst X dL_law_258 ?_
  refine g_iadd X dL_law_259 ?_
  refine g_sld X hX hbl hbA hL ⟨by omega, by omega⟩ dL_law_260 ?_
  refine g_callV X (As := [ii (xs (i + 1).toNat).toInt, ii (xs (i + 2).toNat).toInt, ii (xs (i + 3).toNat).toInt]) (st := [ii w.1]) (st1 := [ii w.1, ii w.1]) (ws' := c9 K a C' ++ c10 K d w.2.1 w.2.2.1 w.2.2.2.1 w.2.2.2.2 M.2.2.2.2.1 M.2.2.2.2.2.1 M.2.2.2.2.2.2.1 M.2.2.2.2.2.2.2.1 M.2.2.2.2.2.2.2.2.1 M.2.2.2.2.2.2.2.2.2.1 M.2.2.2.2.2.2.2.2.2.2.1 M.2.2.2.2.2.2.2.2.2.2.2.1 M.2.2.2.2.2.2.2.2.2.2.2.2.1 M.2.2.2.2.2.2.2.2.2.2.2.2.2.1 M.2.2.2.2.2.2.2.2.2.2.2.2.2.2.1 M.2.2.2.2.2.2.2.2.2.2.2.2.2.2.2.1 M.2.2.2.2.2.2.2.2.2.2.2.2.2.2.2.2.1 M.2.2.2.2.2.2.2.2.2.2.2.2.2.2.2.2.2.1 M.2.2.2.2.2.2.2.2.2.2.2.2.2.2.2.2.2.2.1 M.2.2.2.2.2.2.2.2.2.2.2.2.2.2.2.2.2.2.2.1 M.2.2.2.2.2.2.2.2.2.2.2.2.2.2.2.2.2.2.2.2.1 M.2.2.2.2.2.2.2.2.2.2.2.2.2.2.2.2.2.2.2.2.2.1 M.2.2.2.2.2.2.2.2.2.2.2.2.2.2.2.2.2.2.2.2.2.2) (X10_setOldTerm_ok K l d M.1 M.2.1 M.2.2.1 M.2.2.2.1 M.2.2.2.2.1 M.2.2.2.2.2.1 M.2.2.2.2.2.2.1 M.2.2.2.2.2.2.2.1 M.2.2.2.2.2.2.2.2.1 M.2.2.2.2.2.2.2.2.2.1 M.2.2.2.2.2.2.2.2.2.2.1 M.2.2.2.2.2.2.2.2.2.2.2.1 M.2.2.2.2.2.2.2.2.2.2.2.2.1 M.2.2.2.2.2.2.2.2.2.2.2.2.2.1 M.2.2.2.2.2.2.2.2.2.2.2.2.2.2.1 M.2.2.2.2.2.2.2.2.2.2.2.2.2.2.2.1 M.2.2.2.2.2.2.2.2.2.2.2.2.2.2.2.2.1 M.2.2.2.2.2.2.2.2.2.2.2.2.2.2.2.2.2.1 M.2.2.2.2.2.2.2.2.2.2.2.2.2.2.2.2.2.2.1 M.2.2.2.2.2.2.2.2.2.2.2.2.2.2.2.2.2.2.2.1 M.2.2.2.2.2.2.2.2.2.2.2.2.2.2.2.2.2.2.2.2.1 M.2.2.2.2.2.2.2.2.2.2.2.2.2.2.2.2.2.2.2.2.2.1 M.2.2.2.2.2.2.2.2.2.2.2.2.2.2.2.2.2.2.2.2.2.2 ((xs (i + 1).toNat).toInt) ((xs (i + 2).toNat).toInt) ((xs (i + 3).toNat).toInt) w hw) gL_law_X10_setOldTerm rfl 3 (by decide +kernel) ⟨rfl, rfl⟩ ⟨Nat.le_of_ble_eq_true rfl, Nat.le_of_ble_eq_true rfl⟩ ⟨Nat.le_of_ble_eq_true rfl, Nat.le_of_ble_eq_true rfl⟩ 137 rfl rfl rfl rfl (Nat.le_of_ble_eq_true rfl) dL_law_261 (SG.one (c9 K a C') [] rfl rfl rfl) rfl ?_
  refine g_same X 740 dL_law_264 (by decide) ?_
  exact hk
set_option maxHeartbeats 4000000 in
set_option maxRecDepth 100000 in
theorem law_setNewTerm (K : KE) (l : Launch) (a d : Nat → Nat) {p : Program} {e : Env} {s : State} {m : MethodId} {below : List Frame} {meth : Method} {c : Code} {b L : Nat} {xs : Nat → Int32} (X : CX p s m #[Value.ref b] c K.1 vwCl (kT K) (fun q : Nat => s.heap.size ≤ q) cL_law 4 wsL_law RL) (hX : va_X b L xs s s.heap) (hbl : b < s.heap.size) (hL : L ≤ 2048) (i : Int) (hi0 : 0 ≤ i) (hi3 : i + 3 < L) (C C' : CM) (M M' : MT) (r : Int) (hC : cm_setNewTerm C ((xs (i + 1).toNat).toInt) ((xs (i + 2).toNat).toInt) ((xs (i + 3).toNat).toInt) = some (r, C')) (hM : rm_setNewTerm M ((xs (i + 1).toNat).toInt) ((xs (i + 2).toNat).toInt) ((xs (i + 3).toNat).toInt) = some (r, M')) (hk : GO p l e room_1 s m #[Value.ref b] below meth c K.1 vwCl (fun q : Nat => s.heap.size ≤ q) (lw_Z below #[Value.ref b] s) 4 600000 7302250 740 [(0, .ref b), (1, .ref (a 0)), (2, .ref (d 0)), (3, ii i)] [] (c9 K a C' ++ cM K d M')) : GO p l e room_1 s m #[Value.ref b] below meth c K.1 vwCl (fun q : Nat => s.heap.size ≤ q) (lw_Z below #[Value.ref b] s) 4 600000 7302250 269 [(0, .ref b), (1, .ref (a 0)), (2, .ref (d 0)), (3, ii i)] [] (c9 K a C ++ cM K d M) := by
  have hbA : ¬ (fun q : Nat => s.heap.size ≤ q) b := Nat.not_le.mpr hbl
  unfold cm_setNewTerm at hC
  unfold rm_setNewTerm at hM
  obtain ⟨w, hw, hwe⟩ := Option.map_eq_some_iff.mp hM
  cases hwe
  refine g_aload_n X dL_law_269 1 rfl rfl ?_
  refine g_aload_n X dL_law_270 0 rfl rfl ?_
  refine g_iload_n X dL_law_271 3 rfl rfl ?_
  refine g_iconst X dL_law_272 ?_
  refine g_iadd X dL_law_273 ?_
  refine g_sld X hX hbl hbA hL ⟨by omega, by omega⟩ dL_law_274 ?_
  refine g_aload_n X dL_law_275 0 rfl rfl ?_
  refine g_iload_n X dL_law_276 3 rfl rfl ?_
  refine g_iconst X dL_law_277 ?_
  refine g_iadd X dL_law_278 ?_
  refine g_sld X hX hbl hbA hL ⟨by omega, by omega⟩ dL_law_279 ?_
  refine g_aload_n X dL_law_280 0 rfl rfl ?_
  refine g_iload_n X dL_law_281 3 rfl rfl ?_
  refine g_iconst X dL_law_282 ?_
  refine g_iadd X dL_law_283 ?_
  refine g_sld X hX hbl hbA hL ⟨by omega, by omega⟩ dL_law_284 ?_
  refine g_callV X (As := [ii (xs (i + 1).toNat).toInt, ii (xs (i + 2).toNat).toInt, ii (xs (i + 3).toNat).toInt]) (st := []) (st1 := [ii w.1]) (ws' := c9 K a C' ++ cM K d M) (X9_setNewTerm_ok K l a C ((xs (i + 1).toNat).toInt) ((xs (i + 2).toNat).toInt) ((xs (i + 3).toNat).toInt) _ hC) gL_law_X9_setNewTerm rfl 3 (by decide +kernel) ⟨rfl, rfl⟩ ⟨Nat.le_of_ble_eq_true rfl, Nat.le_of_ble_eq_true rfl⟩ ⟨Nat.le_of_ble_eq_true rfl, Nat.le_of_ble_eq_true rfl⟩ 0 rfl rfl rfl rfl (Nat.le_of_ble_eq_true rfl) dL_law_285 (SG.one [] (cM K d M) rfl rfl rfl) rfl ?_
  refine g_aload_n X dL_law_288 2 rfl rfl ?_
  refine g_aload_n X dL_law_289 0 rfl rfl ?_
  refine g_iload_n X dL_law_290 3 rfl rfl ?_
  refine g_iconst X dL_law_291 ?_
  refine g_iadd X dL_law_292 ?_
  refine g_sld X hX hbl hbA hL ⟨by omega, by omega⟩ dL_law_293 ?_
  refine g_aload_n X dL_law_294 0 rfl rfl ?_
  refine g_iload_n X dL_law_295 3 rfl rfl ?_
  refine g_iconst X dL_law_296 ?_
  refine g_iadd X dL_law_297 ?_
  refine g_sld X hX hbl hbA hL ⟨by omega, by omega⟩ dL_law_298 ?_
  refine g_aload_n X dL_law_299 0 rfl rfl ?_
  refine g_iload_n X dL_law_300 3 rfl rfl ?_
  refine g_iconst X dL_law_301 ?_
  refine g_iadd X dL_law_302 ?_
  refine g_sld X hX hbl hbA hL ⟨by omega, by omega⟩ dL_law_303 ?_
  refine g_callV X (As := [ii (xs (i + 1).toNat).toInt, ii (xs (i + 2).toNat).toInt, ii (xs (i + 3).toNat).toInt]) (st := [ii w.1]) (st1 := [ii w.1, ii w.1]) (ws' := c9 K a C' ++ c10 K d w.2.1 w.2.2.1 w.2.2.2.1 w.2.2.2.2 M.2.2.2.2.1 M.2.2.2.2.2.1 M.2.2.2.2.2.2.1 M.2.2.2.2.2.2.2.1 M.2.2.2.2.2.2.2.2.1 M.2.2.2.2.2.2.2.2.2.1 M.2.2.2.2.2.2.2.2.2.2.1 M.2.2.2.2.2.2.2.2.2.2.2.1 M.2.2.2.2.2.2.2.2.2.2.2.2.1 M.2.2.2.2.2.2.2.2.2.2.2.2.2.1 M.2.2.2.2.2.2.2.2.2.2.2.2.2.2.1 M.2.2.2.2.2.2.2.2.2.2.2.2.2.2.2.1 M.2.2.2.2.2.2.2.2.2.2.2.2.2.2.2.2.1 M.2.2.2.2.2.2.2.2.2.2.2.2.2.2.2.2.2.1 M.2.2.2.2.2.2.2.2.2.2.2.2.2.2.2.2.2.2.1 M.2.2.2.2.2.2.2.2.2.2.2.2.2.2.2.2.2.2.2.1 M.2.2.2.2.2.2.2.2.2.2.2.2.2.2.2.2.2.2.2.2.1 M.2.2.2.2.2.2.2.2.2.2.2.2.2.2.2.2.2.2.2.2.2.1 M.2.2.2.2.2.2.2.2.2.2.2.2.2.2.2.2.2.2.2.2.2.2) (X10_setNewTerm_ok K l d M.1 M.2.1 M.2.2.1 M.2.2.2.1 M.2.2.2.2.1 M.2.2.2.2.2.1 M.2.2.2.2.2.2.1 M.2.2.2.2.2.2.2.1 M.2.2.2.2.2.2.2.2.1 M.2.2.2.2.2.2.2.2.2.1 M.2.2.2.2.2.2.2.2.2.2.1 M.2.2.2.2.2.2.2.2.2.2.2.1 M.2.2.2.2.2.2.2.2.2.2.2.2.1 M.2.2.2.2.2.2.2.2.2.2.2.2.2.1 M.2.2.2.2.2.2.2.2.2.2.2.2.2.2.1 M.2.2.2.2.2.2.2.2.2.2.2.2.2.2.2.1 M.2.2.2.2.2.2.2.2.2.2.2.2.2.2.2.2.1 M.2.2.2.2.2.2.2.2.2.2.2.2.2.2.2.2.2.1 M.2.2.2.2.2.2.2.2.2.2.2.2.2.2.2.2.2.2.1 M.2.2.2.2.2.2.2.2.2.2.2.2.2.2.2.2.2.2.2.1 M.2.2.2.2.2.2.2.2.2.2.2.2.2.2.2.2.2.2.2.2.1 M.2.2.2.2.2.2.2.2.2.2.2.2.2.2.2.2.2.2.2.2.2.1 M.2.2.2.2.2.2.2.2.2.2.2.2.2.2.2.2.2.2.2.2.2.2 ((xs (i + 1).toNat).toInt) ((xs (i + 2).toNat).toInt) ((xs (i + 3).toNat).toInt) w hw) gL_law_X10_setNewTerm rfl 3 (by decide +kernel) ⟨rfl, rfl⟩ ⟨Nat.le_of_ble_eq_true rfl, Nat.le_of_ble_eq_true rfl⟩ ⟨Nat.le_of_ble_eq_true rfl, Nat.le_of_ble_eq_true rfl⟩ 137 rfl rfl rfl rfl (Nat.le_of_ble_eq_true rfl) dL_law_304 (SG.one (c9 K a C') [] rfl rfl rfl) rfl ?_
  refine g_same X 740 dL_law_307 (by decide) ?_
  exact hk
set_option maxHeartbeats 4000000 in
set_option maxRecDepth 100000 in
theorem law_map (K : KE) (l : Launch) (a d : Nat → Nat) {p : Program} {e : Env} {s : State} {m : MethodId} {below : List Frame} {meth : Method} {c : Code} {b L : Nat} {xs : Nat → Int32} (X : CX p s m #[Value.ref b] c K.1 vwCl (kT K) (fun q : Nat => s.heap.size ≤ q) cL_law 4 wsL_law RL) (hX : va_X b L xs s s.heap) (hbl : b < s.heap.size) (hL : L ≤ 2048) (i : Int) (hi0 : 0 ≤ i) (hi3 : i + 3 < L) (C C' : CM) (M M' : MT) (r : Int) (hC : cm_map C ((xs (i + 1).toNat).toInt) ((xs (i + 2).toNat).toInt) = some (r, C')) (hM : rm_map M ((xs (i + 1).toNat).toInt) ((xs (i + 2).toNat).toInt) = some (r, M')) (hk : GO p l e room_1 s m #[Value.ref b] below meth c K.1 vwCl (fun q : Nat => s.heap.size ≤ q) (lw_Z below #[Value.ref b] s) 4 600000 7302250 740 [(0, .ref b), (1, .ref (a 0)), (2, .ref (d 0)), (3, ii i)] [] (c9 K a C' ++ cM K d M')) : GO p l e room_1 s m #[Value.ref b] below meth c K.1 vwCl (fun q : Nat => s.heap.size ≤ q) (lw_Z below #[Value.ref b] s) 4 600000 7302250 312 [(0, .ref b), (1, .ref (a 0)), (2, .ref (d 0)), (3, ii i)] [] (c9 K a C ++ cM K d M) := by
  have hbA : ¬ (fun q : Nat => s.heap.size ≤ q) b := Nat.not_le.mpr hbl
  unfold cm_map at hC
  unfold rm_map at hM
  obtain ⟨w, hw, hwe⟩ := Option.map_eq_some_iff.mp hM
  cases hwe
  refine g_aload_n X dL_law_312 1 rfl rfl ?_
  refine g_aload_n X dL_law_313 0 rfl rfl ?_
  refine g_iload_n X dL_law_314 3 rfl rfl ?_
  refine g_iconst X dL_law_315 ?_
  refine g_iadd X dL_law_316 ?_
  refine g_sld X hX hbl hbA hL ⟨by omega, by omega⟩ dL_law_317 ?_
  refine g_aload_n X dL_law_318 0 rfl rfl ?_
  refine g_iload_n X dL_law_319 3 rfl rfl ?_
  refine g_iconst X dL_law_320 ?_
  refine g_iadd X dL_law_321 ?_
  refine g_sld X hX hbl hbA hL ⟨by omega, by omega⟩ dL_law_322 ?_
  refine g_callV X (As := [ii (xs (i + 1).toNat).toInt, ii (xs (i + 2).toNat).toInt]) (st := []) (st1 := [ii w.1]) (ws' := c9 K a C' ++ cM K d M) (X9_map_ok K l a C ((xs (i + 1).toNat).toInt) ((xs (i + 2).toNat).toInt) _ hC) gL_law_X9_map rfl 2 (by decide +kernel) ⟨rfl, rfl⟩ ⟨Nat.le_of_ble_eq_true rfl, Nat.le_of_ble_eq_true rfl⟩ ⟨Nat.le_of_ble_eq_true rfl, Nat.le_of_ble_eq_true rfl⟩ 0 rfl rfl rfl rfl (Nat.le_of_ble_eq_true rfl) dL_law_323 (SG.one [] (cM K d M) rfl rfl rfl) rfl ?_
  refine g_aload_n X dL_law_326 2 rfl rfl ?_
  refine g_aload_n X dL_law_327 0 rfl rfl ?_
  refine g_iload_n X dL_law_328 3 rfl rfl ?_
  refine g_iconst X dL_law_329 ?_
  refine g_iadd X dL_law_330 ?_
  refine g_sld X hX hbl hbA hL ⟨by omega, by omega⟩ dL_law_331 ?_
  refine g_aload_n X dL_law_332 0 rfl rfl ?_
  refine g_iload_n X dL_law_333 3 rfl rfl ?_
  refine g_iconst X dL_law_334 ?_
  refine g_iadd X dL_law_335 ?_
  refine g_sld X hX hbl hbA hL ⟨by omega, by omega⟩ dL_law_336 ?_
  refine g_callV X (As := [ii (xs (i + 1).toNat).toInt, ii (xs (i + 2).toNat).toInt]) (st := [ii w.1]) (st1 := [ii w.1, ii w.1]) (ws' := c9 K a C' ++ c10 K d w.2.1 w.2.2.1 w.2.2.2.1 w.2.2.2.2 M.2.2.2.2.1 M.2.2.2.2.2.1 M.2.2.2.2.2.2.1 M.2.2.2.2.2.2.2.1 M.2.2.2.2.2.2.2.2.1 M.2.2.2.2.2.2.2.2.2.1 M.2.2.2.2.2.2.2.2.2.2.1 M.2.2.2.2.2.2.2.2.2.2.2.1 M.2.2.2.2.2.2.2.2.2.2.2.2.1 M.2.2.2.2.2.2.2.2.2.2.2.2.2.1 M.2.2.2.2.2.2.2.2.2.2.2.2.2.2.1 M.2.2.2.2.2.2.2.2.2.2.2.2.2.2.2.1 M.2.2.2.2.2.2.2.2.2.2.2.2.2.2.2.2.1 M.2.2.2.2.2.2.2.2.2.2.2.2.2.2.2.2.2.1 M.2.2.2.2.2.2.2.2.2.2.2.2.2.2.2.2.2.2.1 M.2.2.2.2.2.2.2.2.2.2.2.2.2.2.2.2.2.2.2.1 M.2.2.2.2.2.2.2.2.2.2.2.2.2.2.2.2.2.2.2.2.1 M.2.2.2.2.2.2.2.2.2.2.2.2.2.2.2.2.2.2.2.2.2.1 M.2.2.2.2.2.2.2.2.2.2.2.2.2.2.2.2.2.2.2.2.2.2) (X10_map_ok K l d M.1 M.2.1 M.2.2.1 M.2.2.2.1 M.2.2.2.2.1 M.2.2.2.2.2.1 M.2.2.2.2.2.2.1 M.2.2.2.2.2.2.2.1 M.2.2.2.2.2.2.2.2.1 M.2.2.2.2.2.2.2.2.2.1 M.2.2.2.2.2.2.2.2.2.2.1 M.2.2.2.2.2.2.2.2.2.2.2.1 M.2.2.2.2.2.2.2.2.2.2.2.2.1 M.2.2.2.2.2.2.2.2.2.2.2.2.2.1 M.2.2.2.2.2.2.2.2.2.2.2.2.2.2.1 M.2.2.2.2.2.2.2.2.2.2.2.2.2.2.2.1 M.2.2.2.2.2.2.2.2.2.2.2.2.2.2.2.2.1 M.2.2.2.2.2.2.2.2.2.2.2.2.2.2.2.2.2.1 M.2.2.2.2.2.2.2.2.2.2.2.2.2.2.2.2.2.2.1 M.2.2.2.2.2.2.2.2.2.2.2.2.2.2.2.2.2.2.2.1 M.2.2.2.2.2.2.2.2.2.2.2.2.2.2.2.2.2.2.2.2.1 M.2.2.2.2.2.2.2.2.2.2.2.2.2.2.2.2.2.2.2.2.2.1 M.2.2.2.2.2.2.2.2.2.2.2.2.2.2.2.2.2.2.2.2.2.2 ((xs (i + 1).toNat).toInt) ((xs (i + 2).toNat).toInt) w hw) gL_law_X10_map rfl 2 (by decide +kernel) ⟨rfl, rfl⟩ ⟨Nat.le_of_ble_eq_true rfl, Nat.le_of_ble_eq_true rfl⟩ ⟨Nat.le_of_ble_eq_true rfl, Nat.le_of_ble_eq_true rfl⟩ 137 rfl rfl rfl rfl (Nat.le_of_ble_eq_true rfl) dL_law_337 (SG.one (c9 K a C') [] rfl rfl rfl) rfl ?_
  refine g_same X 740 dL_law_340 (by decide) ?_
  exact hk
set_option maxHeartbeats 4000000 in
set_option maxRecDepth 100000 in
theorem law_unmap (K : KE) (l : Launch) (a d : Nat → Nat) {p : Program} {e : Env} {s : State} {m : MethodId} {below : List Frame} {meth : Method} {c : Code} {b L : Nat} {xs : Nat → Int32} (X : CX p s m #[Value.ref b] c K.1 vwCl (kT K) (fun q : Nat => s.heap.size ≤ q) cL_law 4 wsL_law RL) (hX : va_X b L xs s s.heap) (hbl : b < s.heap.size) (hL : L ≤ 2048) (i : Int) (hi0 : 0 ≤ i) (hi3 : i + 3 < L) (C C' : CM) (M M' : MT) (r : Int) (hC : cm_unmap C ((xs (i + 1).toNat).toInt) = some (r, C')) (hM : rm_unmap M ((xs (i + 1).toNat).toInt) = some (r, M')) (hk : GO p l e room_1 s m #[Value.ref b] below meth c K.1 vwCl (fun q : Nat => s.heap.size ≤ q) (lw_Z below #[Value.ref b] s) 4 600000 7302250 740 [(0, .ref b), (1, .ref (a 0)), (2, .ref (d 0)), (3, ii i)] [] (c9 K a C' ++ cM K d M')) : GO p l e room_1 s m #[Value.ref b] below meth c K.1 vwCl (fun q : Nat => s.heap.size ≤ q) (lw_Z below #[Value.ref b] s) 4 600000 7302250 345 [(0, .ref b), (1, .ref (a 0)), (2, .ref (d 0)), (3, ii i)] [] (c9 K a C ++ cM K d M) := by
  have hbA : ¬ (fun q : Nat => s.heap.size ≤ q) b := Nat.not_le.mpr hbl
  unfold cm_unmap at hC
  unfold rm_unmap at hM
  obtain ⟨w, hw, hwe⟩ := Option.map_eq_some_iff.mp hM
  cases hwe
  refine g_aload_n X dL_law_345 1 rfl rfl ?_
  refine g_aload_n X dL_law_346 0 rfl rfl ?_
  refine g_iload_n X dL_law_347 3 rfl rfl ?_
  refine g_iconst X dL_law_348 ?_
  refine g_iadd X dL_law_349 ?_
  refine g_sld X hX hbl hbA hL ⟨by omega, by omega⟩ dL_law_350 ?_
  refine g_callV X (As := [ii (xs (i + 1).toNat).toInt]) (st := []) (st1 := [ii w.1]) (ws' := c9 K a C' ++ cM K d M) (X9_unmap_ok K l a C ((xs (i + 1).toNat).toInt) _ hC) gL_law_X9_unmap rfl 1 (by decide +kernel) ⟨rfl, rfl⟩ ⟨Nat.le_of_ble_eq_true rfl, Nat.le_of_ble_eq_true rfl⟩ ⟨Nat.le_of_ble_eq_true rfl, Nat.le_of_ble_eq_true rfl⟩ 0 rfl rfl rfl rfl (Nat.le_of_ble_eq_true rfl) dL_law_351 (SG.one [] (cM K d M) rfl rfl rfl) rfl ?_
  refine g_aload_n X dL_law_354 2 rfl rfl ?_
  refine g_aload_n X dL_law_355 0 rfl rfl ?_
  refine g_iload_n X dL_law_356 3 rfl rfl ?_
  refine g_iconst X dL_law_357 ?_
  refine g_iadd X dL_law_358 ?_
  refine g_sld X hX hbl hbA hL ⟨by omega, by omega⟩ dL_law_359 ?_
  refine g_callV X (As := [ii (xs (i + 1).toNat).toInt]) (st := [ii w.1]) (st1 := [ii w.1, ii w.1]) (ws' := c9 K a C' ++ c10 K d w.2.1 w.2.2.1 w.2.2.2.1 w.2.2.2.2 M.2.2.2.2.1 M.2.2.2.2.2.1 M.2.2.2.2.2.2.1 M.2.2.2.2.2.2.2.1 M.2.2.2.2.2.2.2.2.1 M.2.2.2.2.2.2.2.2.2.1 M.2.2.2.2.2.2.2.2.2.2.1 M.2.2.2.2.2.2.2.2.2.2.2.1 M.2.2.2.2.2.2.2.2.2.2.2.2.1 M.2.2.2.2.2.2.2.2.2.2.2.2.2.1 M.2.2.2.2.2.2.2.2.2.2.2.2.2.2.1 M.2.2.2.2.2.2.2.2.2.2.2.2.2.2.2.1 M.2.2.2.2.2.2.2.2.2.2.2.2.2.2.2.2.1 M.2.2.2.2.2.2.2.2.2.2.2.2.2.2.2.2.2.1 M.2.2.2.2.2.2.2.2.2.2.2.2.2.2.2.2.2.2.1 M.2.2.2.2.2.2.2.2.2.2.2.2.2.2.2.2.2.2.2.1 M.2.2.2.2.2.2.2.2.2.2.2.2.2.2.2.2.2.2.2.2.1 M.2.2.2.2.2.2.2.2.2.2.2.2.2.2.2.2.2.2.2.2.2.1 M.2.2.2.2.2.2.2.2.2.2.2.2.2.2.2.2.2.2.2.2.2.2) (X10_unmap_ok K l d M.1 M.2.1 M.2.2.1 M.2.2.2.1 M.2.2.2.2.1 M.2.2.2.2.2.1 M.2.2.2.2.2.2.1 M.2.2.2.2.2.2.2.1 M.2.2.2.2.2.2.2.2.1 M.2.2.2.2.2.2.2.2.2.1 M.2.2.2.2.2.2.2.2.2.2.1 M.2.2.2.2.2.2.2.2.2.2.2.1 M.2.2.2.2.2.2.2.2.2.2.2.2.1 M.2.2.2.2.2.2.2.2.2.2.2.2.2.1 M.2.2.2.2.2.2.2.2.2.2.2.2.2.2.1 M.2.2.2.2.2.2.2.2.2.2.2.2.2.2.2.1 M.2.2.2.2.2.2.2.2.2.2.2.2.2.2.2.2.1 M.2.2.2.2.2.2.2.2.2.2.2.2.2.2.2.2.2.1 M.2.2.2.2.2.2.2.2.2.2.2.2.2.2.2.2.2.2.1 M.2.2.2.2.2.2.2.2.2.2.2.2.2.2.2.2.2.2.2.1 M.2.2.2.2.2.2.2.2.2.2.2.2.2.2.2.2.2.2.2.2.1 M.2.2.2.2.2.2.2.2.2.2.2.2.2.2.2.2.2.2.2.2.2.1 M.2.2.2.2.2.2.2.2.2.2.2.2.2.2.2.2.2.2.2.2.2.2 ((xs (i + 1).toNat).toInt) w hw) gL_law_X10_unmap rfl 1 (by decide +kernel) ⟨rfl, rfl⟩ ⟨Nat.le_of_ble_eq_true rfl, Nat.le_of_ble_eq_true rfl⟩ ⟨Nat.le_of_ble_eq_true rfl, Nat.le_of_ble_eq_true rfl⟩ 137 rfl rfl rfl rfl (Nat.le_of_ble_eq_true rfl) dL_law_360 (SG.one (c9 K a C') [] rfl rfl rfl) rfl ?_
  refine g_same X 740 dL_law_363 (by decide) ?_
  exact hk
set_option maxHeartbeats 4000000 in
set_option maxRecDepth 100000 in
theorem law_setSource (K : KE) (l : Launch) (a d : Nat → Nat) {p : Program} {e : Env} {s : State} {m : MethodId} {below : List Frame} {meth : Method} {c : Code} {b L : Nat} {xs : Nat → Int32} (X : CX p s m #[Value.ref b] c K.1 vwCl (kT K) (fun q : Nat => s.heap.size ≤ q) cL_law 4 wsL_law RL) (hX : va_X b L xs s s.heap) (hbl : b < s.heap.size) (hL : L ≤ 2048) (i : Int) (hi0 : 0 ≤ i) (hi3 : i + 3 < L) (C C' : CM) (M M' : MT) (r : Int) (hC : cm_setSource C ((xs (i + 1).toNat).toInt) ((xs (i + 2).toNat).toInt) ((xs (i + 3).toNat).toInt) = some (r, C')) (hM : rm_setSource M ((xs (i + 1).toNat).toInt) ((xs (i + 2).toNat).toInt) ((xs (i + 3).toNat).toInt) = some (r, M')) (hk : GO p l e room_1 s m #[Value.ref b] below meth c K.1 vwCl (fun q : Nat => s.heap.size ≤ q) (lw_Z below #[Value.ref b] s) 4 600000 7302250 740 [(0, .ref b), (1, .ref (a 0)), (2, .ref (d 0)), (3, ii i)] [] (c9 K a C' ++ cM K d M')) : GO p l e room_1 s m #[Value.ref b] below meth c K.1 vwCl (fun q : Nat => s.heap.size ≤ q) (lw_Z below #[Value.ref b] s) 4 600000 7302250 368 [(0, .ref b), (1, .ref (a 0)), (2, .ref (d 0)), (3, ii i)] [] (c9 K a C ++ cM K d M) := by
  have hbA : ¬ (fun q : Nat => s.heap.size ≤ q) b := Nat.not_le.mpr hbl
  unfold cm_setSource at hC
  unfold rm_setSource at hM
  obtain ⟨w, hw, hwe⟩ := Option.map_eq_some_iff.mp hM
  cases hwe
  refine g_aload_n X dL_law_368 1 rfl rfl ?_
  refine g_aload_n X dL_law_369 0 rfl rfl ?_
  refine g_iload_n X dL_law_370 3 rfl rfl ?_
  refine g_iconst X dL_law_371 ?_
  refine g_iadd X dL_law_372 ?_
  refine g_sld X hX hbl hbA hL ⟨by omega, by omega⟩ dL_law_373 ?_
  refine g_aload_n X dL_law_374 0 rfl rfl ?_
  refine g_iload_n X dL_law_375 3 rfl rfl ?_
  refine g_iconst X dL_law_376 ?_
  refine g_iadd X dL_law_377 ?_
  refine g_sld X hX hbl hbA hL ⟨by omega, by omega⟩ dL_law_378 ?_
  refine g_aload_n X dL_law_379 0 rfl rfl ?_
  refine g_iload_n X dL_law_380 3 rfl rfl ?_
  refine g_iconst X dL_law_381 ?_
  refine g_iadd X dL_law_382 ?_
  refine g_sld X hX hbl hbA hL ⟨by omega, by omega⟩ dL_law_383 ?_
  refine g_callV X (As := [ii (xs (i + 1).toNat).toInt, ii (xs (i + 2).toNat).toInt, ii (xs (i + 3).toNat).toInt]) (st := []) (st1 := [ii w.1]) (ws' := c9 K a C' ++ cM K d M) (X9_setSource_ok K l a C ((xs (i + 1).toNat).toInt) ((xs (i + 2).toNat).toInt) ((xs (i + 3).toNat).toInt) _ hC) gL_law_X9_setSource rfl 3 (by decide +kernel) ⟨rfl, rfl⟩ ⟨Nat.le_of_ble_eq_true rfl, Nat.le_of_ble_eq_true rfl⟩ ⟨Nat.le_of_ble_eq_true rfl, Nat.le_of_ble_eq_true rfl⟩ 0 rfl rfl rfl rfl (Nat.le_of_ble_eq_true rfl) dL_law_384 (SG.one [] (cM K d M) rfl rfl rfl) rfl ?_
  refine g_aload_n X dL_law_387 2 rfl rfl ?_
  refine g_aload_n X dL_law_388 0 rfl rfl ?_
  refine g_iload_n X dL_law_389 3 rfl rfl ?_
  refine g_iconst X dL_law_390 ?_
  refine g_iadd X dL_law_391 ?_
  refine g_sld X hX hbl hbA hL ⟨by omega, by omega⟩ dL_law_392 ?_
  refine g_aload_n X dL_law_393 0 rfl rfl ?_
  refine g_iload_n X dL_law_394 3 rfl rfl ?_
  refine g_iconst X dL_law_395 ?_
  refine g_iadd X dL_law_396 ?_
  refine g_sld X hX hbl hbA hL ⟨by omega, by omega⟩ dL_law_397 ?_
  refine g_aload_n X dL_law_398 0 rfl rfl ?_
  refine g_iload_n X dL_law_399 3 rfl rfl ?_
  refine g_iconst X dL_law_400 ?_
  refine g_iadd X dL_law_401 ?_
  refine g_sld X hX hbl hbA hL ⟨by omega, by omega⟩ dL_law_402 ?_
  refine g_callV X (As := [ii (xs (i + 1).toNat).toInt, ii (xs (i + 2).toNat).toInt, ii (xs (i + 3).toNat).toInt]) (st := [ii w.1]) (st1 := [ii w.1, ii w.1]) (ws' := c9 K a C' ++ c10 K d w.2.1 w.2.2.1 w.2.2.2.1 w.2.2.2.2 M.2.2.2.2.1 M.2.2.2.2.2.1 M.2.2.2.2.2.2.1 M.2.2.2.2.2.2.2.1 M.2.2.2.2.2.2.2.2.1 M.2.2.2.2.2.2.2.2.2.1 M.2.2.2.2.2.2.2.2.2.2.1 M.2.2.2.2.2.2.2.2.2.2.2.1 M.2.2.2.2.2.2.2.2.2.2.2.2.1 M.2.2.2.2.2.2.2.2.2.2.2.2.2.1 M.2.2.2.2.2.2.2.2.2.2.2.2.2.2.1 M.2.2.2.2.2.2.2.2.2.2.2.2.2.2.2.1 M.2.2.2.2.2.2.2.2.2.2.2.2.2.2.2.2.1 M.2.2.2.2.2.2.2.2.2.2.2.2.2.2.2.2.2.1 M.2.2.2.2.2.2.2.2.2.2.2.2.2.2.2.2.2.2.1 M.2.2.2.2.2.2.2.2.2.2.2.2.2.2.2.2.2.2.2.1 M.2.2.2.2.2.2.2.2.2.2.2.2.2.2.2.2.2.2.2.2.1 M.2.2.2.2.2.2.2.2.2.2.2.2.2.2.2.2.2.2.2.2.2.1 M.2.2.2.2.2.2.2.2.2.2.2.2.2.2.2.2.2.2.2.2.2.2) (X10_setSource_ok K l d M.1 M.2.1 M.2.2.1 M.2.2.2.1 M.2.2.2.2.1 M.2.2.2.2.2.1 M.2.2.2.2.2.2.1 M.2.2.2.2.2.2.2.1 M.2.2.2.2.2.2.2.2.1 M.2.2.2.2.2.2.2.2.2.1 M.2.2.2.2.2.2.2.2.2.2.1 M.2.2.2.2.2.2.2.2.2.2.2.1 M.2.2.2.2.2.2.2.2.2.2.2.2.1 M.2.2.2.2.2.2.2.2.2.2.2.2.2.1 M.2.2.2.2.2.2.2.2.2.2.2.2.2.2.1 M.2.2.2.2.2.2.2.2.2.2.2.2.2.2.2.1 M.2.2.2.2.2.2.2.2.2.2.2.2.2.2.2.2.1 M.2.2.2.2.2.2.2.2.2.2.2.2.2.2.2.2.2.1 M.2.2.2.2.2.2.2.2.2.2.2.2.2.2.2.2.2.2.1 M.2.2.2.2.2.2.2.2.2.2.2.2.2.2.2.2.2.2.2.1 M.2.2.2.2.2.2.2.2.2.2.2.2.2.2.2.2.2.2.2.2.1 M.2.2.2.2.2.2.2.2.2.2.2.2.2.2.2.2.2.2.2.2.2.1 M.2.2.2.2.2.2.2.2.2.2.2.2.2.2.2.2.2.2.2.2.2.2 ((xs (i + 1).toNat).toInt) ((xs (i + 2).toNat).toInt) ((xs (i + 3).toNat).toInt) w hw) gL_law_X10_setSource rfl 3 (by decide +kernel) ⟨rfl, rfl⟩ ⟨Nat.le_of_ble_eq_true rfl, Nat.le_of_ble_eq_true rfl⟩ ⟨Nat.le_of_ble_eq_true rfl, Nat.le_of_ble_eq_true rfl⟩ 137 rfl rfl rfl rfl (Nat.le_of_ble_eq_true rfl) dL_law_403 (SG.one (c9 K a C') [] rfl rfl rfl) rfl ?_
  refine g_same X 740 dL_law_406 (by decide) ?_
  exact hk
set_option maxHeartbeats 4000000 in
set_option maxRecDepth 100000 in
theorem law_setConstant (K : KE) (l : Launch) (a d : Nat → Nat) {p : Program} {e : Env} {s : State} {m : MethodId} {below : List Frame} {meth : Method} {c : Code} {b L : Nat} {xs : Nat → Int32} (X : CX p s m #[Value.ref b] c K.1 vwCl (kT K) (fun q : Nat => s.heap.size ≤ q) cL_law 4 wsL_law RL) (hX : va_X b L xs s s.heap) (hbl : b < s.heap.size) (hL : L ≤ 2048) (i : Int) (hi0 : 0 ≤ i) (hi3 : i + 3 < L) (C C' : CM) (M M' : MT) (r : Int) (hC : cm_setConstant C ((xs (i + 1).toNat).toInt) ((xs (i + 2).toNat).toInt) ((xs (i + 3).toNat).toInt) = some (r, C')) (hM : rm_setConstant M ((xs (i + 1).toNat).toInt) ((xs (i + 2).toNat).toInt) ((xs (i + 3).toNat).toInt) = some (r, M')) (hk : GO p l e room_1 s m #[Value.ref b] below meth c K.1 vwCl (fun q : Nat => s.heap.size ≤ q) (lw_Z below #[Value.ref b] s) 4 600000 7302250 740 [(0, .ref b), (1, .ref (a 0)), (2, .ref (d 0)), (3, ii i)] [] (c9 K a C' ++ cM K d M')) : GO p l e room_1 s m #[Value.ref b] below meth c K.1 vwCl (fun q : Nat => s.heap.size ≤ q) (lw_Z below #[Value.ref b] s) 4 600000 7302250 411 [(0, .ref b), (1, .ref (a 0)), (2, .ref (d 0)), (3, ii i)] [] (c9 K a C ++ cM K d M) := by
  have hbA : ¬ (fun q : Nat => s.heap.size ≤ q) b := Nat.not_le.mpr hbl
  unfold cm_setConstant at hC
  unfold rm_setConstant at hM
  obtain ⟨w, hw, hwe⟩ := Option.map_eq_some_iff.mp hM
  cases hwe
  refine g_aload_n X dL_law_411 1 rfl rfl ?_
  refine g_aload_n X dL_law_412 0 rfl rfl ?_
  refine g_iload_n X dL_law_413 3 rfl rfl ?_
  refine g_iconst X dL_law_414 ?_
  refine g_iadd X dL_law_415 ?_
  refine g_sld X hX hbl hbA hL ⟨by omega, by omega⟩ dL_law_416 ?_
  refine g_aload_n X dL_law_417 0 rfl rfl ?_
  refine g_iload_n X dL_law_418 3 rfl rfl ?_
  refine g_iconst X dL_law_419 ?_
  refine g_iadd X dL_law_420 ?_
  refine g_sld X hX hbl hbA hL ⟨by omega, by omega⟩ dL_law_421 ?_
  refine g_aload_n X dL_law_422 0 rfl rfl ?_
  refine g_iload_n X dL_law_423 3 rfl rfl ?_
  refine g_iconst X dL_law_424 ?_
  refine g_iadd X dL_law_425 ?_
  refine g_sld X hX hbl hbA hL ⟨by omega, by omega⟩ dL_law_426 ?_
  refine g_callV X (As := [ii (xs (i + 1).toNat).toInt, ii (xs (i + 2).toNat).toInt, ii (xs (i + 3).toNat).toInt]) (st := []) (st1 := [ii w.1]) (ws' := c9 K a C' ++ cM K d M) (X9_setConstant_ok K l a C ((xs (i + 1).toNat).toInt) ((xs (i + 2).toNat).toInt) ((xs (i + 3).toNat).toInt) _ hC) gL_law_X9_setConstant rfl 3 (by decide +kernel) ⟨rfl, rfl⟩ ⟨Nat.le_of_ble_eq_true rfl, Nat.le_of_ble_eq_true rfl⟩ ⟨Nat.le_of_ble_eq_true rfl, Nat.le_of_ble_eq_true rfl⟩ 0 rfl rfl rfl rfl (Nat.le_of_ble_eq_true rfl) dL_law_427 (SG.one [] (cM K d M) rfl rfl rfl) rfl ?_
  refine g_aload_n X dL_law_430 2 rfl rfl ?_
  refine g_aload_n X dL_law_431 0 rfl rfl ?_
  refine g_iload_n X dL_law_432 3 rfl rfl ?_
  refine g_iconst X dL_law_433 ?_
  refine g_iadd X dL_law_434 ?_
  refine g_sld X hX hbl hbA hL ⟨by omega, by omega⟩ dL_law_435 ?_
  refine g_aload_n X dL_law_436 0 rfl rfl ?_
  refine g_iload_n X dL_law_437 3 rfl rfl ?_
  refine g_iconst X dL_law_438 ?_
  refine g_iadd X dL_law_439 ?_
  refine g_sld X hX hbl hbA hL ⟨by omega, by omega⟩ dL_law_440 ?_
  refine g_aload_n X dL_law_441 0 rfl rfl ?_
  refine g_iload_n X dL_law_442 3 rfl rfl ?_
  refine g_iconst X dL_law_443 ?_
  refine g_iadd X dL_law_444 ?_
  refine g_sld X hX hbl hbA hL ⟨by omega, by omega⟩ dL_law_445 ?_
  refine g_callV X (As := [ii (xs (i + 1).toNat).toInt, ii (xs (i + 2).toNat).toInt, ii (xs (i + 3).toNat).toInt]) (st := [ii w.1]) (st1 := [ii w.1, ii w.1]) (ws' := c9 K a C' ++ c10 K d w.2.1 w.2.2.1 w.2.2.2.1 w.2.2.2.2 M.2.2.2.2.1 M.2.2.2.2.2.1 M.2.2.2.2.2.2.1 M.2.2.2.2.2.2.2.1 M.2.2.2.2.2.2.2.2.1 M.2.2.2.2.2.2.2.2.2.1 M.2.2.2.2.2.2.2.2.2.2.1 M.2.2.2.2.2.2.2.2.2.2.2.1 M.2.2.2.2.2.2.2.2.2.2.2.2.1 M.2.2.2.2.2.2.2.2.2.2.2.2.2.1 M.2.2.2.2.2.2.2.2.2.2.2.2.2.2.1 M.2.2.2.2.2.2.2.2.2.2.2.2.2.2.2.1 M.2.2.2.2.2.2.2.2.2.2.2.2.2.2.2.2.1 M.2.2.2.2.2.2.2.2.2.2.2.2.2.2.2.2.2.1 M.2.2.2.2.2.2.2.2.2.2.2.2.2.2.2.2.2.2.1 M.2.2.2.2.2.2.2.2.2.2.2.2.2.2.2.2.2.2.2.1 M.2.2.2.2.2.2.2.2.2.2.2.2.2.2.2.2.2.2.2.2.1 M.2.2.2.2.2.2.2.2.2.2.2.2.2.2.2.2.2.2.2.2.2.1 M.2.2.2.2.2.2.2.2.2.2.2.2.2.2.2.2.2.2.2.2.2.2) (X10_setConstant_ok K l d M.1 M.2.1 M.2.2.1 M.2.2.2.1 M.2.2.2.2.1 M.2.2.2.2.2.1 M.2.2.2.2.2.2.1 M.2.2.2.2.2.2.2.1 M.2.2.2.2.2.2.2.2.1 M.2.2.2.2.2.2.2.2.2.1 M.2.2.2.2.2.2.2.2.2.2.1 M.2.2.2.2.2.2.2.2.2.2.2.1 M.2.2.2.2.2.2.2.2.2.2.2.2.1 M.2.2.2.2.2.2.2.2.2.2.2.2.2.1 M.2.2.2.2.2.2.2.2.2.2.2.2.2.2.1 M.2.2.2.2.2.2.2.2.2.2.2.2.2.2.2.1 M.2.2.2.2.2.2.2.2.2.2.2.2.2.2.2.2.1 M.2.2.2.2.2.2.2.2.2.2.2.2.2.2.2.2.2.1 M.2.2.2.2.2.2.2.2.2.2.2.2.2.2.2.2.2.2.1 M.2.2.2.2.2.2.2.2.2.2.2.2.2.2.2.2.2.2.2.1 M.2.2.2.2.2.2.2.2.2.2.2.2.2.2.2.2.2.2.2.2.1 M.2.2.2.2.2.2.2.2.2.2.2.2.2.2.2.2.2.2.2.2.2.1 M.2.2.2.2.2.2.2.2.2.2.2.2.2.2.2.2.2.2.2.2.2.2 ((xs (i + 1).toNat).toInt) ((xs (i + 2).toNat).toInt) ((xs (i + 3).toNat).toInt) w hw) gL_law_X10_setConstant rfl 3 (by decide +kernel) ⟨rfl, rfl⟩ ⟨Nat.le_of_ble_eq_true rfl, Nat.le_of_ble_eq_true rfl⟩ ⟨Nat.le_of_ble_eq_true rfl, Nat.le_of_ble_eq_true rfl⟩ 137 rfl rfl rfl rfl (Nat.le_of_ble_eq_true rfl) dL_law_446 (SG.one (c9 K a C') [] rfl rfl rfl) rfl ?_
  refine g_same X 740 dL_law_449 (by decide) ?_
  exact hk
set_option maxHeartbeats 4000000 in
set_option maxRecDepth 100000 in
theorem law_isFaithful (K : KE) (l : Launch) (a d : Nat → Nat) {p : Program} {e : Env} {s : State} {m : MethodId} {below : List Frame} {meth : Method} {c : Code} {b L : Nat} {xs : Nat → Int32} (X : CX p s m #[Value.ref b] c K.1 vwCl (kT K) (fun q : Nat => s.heap.size ≤ q) cL_law 4 wsL_law RL) (hX : va_X b L xs s s.heap) (hbl : b < s.heap.size) (hL : L ≤ 2048) (i : Int) (hi0 : 0 ≤ i) (hi3 : i + 3 < L) (C C' : CM) (M M' : MT) (r : Int) (hC : cm_isFaithful C ((xs (i + 1).toNat).toInt) = some (r, C')) (hM : rm_isFaithful M ((xs (i + 1).toNat).toInt) = some (r, M')) (hk : GO p l e room_1 s m #[Value.ref b] below meth c K.1 vwCl (fun q : Nat => s.heap.size ≤ q) (lw_Z below #[Value.ref b] s) 4 600000 7302250 740 [(0, .ref b), (1, .ref (a 0)), (2, .ref (d 0)), (3, ii i)] [] (c9 K a C' ++ cM K d M')) : GO p l e room_1 s m #[Value.ref b] below meth c K.1 vwCl (fun q : Nat => s.heap.size ≤ q) (lw_Z below #[Value.ref b] s) 4 600000 7302250 454 [(0, .ref b), (1, .ref (a 0)), (2, .ref (d 0)), (3, ii i)] [] (c9 K a C ++ cM K d M) := by
  have hbA : ¬ (fun q : Nat => s.heap.size ≤ q) b := Nat.not_le.mpr hbl
  unfold cm_isFaithful at hC
  unfold rm_isFaithful at hM
  obtain ⟨w, hw, hwe⟩ := Option.map_eq_some_iff.mp hM
  cases hwe
  refine g_aload_n X dL_law_454 1 rfl rfl ?_
  refine g_aload_n X dL_law_455 0 rfl rfl ?_
  refine g_iload_n X dL_law_456 3 rfl rfl ?_
  refine g_iconst X dL_law_457 ?_
  refine g_iadd X dL_law_458 ?_
  refine g_sld X hX hbl hbA hL ⟨by omega, by omega⟩ dL_law_459 ?_
  refine g_callV X (As := [ii (xs (i + 1).toNat).toInt]) (st := []) (st1 := [ii w.1]) (ws' := c9 K a C' ++ cM K d M) (X9_isFaithful_ok K l a C ((xs (i + 1).toNat).toInt) _ hC) gL_law_X9_isFaithful rfl 1 (by decide +kernel) ⟨rfl, rfl⟩ ⟨Nat.le_of_ble_eq_true rfl, Nat.le_of_ble_eq_true rfl⟩ ⟨Nat.le_of_ble_eq_true rfl, Nat.le_of_ble_eq_true rfl⟩ 0 rfl rfl rfl rfl (Nat.le_of_ble_eq_true rfl) dL_law_460 (SG.one [] (cM K d M) rfl rfl rfl) rfl ?_
  refine g_aload_n X dL_law_463 2 rfl rfl ?_
  refine g_aload_n X dL_law_464 0 rfl rfl ?_
  refine g_iload_n X dL_law_465 3 rfl rfl ?_
  refine g_iconst X dL_law_466 ?_
  refine g_iadd X dL_law_467 ?_
  refine g_sld X hX hbl hbA hL ⟨by omega, by omega⟩ dL_law_468 ?_
  refine g_callV X (As := [ii (xs (i + 1).toNat).toInt]) (st := [ii w.1]) (st1 := [ii w.1, ii w.1]) (ws' := c9 K a C' ++ c10 K d M.1 M.2.1 M.2.2.1 w.2 M.2.2.2.2.1 M.2.2.2.2.2.1 M.2.2.2.2.2.2.1 M.2.2.2.2.2.2.2.1 M.2.2.2.2.2.2.2.2.1 M.2.2.2.2.2.2.2.2.2.1 M.2.2.2.2.2.2.2.2.2.2.1 M.2.2.2.2.2.2.2.2.2.2.2.1 M.2.2.2.2.2.2.2.2.2.2.2.2.1 M.2.2.2.2.2.2.2.2.2.2.2.2.2.1 M.2.2.2.2.2.2.2.2.2.2.2.2.2.2.1 M.2.2.2.2.2.2.2.2.2.2.2.2.2.2.2.1 M.2.2.2.2.2.2.2.2.2.2.2.2.2.2.2.2.1 M.2.2.2.2.2.2.2.2.2.2.2.2.2.2.2.2.2.1 M.2.2.2.2.2.2.2.2.2.2.2.2.2.2.2.2.2.2.1 M.2.2.2.2.2.2.2.2.2.2.2.2.2.2.2.2.2.2.2.1 M.2.2.2.2.2.2.2.2.2.2.2.2.2.2.2.2.2.2.2.2.1 M.2.2.2.2.2.2.2.2.2.2.2.2.2.2.2.2.2.2.2.2.2.1 M.2.2.2.2.2.2.2.2.2.2.2.2.2.2.2.2.2.2.2.2.2.2) (X10_isFaithful_ok K l d M.1 M.2.1 M.2.2.1 M.2.2.2.1 M.2.2.2.2.1 M.2.2.2.2.2.1 M.2.2.2.2.2.2.1 M.2.2.2.2.2.2.2.1 M.2.2.2.2.2.2.2.2.1 M.2.2.2.2.2.2.2.2.2.1 M.2.2.2.2.2.2.2.2.2.2.1 M.2.2.2.2.2.2.2.2.2.2.2.1 M.2.2.2.2.2.2.2.2.2.2.2.2.1 M.2.2.2.2.2.2.2.2.2.2.2.2.2.1 M.2.2.2.2.2.2.2.2.2.2.2.2.2.2.1 M.2.2.2.2.2.2.2.2.2.2.2.2.2.2.2.1 M.2.2.2.2.2.2.2.2.2.2.2.2.2.2.2.2.1 M.2.2.2.2.2.2.2.2.2.2.2.2.2.2.2.2.2.1 M.2.2.2.2.2.2.2.2.2.2.2.2.2.2.2.2.2.2.1 M.2.2.2.2.2.2.2.2.2.2.2.2.2.2.2.2.2.2.2.1 M.2.2.2.2.2.2.2.2.2.2.2.2.2.2.2.2.2.2.2.2.1 M.2.2.2.2.2.2.2.2.2.2.2.2.2.2.2.2.2.2.2.2.2.1 M.2.2.2.2.2.2.2.2.2.2.2.2.2.2.2.2.2.2.2.2.2.2 ((xs (i + 1).toNat).toInt) w hw) gL_law_X10_isFaithful rfl 1 (by decide +kernel) ⟨rfl, rfl⟩ ⟨Nat.le_of_ble_eq_true rfl, Nat.le_of_ble_eq_true rfl⟩ ⟨Nat.le_of_ble_eq_true rfl, Nat.le_of_ble_eq_true rfl⟩ 137 rfl rfl rfl rfl (Nat.le_of_ble_eq_true rfl) dL_law_469 (SG.one (c9 K a C') [] rfl rfl rfl) rfl ?_
  refine g_same X 740 dL_law_472 (by decide) ?_
  exact hk
set_option maxHeartbeats 4000000 in
set_option maxRecDepth 100000 in
theorem law_allowAdapters (K : KE) (l : Launch) (a d : Nat → Nat) {p : Program} {e : Env} {s : State} {m : MethodId} {below : List Frame} {meth : Method} {c : Code} {b L : Nat} {xs : Nat → Int32} (X : CX p s m #[Value.ref b] c K.1 vwCl (kT K) (fun q : Nat => s.heap.size ≤ q) cL_law 4 wsL_law RL) (hX : va_X b L xs s s.heap) (hbl : b < s.heap.size) (hL : L ≤ 2048) (i : Int) (hi0 : 0 ≤ i) (hi3 : i + 3 < L) (C C' : CM) (M M' : MT) (r : Int) (hC : cm_allowAdapters C ((xs (i + 1).toNat).toInt) = some (r, C')) (hM : rm_allowAdapters M ((xs (i + 1).toNat).toInt) = some (r, M')) (hk : GO p l e room_1 s m #[Value.ref b] below meth c K.1 vwCl (fun q : Nat => s.heap.size ≤ q) (lw_Z below #[Value.ref b] s) 4 600000 7302250 740 [(0, .ref b), (1, .ref (a 0)), (2, .ref (d 0)), (3, ii i)] [] (c9 K a C' ++ cM K d M')) : GO p l e room_1 s m #[Value.ref b] below meth c K.1 vwCl (fun q : Nat => s.heap.size ≤ q) (lw_Z below #[Value.ref b] s) 4 600000 7302250 477 [(0, .ref b), (1, .ref (a 0)), (2, .ref (d 0)), (3, ii i)] [] (c9 K a C ++ cM K d M) := by
  have hbA : ¬ (fun q : Nat => s.heap.size ≤ q) b := Nat.not_le.mpr hbl
  unfold cm_allowAdapters at hC
  unfold rm_allowAdapters at hM
  obtain ⟨w, hw, hwe⟩ := Option.map_eq_some_iff.mp hM
  cases hwe
  refine g_aload_n X dL_law_477 1 rfl rfl ?_
  refine g_aload_n X dL_law_478 0 rfl rfl ?_
  refine g_iload_n X dL_law_479 3 rfl rfl ?_
  refine g_iconst X dL_law_480 ?_
  refine g_iadd X dL_law_481 ?_
  refine g_sld X hX hbl hbA hL ⟨by omega, by omega⟩ dL_law_482 ?_
  refine g_callV X (As := [ii (xs (i + 1).toNat).toInt]) (st := []) (st1 := [ii w.1]) (ws' := c9 K a C' ++ cM K d M) (X9_allowAdapters_ok K l a C ((xs (i + 1).toNat).toInt) _ hC) gL_law_X9_allowAdapters rfl 1 (by decide +kernel) ⟨rfl, rfl⟩ ⟨Nat.le_of_ble_eq_true rfl, Nat.le_of_ble_eq_true rfl⟩ ⟨Nat.le_of_ble_eq_true rfl, Nat.le_of_ble_eq_true rfl⟩ 0 rfl rfl rfl rfl (Nat.le_of_ble_eq_true rfl) dL_law_483 (SG.one [] (cM K d M) rfl rfl rfl) rfl ?_
  refine g_aload_n X dL_law_486 2 rfl rfl ?_
  refine g_aload_n X dL_law_487 0 rfl rfl ?_
  refine g_iload_n X dL_law_488 3 rfl rfl ?_
  refine g_iconst X dL_law_489 ?_
  refine g_iadd X dL_law_490 ?_
  refine g_sld X hX hbl hbA hL ⟨by omega, by omega⟩ dL_law_491 ?_
  refine g_callV X (As := [ii (xs (i + 1).toNat).toInt]) (st := [ii w.1]) (st1 := [ii w.1, ii w.1]) (ws' := c9 K a C' ++ c10 K d w.2.1 w.2.2.1 w.2.2.2.1 w.2.2.2.2 M.2.2.2.2.1 M.2.2.2.2.2.1 M.2.2.2.2.2.2.1 M.2.2.2.2.2.2.2.1 M.2.2.2.2.2.2.2.2.1 M.2.2.2.2.2.2.2.2.2.1 M.2.2.2.2.2.2.2.2.2.2.1 M.2.2.2.2.2.2.2.2.2.2.2.1 M.2.2.2.2.2.2.2.2.2.2.2.2.1 M.2.2.2.2.2.2.2.2.2.2.2.2.2.1 M.2.2.2.2.2.2.2.2.2.2.2.2.2.2.1 M.2.2.2.2.2.2.2.2.2.2.2.2.2.2.2.1 M.2.2.2.2.2.2.2.2.2.2.2.2.2.2.2.2.1 M.2.2.2.2.2.2.2.2.2.2.2.2.2.2.2.2.2.1 M.2.2.2.2.2.2.2.2.2.2.2.2.2.2.2.2.2.2.1 M.2.2.2.2.2.2.2.2.2.2.2.2.2.2.2.2.2.2.2.1 M.2.2.2.2.2.2.2.2.2.2.2.2.2.2.2.2.2.2.2.2.1 M.2.2.2.2.2.2.2.2.2.2.2.2.2.2.2.2.2.2.2.2.2.1 M.2.2.2.2.2.2.2.2.2.2.2.2.2.2.2.2.2.2.2.2.2.2) (X10_allowAdapters_ok K l d M.1 M.2.1 M.2.2.1 M.2.2.2.1 M.2.2.2.2.1 M.2.2.2.2.2.1 M.2.2.2.2.2.2.1 M.2.2.2.2.2.2.2.1 M.2.2.2.2.2.2.2.2.1 M.2.2.2.2.2.2.2.2.2.1 M.2.2.2.2.2.2.2.2.2.2.1 M.2.2.2.2.2.2.2.2.2.2.2.1 M.2.2.2.2.2.2.2.2.2.2.2.2.1 M.2.2.2.2.2.2.2.2.2.2.2.2.2.1 M.2.2.2.2.2.2.2.2.2.2.2.2.2.2.1 M.2.2.2.2.2.2.2.2.2.2.2.2.2.2.2.1 M.2.2.2.2.2.2.2.2.2.2.2.2.2.2.2.2.1 M.2.2.2.2.2.2.2.2.2.2.2.2.2.2.2.2.2.1 M.2.2.2.2.2.2.2.2.2.2.2.2.2.2.2.2.2.2.1 M.2.2.2.2.2.2.2.2.2.2.2.2.2.2.2.2.2.2.2.1 M.2.2.2.2.2.2.2.2.2.2.2.2.2.2.2.2.2.2.2.2.1 M.2.2.2.2.2.2.2.2.2.2.2.2.2.2.2.2.2.2.2.2.2.1 M.2.2.2.2.2.2.2.2.2.2.2.2.2.2.2.2.2.2.2.2.2.2 ((xs (i + 1).toNat).toInt) w hw) gL_law_X10_allowAdapters rfl 1 (by decide +kernel) ⟨rfl, rfl⟩ ⟨Nat.le_of_ble_eq_true rfl, Nat.le_of_ble_eq_true rfl⟩ ⟨Nat.le_of_ble_eq_true rfl, Nat.le_of_ble_eq_true rfl⟩ 137 rfl rfl rfl rfl (Nat.le_of_ble_eq_true rfl) dL_law_492 (SG.one (c9 K a C') [] rfl rfl rfl) rfl ?_
  refine g_same X 740 dL_law_495 (by decide) ?_
  exact hk
set_option maxHeartbeats 4000000 in
set_option maxRecDepth 100000 in
theorem law_adapterOf (K : KE) (l : Launch) (a d : Nat → Nat) {p : Program} {e : Env} {s : State} {m : MethodId} {below : List Frame} {meth : Method} {c : Code} {b L : Nat} {xs : Nat → Int32} (X : CX p s m #[Value.ref b] c K.1 vwCl (kT K) (fun q : Nat => s.heap.size ≤ q) cL_law 4 wsL_law RL) (hX : va_X b L xs s s.heap) (hbl : b < s.heap.size) (hL : L ≤ 2048) (i : Int) (hi0 : 0 ≤ i) (hi3 : i + 3 < L) (C C' : CM) (M M' : MT) (r : Int) (hC : cm_adapterOf C ((xs (i + 1).toNat).toInt) = some (r, C')) (hM : rm_adapterOf M ((xs (i + 1).toNat).toInt) = some (r, M')) (hk : GO p l e room_1 s m #[Value.ref b] below meth c K.1 vwCl (fun q : Nat => s.heap.size ≤ q) (lw_Z below #[Value.ref b] s) 4 600000 7302250 740 [(0, .ref b), (1, .ref (a 0)), (2, .ref (d 0)), (3, ii i)] [] (c9 K a C' ++ cM K d M')) : GO p l e room_1 s m #[Value.ref b] below meth c K.1 vwCl (fun q : Nat => s.heap.size ≤ q) (lw_Z below #[Value.ref b] s) 4 600000 7302250 500 [(0, .ref b), (1, .ref (a 0)), (2, .ref (d 0)), (3, ii i)] [] (c9 K a C ++ cM K d M) := by
  have hbA : ¬ (fun q : Nat => s.heap.size ≤ q) b := Nat.not_le.mpr hbl
  unfold cm_adapterOf at hC
  unfold rm_adapterOf at hM
  obtain ⟨w, hw, hwe⟩ := Option.map_eq_some_iff.mp hM
  cases hwe
  refine g_aload_n X dL_law_500 1 rfl rfl ?_
  refine g_aload_n X dL_law_501 0 rfl rfl ?_
  refine g_iload_n X dL_law_502 3 rfl rfl ?_
  refine g_iconst X dL_law_503 ?_
  refine g_iadd X dL_law_504 ?_
  refine g_sld X hX hbl hbA hL ⟨by omega, by omega⟩ dL_law_505 ?_
  refine g_callV X (As := [ii (xs (i + 1).toNat).toInt]) (st := []) (st1 := [ii w.1]) (ws' := c9 K a C' ++ cM K d M) (X9_adapterOf_ok K l a C ((xs (i + 1).toNat).toInt) _ hC) gL_law_X9_adapterOf rfl 1 (by decide +kernel) ⟨rfl, rfl⟩ ⟨Nat.le_of_ble_eq_true rfl, Nat.le_of_ble_eq_true rfl⟩ ⟨Nat.le_of_ble_eq_true rfl, Nat.le_of_ble_eq_true rfl⟩ 0 rfl rfl rfl rfl (Nat.le_of_ble_eq_true rfl) dL_law_506 (SG.one [] (cM K d M) rfl rfl rfl) rfl ?_
  refine g_aload_n X dL_law_509 2 rfl rfl ?_
  refine g_aload_n X dL_law_510 0 rfl rfl ?_
  refine g_iload_n X dL_law_511 3 rfl rfl ?_
  refine g_iconst X dL_law_512 ?_
  refine g_iadd X dL_law_513 ?_
  refine g_sld X hX hbl hbA hL ⟨by omega, by omega⟩ dL_law_514 ?_
  refine g_callV X (As := [ii (xs (i + 1).toNat).toInt]) (st := [ii w.1]) (st1 := [ii w.1, ii w.1]) (ws' := c9 K a C' ++ c10 K d M.1 M.2.1 M.2.2.1 w.2 M.2.2.2.2.1 M.2.2.2.2.2.1 M.2.2.2.2.2.2.1 M.2.2.2.2.2.2.2.1 M.2.2.2.2.2.2.2.2.1 M.2.2.2.2.2.2.2.2.2.1 M.2.2.2.2.2.2.2.2.2.2.1 M.2.2.2.2.2.2.2.2.2.2.2.1 M.2.2.2.2.2.2.2.2.2.2.2.2.1 M.2.2.2.2.2.2.2.2.2.2.2.2.2.1 M.2.2.2.2.2.2.2.2.2.2.2.2.2.2.1 M.2.2.2.2.2.2.2.2.2.2.2.2.2.2.2.1 M.2.2.2.2.2.2.2.2.2.2.2.2.2.2.2.2.1 M.2.2.2.2.2.2.2.2.2.2.2.2.2.2.2.2.2.1 M.2.2.2.2.2.2.2.2.2.2.2.2.2.2.2.2.2.2.1 M.2.2.2.2.2.2.2.2.2.2.2.2.2.2.2.2.2.2.2.1 M.2.2.2.2.2.2.2.2.2.2.2.2.2.2.2.2.2.2.2.2.1 M.2.2.2.2.2.2.2.2.2.2.2.2.2.2.2.2.2.2.2.2.2.1 M.2.2.2.2.2.2.2.2.2.2.2.2.2.2.2.2.2.2.2.2.2.2) (X10_adapterOf_ok K l d M.1 M.2.1 M.2.2.1 M.2.2.2.1 M.2.2.2.2.1 M.2.2.2.2.2.1 M.2.2.2.2.2.2.1 M.2.2.2.2.2.2.2.1 M.2.2.2.2.2.2.2.2.1 M.2.2.2.2.2.2.2.2.2.1 M.2.2.2.2.2.2.2.2.2.2.1 M.2.2.2.2.2.2.2.2.2.2.2.1 M.2.2.2.2.2.2.2.2.2.2.2.2.1 M.2.2.2.2.2.2.2.2.2.2.2.2.2.1 M.2.2.2.2.2.2.2.2.2.2.2.2.2.2.1 M.2.2.2.2.2.2.2.2.2.2.2.2.2.2.2.1 M.2.2.2.2.2.2.2.2.2.2.2.2.2.2.2.2.1 M.2.2.2.2.2.2.2.2.2.2.2.2.2.2.2.2.2.1 M.2.2.2.2.2.2.2.2.2.2.2.2.2.2.2.2.2.2.1 M.2.2.2.2.2.2.2.2.2.2.2.2.2.2.2.2.2.2.2.1 M.2.2.2.2.2.2.2.2.2.2.2.2.2.2.2.2.2.2.2.2.1 M.2.2.2.2.2.2.2.2.2.2.2.2.2.2.2.2.2.2.2.2.2.1 M.2.2.2.2.2.2.2.2.2.2.2.2.2.2.2.2.2.2.2.2.2.2 ((xs (i + 1).toNat).toInt) w hw) gL_law_X10_adapterOf rfl 1 (by decide +kernel) ⟨rfl, rfl⟩ ⟨Nat.le_of_ble_eq_true rfl, Nat.le_of_ble_eq_true rfl⟩ ⟨Nat.le_of_ble_eq_true rfl, Nat.le_of_ble_eq_true rfl⟩ 137 rfl rfl rfl rfl (Nat.le_of_ble_eq_true rfl) dL_law_515 (SG.one (c9 K a C') [] rfl rfl rfl) rfl ?_
  refine g_same X 740 dL_law_518 (by decide) ?_
  exact hk
set_option maxHeartbeats 4000000 in
set_option maxRecDepth 100000 in
theorem law_append (K : KE) (l : Launch) (a d : Nat → Nat) {p : Program} {e : Env} {s : State} {m : MethodId} {below : List Frame} {meth : Method} {c : Code} {b L : Nat} {xs : Nat → Int32} (X : CX p s m #[Value.ref b] c K.1 vwCl (kT K) (fun q : Nat => s.heap.size ≤ q) cL_law 4 wsL_law RL) (hX : va_X b L xs s s.heap) (hbl : b < s.heap.size) (hL : L ≤ 2048) (i : Int) (hi0 : 0 ≤ i) (hi3 : i + 3 < L) (C C' : CM) (M M' : MT) (r : Int) (hC : cm_append C ((xs (i + 1).toNat).toInt) = some (r, C')) (hM : rm_append M ((xs (i + 1).toNat).toInt) = some (r, M')) (hk : GO p l e room_1 s m #[Value.ref b] below meth c K.1 vwCl (fun q : Nat => s.heap.size ≤ q) (lw_Z below #[Value.ref b] s) 4 600000 7302250 740 [(0, .ref b), (1, .ref (a 0)), (2, .ref (d 0)), (3, ii i)] [] (c9 K a C' ++ cM K d M')) : GO p l e room_1 s m #[Value.ref b] below meth c K.1 vwCl (fun q : Nat => s.heap.size ≤ q) (lw_Z below #[Value.ref b] s) 4 600000 7302250 523 [(0, .ref b), (1, .ref (a 0)), (2, .ref (d 0)), (3, ii i)] [] (c9 K a C ++ cM K d M) := by
  have hbA : ¬ (fun q : Nat => s.heap.size ≤ q) b := Nat.not_le.mpr hbl
  unfold cm_append at hC
  unfold rm_append at hM
  obtain ⟨w, hw, hwe⟩ := Option.map_eq_some_iff.mp hM
  cases hwe
  refine g_aload_n X dL_law_523 1 rfl rfl ?_
  refine g_aload_n X dL_law_524 0 rfl rfl ?_
  refine g_iload_n X dL_law_525 3 rfl rfl ?_
  refine g_iconst X dL_law_526 ?_
  refine g_iadd X dL_law_527 ?_
  refine g_sld X hX hbl hbA hL ⟨by omega, by omega⟩ dL_law_528 ?_
  refine g_callV X (As := [ii (xs (i + 1).toNat).toInt]) (st := []) (st1 := [ii w.1]) (ws' := c9 K a C' ++ cM K d M) (X9_append_ok K l a C ((xs (i + 1).toNat).toInt) _ hC) gL_law_X9_append rfl 1 (by decide +kernel) ⟨rfl, rfl⟩ ⟨Nat.le_of_ble_eq_true rfl, Nat.le_of_ble_eq_true rfl⟩ ⟨Nat.le_of_ble_eq_true rfl, Nat.le_of_ble_eq_true rfl⟩ 0 rfl rfl rfl rfl (Nat.le_of_ble_eq_true rfl) dL_law_529 (SG.one [] (cM K d M) rfl rfl rfl) rfl ?_
  refine g_aload_n X dL_law_532 2 rfl rfl ?_
  refine g_aload_n X dL_law_533 0 rfl rfl ?_
  refine g_iload_n X dL_law_534 3 rfl rfl ?_
  refine g_iconst X dL_law_535 ?_
  refine g_iadd X dL_law_536 ?_
  refine g_sld X hX hbl hbA hL ⟨by omega, by omega⟩ dL_law_537 ?_
  refine g_callV X (As := [ii (xs (i + 1).toNat).toInt]) (st := [ii w.1]) (st1 := [ii w.1, ii w.1]) (ws' := c9 K a C' ++ c10 K d M.1 M.2.1 M.2.2.1 w.2.1 w.2.2.1 w.2.2.2 M.2.2.2.2.2.2.1 M.2.2.2.2.2.2.2.1 M.2.2.2.2.2.2.2.2.1 M.2.2.2.2.2.2.2.2.2.1 M.2.2.2.2.2.2.2.2.2.2.1 M.2.2.2.2.2.2.2.2.2.2.2.1 M.2.2.2.2.2.2.2.2.2.2.2.2.1 M.2.2.2.2.2.2.2.2.2.2.2.2.2.1 M.2.2.2.2.2.2.2.2.2.2.2.2.2.2.1 M.2.2.2.2.2.2.2.2.2.2.2.2.2.2.2.1 M.2.2.2.2.2.2.2.2.2.2.2.2.2.2.2.2.1 M.2.2.2.2.2.2.2.2.2.2.2.2.2.2.2.2.2.1 M.2.2.2.2.2.2.2.2.2.2.2.2.2.2.2.2.2.2.1 M.2.2.2.2.2.2.2.2.2.2.2.2.2.2.2.2.2.2.2.1 M.2.2.2.2.2.2.2.2.2.2.2.2.2.2.2.2.2.2.2.2.1 M.2.2.2.2.2.2.2.2.2.2.2.2.2.2.2.2.2.2.2.2.2.1 M.2.2.2.2.2.2.2.2.2.2.2.2.2.2.2.2.2.2.2.2.2.2) (X10_append_ok K l d M.1 M.2.1 M.2.2.1 M.2.2.2.1 M.2.2.2.2.1 M.2.2.2.2.2.1 M.2.2.2.2.2.2.1 M.2.2.2.2.2.2.2.1 M.2.2.2.2.2.2.2.2.1 M.2.2.2.2.2.2.2.2.2.1 M.2.2.2.2.2.2.2.2.2.2.1 M.2.2.2.2.2.2.2.2.2.2.2.1 M.2.2.2.2.2.2.2.2.2.2.2.2.1 M.2.2.2.2.2.2.2.2.2.2.2.2.2.1 M.2.2.2.2.2.2.2.2.2.2.2.2.2.2.1 M.2.2.2.2.2.2.2.2.2.2.2.2.2.2.2.1 M.2.2.2.2.2.2.2.2.2.2.2.2.2.2.2.2.1 M.2.2.2.2.2.2.2.2.2.2.2.2.2.2.2.2.2.1 M.2.2.2.2.2.2.2.2.2.2.2.2.2.2.2.2.2.2.1 M.2.2.2.2.2.2.2.2.2.2.2.2.2.2.2.2.2.2.2.1 M.2.2.2.2.2.2.2.2.2.2.2.2.2.2.2.2.2.2.2.2.1 M.2.2.2.2.2.2.2.2.2.2.2.2.2.2.2.2.2.2.2.2.2.1 M.2.2.2.2.2.2.2.2.2.2.2.2.2.2.2.2.2.2.2.2.2.2 ((xs (i + 1).toNat).toInt) w hw) gL_law_X10_append rfl 1 (by decide +kernel) ⟨rfl, rfl⟩ ⟨Nat.le_of_ble_eq_true rfl, Nat.le_of_ble_eq_true rfl⟩ ⟨Nat.le_of_ble_eq_true rfl, Nat.le_of_ble_eq_true rfl⟩ 137 rfl rfl rfl rfl (Nat.le_of_ble_eq_true rfl) dL_law_538 (SG.one (c9 K a C') [] rfl rfl rfl) rfl ?_
  refine g_same X 740 dL_law_541 (by decide) ?_
  exact hk
