section GoA
variable {p : Program} {l : Launch} {e : Env} {R : Room} {s : State} {m : MethodId} {args : Array Value} {below : List Frame} {meth : Method} {c : Code} {D : va_G} {cl : List vw_C} {A : Nat → Prop} {Q : State → Prop} {nL ck cn : Nat}
variable {tys : List (ClassId × FieldType)} {cc : ByteArray} {Ts : List Cond} {own : String} {pc : Nat} {lv : List (Nat × Value)} {st : List Value} {ws : va_W}
theorem g_aald (X : CX p s m args c D cl tys A cc nL Ts own) {n a0 v : Nat} {f : Nat → Option Nat} {cA : ClassId} {C : String} {x : Int} (hx : 0 ≤ x ∧ x < n) (hn : n < 2147483648) (q0 t0 : Nat) (hdg : decode cc pc = .ok (.aaload, 1)) (he : ws[q0]? = some (a0, .inl (cA, n, .inr (.inr (.inr (.inr f)))))) (ht : tys[t0]? = some (cA, .object C)) (hv : f x.toNat = some v) (kk : GO p l e R s m args below meth c D cl A Q nL ck cn (pc + 1) lv (.ref v :: st) ws) : GO p l e R s m args below meth c D cl A Q nL ck cn pc lv (ii x :: .ref a0 :: st) ws := by
  intro H locs ls hP hD hS hl
  refine va_aldq X.1 X.2.1 X.2.2.2.2.2.1 hP q0 t0 he ht (ix_in hn hx) hdg ?_
  rw [ix_nat hx.1 (by omega), hv]
  exact kk H locs ls hP hD hS hl
theorem g_aast (X : CX p s m args c D cl tys A cc nL Ts own) {n a0 v ci : Nat} {f : Nat → Option Nat} {cA : ClassId} {r : vw_C} {x : Int} {vs : List Value} (hx : 0 ≤ x ∧ x < n) (hn : n < 2147483648) (q0 t0 qk : Nat) (hdg : decode cc pc = .ok (.aastore, 1)) (he : ws[q0]? = some (a0, .inl (cA, n, .inr (.inr (.inr (.inr f)))))) (ht : tys[t0]? = some (cA, .object r.1)) (hv : ws[qk]? = some (v, .inr (ci, vs))) (hc : cl[ci]? = some r) {ws' : va_W} (hw : ws.set q0 (a0, .inl (cA, n, .inr (.inr (.inr (.inr (va_up f x.toNat (some v))))))) = ws') (kk : GO p l e R s m args below meth c D cl A Q nL ck cn (pc + 1) lv st ws') : GO p l e R s m args below meth c D cl A Q nL ck cn pc lv (.ref v :: ii x :: .ref a0 :: st) ws := by
  intro H locs ls hP hD hS hl
  refine va_astq X.1 X.2.1 X.2.2.2.2.2.1 hP hD hS q0 t0 qk ci he ht hv hc (ix_in hn hx) hdg (fun H1 locs1 hP1 hD1 hS1 => ?_)
  rw [ix_nat hx.1 (by omega), hw] at hP1 hD1
  exact kk H1 locs1 ls hP1 hD1 hS1 hl
end GoA
def upN (f : Nat → Nat) (k v : Nat) : Nat → Nat := fun j => if j = k then v else f j
def upS (f : Nat → St) (k : Nat) (v : St) : Nat → St := fun j => if j = k then v else f j
abbrev okP (f : Nat → Nat) : Prop := f 0 < 4 ∧ f 1 < 4 ∧ f 2 < 4 ∧ f 3 < 4
def rotP (f : Nat → Nat) : Nat → Nat := upN (upN (upN (upN f 0 (f 1)) 1 (f 2)) 2 (f 3)) 3 (f 0)
def X2_dropOldest (V0 : Hs) : Option Hs := if okP V0.2.2 then some (V0.1, 3, rotP V0.2.2) else none
def X2_saveAt (V0 : St) (V1 : Hs) : Option Hs := if okP V1.2.2 ∧ 0 ≤ V1.2.1 ∧ V1.2.1 < 4 then (X8_copyFrom (V1.1 (V1.2.2 V1.2.1.toNat)) V0).bind (fun T => some (upS V1.1 (V1.2.2 V1.2.1.toNat) T, V1.2.1 + 1, V1.2.2)) else none
def X2_save (V0 : St) (V1 : Hs) : Option Hs := brLT V1.2.1 4 (X2_saveAt V0 V1) ((X2_dropOldest V1).bind (fun h => X2_saveAt V0 h))
def X2_restore (V0 : St) (V1 : Hs) : Option (Int × St × Hs) := brLE V1.2.1 0 (some (0, V0, V1)) (if okP V1.2.2 ∧ 0 ≤ V1.2.1 - 1 ∧ V1.2.1 - 1 < 4 then (X8_copyFrom V0 (V1.1 (V1.2.2 (V1.2.1 - 1).toNat))).bind (fun T => some (1, T, (V1.1, V1.2.1 - 1, V1.2.2))) else none)
theorem lt4 {p : Nat} (h : p < 4) : p = 0 ∨ p = 1 ∨ p = 2 ∨ p = 3 := by omega
theorem okP.at {f : Nat → Nat} (h : okP f) {i : Nat} (hi : i < 4) : f i < 4 := by
  rcases lt4 hi with rfl | rfl | rfl | rfl
  · exact h.1
  · exact h.2.1
  · exact h.2.2.1
  · exact h.2.2.2
theorem c2_at (K : KE) (a : Nat → Nat) (V : Hs) (p : Nat) (hp : p < 4) : ∃ fs : List Value, (c2 K a V)[2 + 23 * p]? = some (ash a (2 + 23 * p) 0, .inr (8, fs)) := by
  rcases lt4 hp with rfl | rfl | rfl | rfl <;> exact ⟨_, rfl⟩
theorem c2_at2 (K : KE) (a b : Nat → Nat) (S : St) (V : Hs) (p : Nat) (hp : p < 4) : ∃ fs : List Value, (c8 K a S ++ c2 K b V)[25 + 23 * p]? = some (ash b (2 + 23 * p) 0, .inr (8, fs)) := by
  rcases lt4 hp with rfl | rfl | rfl | rfl <;> exact ⟨_, rfl⟩
theorem c2_set (K : KE) (a : Nat → Nat) (V : Hs) (k j : Nat) : (c2 K a V).set 1 (a 1, .inl (K.2.2.2, 4, .inr (.inr (.inr (.inr (va_up (fun i => some (ash a (2 + 23 * V.2.2 i) 0)) k (some (ash a (2 + 23 * j) 0)))))))) = c2 K a (V.1, V.2.1, upN V.2.2 k j) := by
  have e : va_up (fun i => some (ash a (2 + 23 * V.2.2 i) 0)) k (some (ash a (2 + 23 * j) 0)) = fun i => some (ash a (2 + 23 * upN V.2.2 k j i) 0) := by
    funext i
    unfold va_up upN
    by_cases h : i = k
    · rw [if_pos h, if_pos h]
    · rw [if_neg h, if_neg h]
  rw [e]
  rfl
theorem sg_hist (K : KE) (a b : Nat → Nat) (S S' : St) (h : Hs) (T : St) (p : Nat) (hp : p < 4) : SG (c8 K a S ++ c2 K b h) (c8 K (ash b (2 + 23 * p)) (h.1 p) ++ c8 K a S) (c8 K a S' ++ c2 K b (upS h.1 p T, h.2)) (c8 K (ash b (2 + 23 * p)) T ++ c8 K a S') := by
  rcases lt4 hp with rfl | rfl | rfl | rfl
  · exact SG.swap rfl rfl (SG.two [] ([(b 0, .inr (2, [.ref (b 1), ii h.2.1]))] ++ [(b 1, .inl (K.2.2.2, 4, .inr (.inr (.inr (.inr (fun i => some (ash b (2 + 23 * h.2.2 i) 0)))))))]) (c8 K (ash b 25) (h.1 1) ++ (c8 K (ash b 48) (h.1 2) ++ c8 K (ash b 71) (h.1 3))) rfl rfl rfl)
  · exact SG.swap rfl rfl (SG.two [] ([(b 0, .inr (2, [.ref (b 1), ii h.2.1]))] ++ ([(b 1, .inl (K.2.2.2, 4, .inr (.inr (.inr (.inr (fun i => some (ash b (2 + 23 * h.2.2 i) 0)))))))] ++ c8 K (ash b 2) (h.1 0))) (c8 K (ash b 48) (h.1 2) ++ c8 K (ash b 71) (h.1 3)) rfl rfl rfl)
  · exact SG.swap rfl rfl (SG.two [] ([(b 0, .inr (2, [.ref (b 1), ii h.2.1]))] ++ ([(b 1, .inl (K.2.2.2, 4, .inr (.inr (.inr (.inr (fun i => some (ash b (2 + 23 * h.2.2 i) 0)))))))] ++ (c8 K (ash b 2) (h.1 0) ++ c8 K (ash b 25) (h.1 1)))) (c8 K (ash b 71) (h.1 3)) rfl rfl rfl)
  · exact SG.swap rfl rfl (SG.two [] ([(b 0, .inr (2, [.ref (b 1), ii h.2.1]))] ++ ([(b 1, .inl (K.2.2.2, 4, .inr (.inr (.inr (.inr (fun i => some (ash b (2 + 23 * h.2.2 i) 0)))))))] ++ (c8 K (ash b 2) (h.1 0) ++ (c8 K (ash b 25) (h.1 1) ++ c8 K (ash b 48) (h.1 2))))) [] rfl rfl rfl)
theorem sg_hist2 (K : KE) (a b : Nat → Nat) (S S' : St) (h : Hs) (p : Nat) (hp : p < 4) : SG (c8 K a S ++ c2 K b h) (c8 K a S ++ c8 K (ash b (2 + 23 * p)) (h.1 p)) (c8 K a S' ++ c2 K b h) (c8 K a S' ++ c8 K (ash b (2 + 23 * p)) (h.1 p)) := by
  rcases lt4 hp with rfl | rfl | rfl | rfl
  · exact SG.two [] ([(b 0, .inr (2, [.ref (b 1), ii h.2.1]))] ++ [(b 1, .inl (K.2.2.2, 4, .inr (.inr (.inr (.inr (fun i => some (ash b (2 + 23 * h.2.2 i) 0)))))))]) (c8 K (ash b 25) (h.1 1) ++ (c8 K (ash b 48) (h.1 2) ++ c8 K (ash b 71) (h.1 3))) rfl rfl rfl
  · exact SG.two [] ([(b 0, .inr (2, [.ref (b 1), ii h.2.1]))] ++ ([(b 1, .inl (K.2.2.2, 4, .inr (.inr (.inr (.inr (fun i => some (ash b (2 + 23 * h.2.2 i) 0)))))))] ++ c8 K (ash b 2) (h.1 0))) (c8 K (ash b 48) (h.1 2) ++ c8 K (ash b 71) (h.1 3)) rfl rfl rfl
  · exact SG.two [] ([(b 0, .inr (2, [.ref (b 1), ii h.2.1]))] ++ ([(b 1, .inl (K.2.2.2, 4, .inr (.inr (.inr (.inr (fun i => some (ash b (2 + 23 * h.2.2 i) 0)))))))] ++ (c8 K (ash b 2) (h.1 0) ++ c8 K (ash b 25) (h.1 1)))) (c8 K (ash b 71) (h.1 3)) rfl rfl rfl
  · exact SG.two [] ([(b 0, .inr (2, [.ref (b 1), ii h.2.1]))] ++ ([(b 1, .inl (K.2.2.2, 4, .inr (.inr (.inr (.inr (fun i => some (ash b (2 + 23 * h.2.2 i) 0)))))))] ++ (c8 K (ash b 2) (h.1 0) ++ (c8 K (ash b 25) (h.1 1) ++ c8 K (ash b 48) (h.1 2))))) [] rfl rfl rfl
theorem fl_X2_drop_11 : Cond.fieldLink RX2 11 (TX2 0).1 (TX2 0).2.1 (TX2 0).2.2.1 ∈ wsX2_dropOldest := by decide +kernel
theorem fl_X2_drop_17 : Cond.fieldLink RX2 17 (TX2 1).1 (TX2 1).2.1 (TX2 1).2.2.1 ∈ wsX2_dropOldest := by decide +kernel
theorem iw_X2_drop : ∀ w ∈ u_ws RX2 TX2 2, w ∈ wsX2_dropOldest := by decide +kernel
def rmX2_dropOldest : Room := { frames := 0, cells := 0, slots := 0, locals := 0 }
set_option maxHeartbeats 4000000 in
set_option maxRecDepth 100000 in
theorem X2_dropOldest_ok (K : KE) (l : Launch) (a : Nat → Nat) (V0 : Hs) (res : Hs) (hf : X2_dropOldest V0 = some res) : CT l K.1 vwCl (kT K) yX2_dropOldest wsX2_dropOldest rmX2_dropOldest [.ref (a 0)] none (c2 K a V0) (c2 K a res) := by
  refine CT.mk (cc := cX2_dropOldest) (maxL := 3) (ret := none) (by decide) rfl (Nat.le_of_ble_eq_true rfl) (fun p e s m below meth c X hr hlk => ?_)
  have X : CX p s m [Value.ref (a 0)].toArray c K.1 vwCl (kT K) (va_A (c2 K a V0) s.heap.size) cX2_dropOldest 3 wsX2_dropOldest RX2 := X
  unfold X2_dropOldest at hf
  by_cases hok : okP V0.2.2
  · rw [if_pos hok] at hf
    cases hf
    have t14 : brLT 1 4 (some ()) none = some () := by decide
    have t24 : brLT (1 + 1) 4 (some ()) none = some () := by decide
    have t34 : brLT (1 + 1 + 1) 4 (some ()) none = some () := by decide
    have t44 : brLT (1 + 1 + 1 + 1) 4 none (some ()) = some () := by decide
    obtain ⟨f1, e1⟩ := c2_at K a V0 (V0.2.2 1) hok.2.1
    obtain ⟨f2, e2⟩ := c2_at K a (V0.1, V0.2.1, upN V0.2.2 0 (V0.2.2 1)) (V0.2.2 2) hok.2.2.1
    obtain ⟨f3, e3⟩ := c2_at K a (V0.1, V0.2.1, upN (upN V0.2.2 0 (V0.2.2 1)) 1 (V0.2.2 2)) (V0.2.2 3) hok.2.2.2
    obtain ⟨f0, e0⟩ := c2_at K a (V0.1, V0.2.1, upN (upN (upN V0.2.2 0 (V0.2.2 1)) 1 (V0.2.2 2)) 2 (V0.2.2 3)) (V0.2.2 0) hok.1
    refine g_aload_n X dX2_dropOldest_0 0 rfl rfl ?_
    refine g_get X (v := .ref (a 1)) 0 0 dX2_dropOldest_1 rfl rfl iw_X2_drop (by decide) fl_X2_drop_11 rfl ?_
    refine g_iconst X dX2_dropOldest_4 ?_
    refine g_aald X (v := ash a (2 + 23 * V0.2.2 0) 0) (by decide) (by decide) 1 2 dX2_dropOldest_5 rfl rfl rfl ?_
    refine g_astore_n X (lv' := [(1, .ref (ash a (2 + 23 * V0.2.2 0) 0)), (0, .ref (a 0))]) dX2_dropOldest_6 rfl (by decide) rfl ?_
    refine g_iconst X dX2_dropOldest_7 ?_
    refine g_istore_n X (lv' := [(2, ii 1), (1, .ref (ash a (2 + 23 * V0.2.2 0) 0)), (0, .ref (a 0))]) dX2_dropOldest_8 rfl (by decide) rfl ?_
    refine g_iload_n X dX2_dropOldest_9 0 rfl rfl ?_
    refine g_iconst X dX2_dropOldest_10 ?_
    refine g_icmp_ge X t14 34 dX2_dropOldest_11 (by decide) (fun _ => ?_) (fun h => nomatch h)
    refine g_aload_n X dX2_dropOldest_14 2 rfl rfl ?_
    refine g_get X (v := .ref (a 1)) 0 0 dX2_dropOldest_15 rfl rfl iw_X2_drop (by decide) fl_X2_drop_11 rfl ?_
    refine g_iload_n X dX2_dropOldest_18 0 rfl rfl ?_
    refine g_iconst X dX2_dropOldest_19 ?_
    refine g_isub X dX2_dropOldest_20 ?_
    refine g_aload_n X dX2_dropOldest_21 2 rfl rfl ?_
    refine g_get X (v := .ref (a 1)) 0 0 dX2_dropOldest_22 rfl rfl iw_X2_drop (by decide) fl_X2_drop_11 rfl ?_
    refine g_iload_n X dX2_dropOldest_25 0 rfl rfl ?_
    refine g_aald X (v := ash a (2 + 23 * V0.2.2 1) 0) (by decide) (by decide) 1 2 dX2_dropOldest_26 rfl rfl rfl ?_
    refine g_aast X (by decide) (by decide) 1 2 (2 + 23 * V0.2.2 1) dX2_dropOldest_27 rfl rfl e1 rfl (c2_set K a V0 0 (V0.2.2 1)) ?_
    refine g_iinc X (lv' := [(2, ii (1 + 1)), (1, .ref (ash a (2 + 23 * V0.2.2 0) 0)), (0, .ref (a 0))]) dX2_dropOldest_28 0 rfl (by decide) rfl ?_
    refine g_goto X 9 dX2_dropOldest_31 (by decide) ?_
    refine g_iload_n X dX2_dropOldest_9 0 rfl rfl ?_
    refine g_iconst X dX2_dropOldest_10 ?_
    refine g_icmp_ge X t24 34 dX2_dropOldest_11 (by decide) (fun _ => ?_) (fun h => nomatch h)
    refine g_aload_n X dX2_dropOldest_14 2 rfl rfl ?_
    refine g_get X (v := .ref (a 1)) 0 0 dX2_dropOldest_15 rfl rfl iw_X2_drop (by decide) fl_X2_drop_11 rfl ?_
    refine g_iload_n X dX2_dropOldest_18 0 rfl rfl ?_
    refine g_iconst X dX2_dropOldest_19 ?_
    refine g_isub X dX2_dropOldest_20 ?_
    refine g_aload_n X dX2_dropOldest_21 2 rfl rfl ?_
    refine g_get X (v := .ref (a 1)) 0 0 dX2_dropOldest_22 rfl rfl iw_X2_drop (by decide) fl_X2_drop_11 rfl ?_
    refine g_iload_n X dX2_dropOldest_25 0 rfl rfl ?_
    refine g_aald X (v := ash a (2 + 23 * V0.2.2 2) 0) (by decide) (by decide) 1 2 dX2_dropOldest_26 rfl rfl rfl ?_
    refine g_aast X (by decide) (by decide) 1 2 (2 + 23 * V0.2.2 2) dX2_dropOldest_27 rfl rfl e2 rfl (c2_set K a (V0.1, V0.2.1, upN V0.2.2 0 (V0.2.2 1)) 1 (V0.2.2 2)) ?_
    refine g_iinc X (lv' := [(2, ii (1 + 1 + 1)), (1, .ref (ash a (2 + 23 * V0.2.2 0) 0)), (0, .ref (a 0))]) dX2_dropOldest_28 0 rfl (by decide) rfl ?_
    refine g_goto X 9 dX2_dropOldest_31 (by decide) ?_
    refine g_iload_n X dX2_dropOldest_9 0 rfl rfl ?_
    refine g_iconst X dX2_dropOldest_10 ?_
    refine g_icmp_ge X t34 34 dX2_dropOldest_11 (by decide) (fun _ => ?_) (fun h => nomatch h)
    refine g_aload_n X dX2_dropOldest_14 2 rfl rfl ?_
    refine g_get X (v := .ref (a 1)) 0 0 dX2_dropOldest_15 rfl rfl iw_X2_drop (by decide) fl_X2_drop_11 rfl ?_
    refine g_iload_n X dX2_dropOldest_18 0 rfl rfl ?_
    refine g_iconst X dX2_dropOldest_19 ?_
    refine g_isub X dX2_dropOldest_20 ?_
    refine g_aload_n X dX2_dropOldest_21 2 rfl rfl ?_
    refine g_get X (v := .ref (a 1)) 0 0 dX2_dropOldest_22 rfl rfl iw_X2_drop (by decide) fl_X2_drop_11 rfl ?_
    refine g_iload_n X dX2_dropOldest_25 0 rfl rfl ?_
    refine g_aald X (v := ash a (2 + 23 * V0.2.2 3) 0) (by decide) (by decide) 1 2 dX2_dropOldest_26 rfl rfl rfl ?_
    refine g_aast X (by decide) (by decide) 1 2 (2 + 23 * V0.2.2 3) dX2_dropOldest_27 rfl rfl e3 rfl (c2_set K a (V0.1, V0.2.1, upN (upN V0.2.2 0 (V0.2.2 1)) 1 (V0.2.2 2)) 2 (V0.2.2 3)) ?_
    refine g_iinc X (lv' := [(2, ii (1 + 1 + 1 + 1)), (1, .ref (ash a (2 + 23 * V0.2.2 0) 0)), (0, .ref (a 0))]) dX2_dropOldest_28 0 rfl (by decide) rfl ?_
    refine g_goto X 9 dX2_dropOldest_31 (by decide) ?_
    refine g_iload_n X dX2_dropOldest_9 0 rfl rfl ?_
    refine g_iconst X dX2_dropOldest_10 ?_
    refine g_icmp_ge X t44 34 dX2_dropOldest_11 (by decide) (fun h => nomatch h) (fun _ => ?_)
    refine g_aload_n X dX2_dropOldest_34 2 rfl rfl ?_
    refine g_get X (v := .ref (a 1)) 0 0 dX2_dropOldest_35 rfl rfl iw_X2_drop (by decide) fl_X2_drop_11 rfl ?_
    refine g_iconst X dX2_dropOldest_38 ?_
    refine g_aload_n X dX2_dropOldest_39 1 rfl rfl ?_
    refine g_aast X (by decide) (by decide) 1 2 (2 + 23 * V0.2.2 0) dX2_dropOldest_40 rfl rfl e0 rfl (c2_set K a (V0.1, V0.2.1, upN (upN (upN V0.2.2 0 (V0.2.2 1)) 1 (V0.2.2 2)) 2 (V0.2.2 3)) 3 (V0.2.2 0)) ?_
    refine g_aload_n X dX2_dropOldest_41 2 rfl rfl ?_
    refine g_iconst X dX2_dropOldest_42 ?_
    refine g_puti X 0 1 dX2_dropOldest_43 rfl rfl iw_X2_drop tyX2_ok nmX2 (by decide) fl_X2_drop_17 rfl rfl (Nat.le_of_ble_eq_true rfl) (ws' := c2 K a (V0.1, 3, rotP V0.2.2)) rfl ?_
    exact g_vret X hr hlk dX2_dropOldest_46
  · rw [if_neg hok] at hf; cases hf
theorem fl_X2_save_11 : Cond.fieldLink RX2 11 (TX2 0).1 (TX2 0).2.1 (TX2 0).2.2.1 ∈ wsX2_save := by decide +kernel
theorem fl_X2_save_17 : Cond.fieldLink RX2 17 (TX2 1).1 (TX2 1).2.1 (TX2 1).2.2.1 ∈ wsX2_save := by decide +kernel
theorem iw_X2_save : ∀ w ∈ u_ws RX2 TX2 2, w ∈ wsX2_save := by decide +kernel
def rmX2_save : Room := { frames := 6, cells := 0, slots := 0, locals := 140 }
set_option maxHeartbeats 4000000 in
set_option maxRecDepth 100000 in
theorem X2_saveAt_go (K : KE) (l : Launch) (a b : Nat → Nat) (WC : va_W) {p : Program} {e : Env} {s : State} {m : MethodId} {args : Array Value} {below : List Frame} {meth : Method} {c : Code} (X : CX p s m args c K.1 vwCl (kT K) (va_A WC s.heap.size) cX2_save 2 wsX2_save RX2) (hr : meth.sig.returnType = none) (hlk : meth.locks = false) (V0 : St) (V1 : Hs) (res : Hs) (hf : X2_saveAt V0 V1 = some res) : GO p l e rmX2_save s m args below meth c K.1 vwCl (va_A WC s.heap.size) (MQ below (QC K.1 vwCl none WC (c8 K a V0 ++ c2 K b res) s.heap.size) args s 0 0 (va_A WC s.heap.size)) 2 0 0 12 [(0, .ref (b 0)), (1, .ref (a 0))] [] (c8 K a V0 ++ c2 K b V1) := by
  unfold X2_saveAt at hf
  by_cases hok : okP V1.2.2 ∧ 0 ≤ V1.2.1 ∧ V1.2.1 < 4
  · rw [if_pos hok] at hf
    obtain ⟨T, hc, hf⟩ := Option.bind_eq_some_iff.mp hf
    cases hf
    obtain ⟨hok, h0, h4⟩ := hok
    have hp : V1.2.2 V1.2.1.toNat < 4 := hok.at (by omega)
    generalize hq : V1.2.2 V1.2.1.toNat = q at hc hp ⊢
    obtain ⟨fs, he⟩ := c2_at2 K a b V0 V1 q hp
    refine g_aload_n X dX2_save_12 0 rfl rfl ?_
    refine g_get X (v := .ref (b 1)) 23 0 dX2_save_13 rfl rfl iw_X2_save (by decide) fl_X2_save_11 rfl ?_
    refine g_aload_n X dX2_save_16 0 rfl rfl ?_
    refine g_get X (v := ii V1.2.1) 23 1 dX2_save_17 rfl rfl iw_X2_save (by decide) fl_X2_save_17 rfl ?_
    refine g_aald X (v := ash b (2 + 23 * q) 0) ⟨h0, h4⟩ (by decide) 24 2 dX2_save_20 rfl rfl (by rw [← hq]) ?_
    refine g_aload_n X dX2_save_21 1 rfl rfl ?_
    refine g_callV X (As := [.ref (a 0)]) (st := []) (st1 := []) (ws' := c8 K a V0 ++ c2 K b (upS V1.1 q T, V1.2)) (X8_copyFrom_ok K l (ash b (2 + 23 * q)) a (V1.1 q) V0 T hc) gX2_save_X8_copyFrom rfl 1 (by decide +kernel) ⟨rfl, rfl⟩ ⟨Nat.le_of_ble_eq_true rfl, Nat.le_of_ble_eq_true rfl⟩ ⟨Nat.zero_le _, Nat.zero_le _⟩ (25 + 23 * q) he rfl rfl rfl (Nat.le_of_ble_eq_true rfl) dX2_save_22 (sg_hist K a b V0 V0 V1 T q hp) rfl ?_
    refine g_aload_n X dX2_save_25 0 rfl rfl ?_
    refine g_dup X dX2_save_26 rfl ?_
    refine g_get X (v := ii V1.2.1) 23 1 dX2_save_27 rfl rfl iw_X2_save (by decide) fl_X2_save_17 rfl ?_
    refine g_iconst X dX2_save_30 ?_
    refine g_iadd X dX2_save_31 ?_
    refine g_puti X 23 1 dX2_save_32 rfl rfl iw_X2_save tyX2_ok nmX2 (by decide) fl_X2_save_17 rfl rfl (Nat.le_of_ble_eq_true rfl) (ws' := c8 K a V0 ++ c2 K b (upS V1.1 q T, V1.2.1 + 1, V1.2.2)) rfl ?_
    exact g_vret X hr hlk dX2_save_35
  · rw [if_neg hok] at hf; cases hf
set_option maxHeartbeats 4000000 in
set_option maxRecDepth 100000 in
theorem X2_save_ok (K : KE) (l : Launch) (a b : Nat → Nat) (V0 : St) (V1 : Hs) (res : Hs) (hf : X2_save V0 V1 = some res) : CT l K.1 vwCl (kT K) yX2_save wsX2_save rmX2_save [.ref (b 0), .ref (a 0)] none (c8 K a V0 ++ c2 K b V1) (c8 K a V0 ++ c2 K b res) := by
  refine CT.mk (cc := cX2_save) (maxL := 2) (ret := none) (by decide) rfl (Nat.le_of_ble_eq_true rfl) (fun p e s m below meth c X hr hlk => ?_)
  have X : CX p s m [Value.ref (b 0), .ref (a 0)].toArray c K.1 vwCl (kT K) (va_A (c8 K a V0 ++ c2 K b V1) s.heap.size) cX2_save 2 wsX2_save RX2 := X
  unfold X2_save at hf
  refine g_aload_n X dX2_save_0 0 rfl rfl ?_
  refine g_get X (v := ii V1.2.1) 23 1 dX2_save_1 rfl rfl iw_X2_save (by decide) fl_X2_save_17 rfl ?_
  refine g_iconst X dX2_save_4 ?_
  refine g_icmp_lt X hf 12 dX2_save_5 (by decide) (fun hf => ?_) (fun hf => ?_)
  · exact X2_saveAt_go K l a b _ X hr hlk V0 V1 res hf
  · obtain ⟨h, hc, hf⟩ := Option.bind_eq_some_iff.mp hf
    refine g_aload_n X dX2_save_8 0 rfl rfl ?_
    refine g_callV X (As := []) (st := []) (st1 := []) (ws' := c8 K a V0 ++ c2 K b h) (X2_dropOldest_ok K l b V1 h hc) gX2_save_X2_dropOldest rfl 0 (by decide +kernel) ⟨rfl, rfl⟩ ⟨Nat.le_of_ble_eq_true rfl, Nat.le_of_ble_eq_true rfl⟩ ⟨Nat.zero_le _, Nat.zero_le _⟩ 23 rfl rfl rfl rfl (Nat.le_of_ble_eq_true rfl) dX2_save_9 (SG.one (c8 K a V0) [] rfl rfl rfl) rfl ?_
    exact X2_saveAt_go K l a b _ X hr hlk V0 h res hf
theorem fl_X2_restore_11 : Cond.fieldLink RX2 11 (TX2 0).1 (TX2 0).2.1 (TX2 0).2.2.1 ∈ wsX2_restore := by decide +kernel
theorem fl_X2_restore_17 : Cond.fieldLink RX2 17 (TX2 1).1 (TX2 1).2.1 (TX2 1).2.2.1 ∈ wsX2_restore := by decide +kernel
theorem iw_X2_restore : ∀ w ∈ u_ws RX2 TX2 2, w ∈ wsX2_restore := by decide +kernel
def rmX2_restore : Room := { frames := 5, cells := 0, slots := 0, locals := 120 }
set_option maxHeartbeats 4000000 in
set_option maxRecDepth 100000 in
theorem X2_restore_ok (K : KE) (l : Launch) (a b : Nat → Nat) (V0 : St) (V1 : Hs) (res : Int × St × Hs) (hf : X2_restore V0 V1 = some res) : CT l K.1 vwCl (kT K) yX2_restore wsX2_restore rmX2_restore [.ref (b 0), .ref (a 0)] (some (ii res.1)) (c8 K a V0 ++ c2 K b V1) (c8 K a res.2.1 ++ c2 K b res.2.2) := by
  refine CT.mk (cc := cX2_restore) (maxL := 2) (ret := (some .boolean)) (by decide) rfl (Nat.le_of_ble_eq_true rfl) (fun p e s m below meth c X hr hlk => ?_)
  have X : CX p s m [Value.ref (b 0), .ref (a 0)].toArray c K.1 vwCl (kT K) (va_A (c8 K a V0 ++ c2 K b V1) s.heap.size) cX2_restore 2 wsX2_restore RX2 := X
  unfold X2_restore at hf
  refine g_aload_n X dX2_restore_0 0 rfl rfl ?_
  refine g_get X (v := ii V1.2.1) 23 1 dX2_restore_1 rfl rfl iw_X2_restore (by decide) fl_X2_restore_17 rfl ?_
  refine g_if_gt X hf 9 dX2_restore_4 (by decide) (fun hf => ?_) (fun hf => ?_)
  · refine g_iconst X dX2_restore_7 ?_
    cases hf
    exact g_zret X (Or.inl rfl) hr hlk dX2_restore_8
  · by_cases hok : okP V1.2.2 ∧ 0 ≤ V1.2.1 - 1 ∧ V1.2.1 - 1 < 4
    · rw [if_pos hok] at hf
      obtain ⟨T, hc, hf⟩ := Option.bind_eq_some_iff.mp hf
      cases hf
      obtain ⟨hok, h0, h4⟩ := hok
      have hp : V1.2.2 (V1.2.1 - 1).toNat < 4 := hok.at (by omega)
      generalize hq : V1.2.2 (V1.2.1 - 1).toNat = q at hc hp ⊢
      refine g_aload_n X dX2_restore_9 0 rfl rfl ?_
      refine g_dup X dX2_restore_10 rfl ?_
      refine g_get X (v := ii V1.2.1) 23 1 dX2_restore_11 rfl rfl iw_X2_restore (by decide) fl_X2_restore_17 rfl ?_
      refine g_iconst X dX2_restore_14 ?_
      refine g_isub X dX2_restore_15 ?_
      refine g_puti X 23 1 dX2_restore_16 rfl rfl iw_X2_restore tyX2_ok nmX2 (by decide) fl_X2_restore_17 rfl rfl (Nat.le_of_ble_eq_true rfl) (ws' := c8 K a V0 ++ c2 K b (V1.1, V1.2.1 - 1, V1.2.2)) rfl ?_
      refine g_aload_n X dX2_restore_19 1 rfl rfl ?_
      refine g_aload_n X dX2_restore_20 0 rfl rfl ?_
      refine g_get X (v := .ref (b 1)) 23 0 dX2_restore_21 rfl rfl iw_X2_restore (by decide) fl_X2_restore_11 rfl ?_
      refine g_aload_n X dX2_restore_24 0 rfl rfl ?_
      refine g_get X (v := ii (V1.2.1 - 1)) 23 1 dX2_restore_25 rfl rfl iw_X2_restore (by decide) fl_X2_restore_17 rfl ?_
      refine g_aald X (v := ash b (2 + 23 * q) 0) ⟨h0, h4⟩ (by decide) 24 2 dX2_restore_28 rfl rfl (by rw [← hq]) ?_
      refine g_callV X (As := [.ref (ash b (2 + 23 * q) 0)]) (st := []) (st1 := []) (ws' := c8 K a T ++ c2 K b (V1.1, V1.2.1 - 1, V1.2.2)) (X8_copyFrom_ok K l a (ash b (2 + 23 * q)) V0 (V1.1 q) T hc) gX2_restore_X8_copyFrom rfl 1 (by decide +kernel) ⟨rfl, rfl⟩ ⟨Nat.le_of_ble_eq_true rfl, Nat.le_of_ble_eq_true rfl⟩ ⟨Nat.zero_le _, Nat.zero_le _⟩ 0 rfl rfl rfl rfl (Nat.le_of_ble_eq_true rfl) dX2_restore_29 (sg_hist2 K a b V0 T (V1.1, V1.2.1 - 1, V1.2.2) q hp) rfl ?_
      refine g_iconst X dX2_restore_32 ?_
      exact g_zret X (Or.inr rfl) hr hlk dX2_restore_33
    · rw [if_neg hok] at hf; cases hf
