theorem openCall_eq (V : Tx) (kd nm ac : Int) : X7_openCall V kd nm ac = ((X7_firstLetterOf kd).bind (fun v1 => (X7_put V (v1 + nm)).bind (fun v3 => X7_put v3 40))).bind (fun v5 => brEQ ac 0 ((X7_put v5 41).bind (fun v7 => (X7_finishArgument v7).bind (fun v9 => some v9))) (brLT v5.2.2.2 30 (wrK 30 v5.2.2.1 v5.2.2.2 ac (fun f11 => some (v5.1, v5.2.1, f11, (v5.2.2.2 + 1)))) (some v5))) := by
  unfold X7_openCall
  simp only [Option.bind_assoc]
theorem write_loop {P : Pg} {m : Int} {A : Arr} (hm : m ≤ 4) (hP : RPg P m A) (kc : Tx → Option Tx) (kr : Arr → Int → Arr → Int → Option (Arr × Int × Arr × Int)) : ∀ (k y : Nat) (V : Tx) (w t : Arr) (o l : Int), (y : Int) + k = P.1 → RT V w o t l → V.2.1 + 2 * V.2.2.2 ≤ 4 * (y : Int) → V.2.2.2 ≤ (y : Int) → ∃ (V' : Tx) (w' t' : Arr) (o' l' : Int), RT V' w' o' t' l' ∧ V'.2.1 ≤ 120 ∧ (∀ fuel : Nat, k < fuel → X7_write_L12 kc P fuel (y : Int) V = kc V') ∧ ∀ fuel : Nat, k < fuel → X10_tellsAll_L12 kr A fuel (y : Int) w o t l = kr w' o' t' l' := by
  obtain ⟨h1, h2, h3, h4, h5, h6⟩ := hP
  intro k
  induction k with
  | zero =>
    intro y V w t o l hy h hb ho
    obtain ⟨r1, r2, r3, r4, r5, r6, r7⟩ := id h
    refine ⟨V, w, t, o, l, h, by omega, fun fuel hf => ?_, fun fuel hf => ?_⟩
    · obtain ⟨n, rfl⟩ : ∃ n, fuel = n + 1 := ⟨fuel - 1, by omega⟩
      rw [X7_write_L12, e_LT (by omega) (by omega) (by omega) (by omega), if_neg (by omega)]
    · obtain ⟨n, rfl⟩ : ∃ n, fuel = n + 1 := ⟨fuel - 1, by omega⟩
      rw [X10_tellsAll_L12, e_rd (by decide) (by decide), show ((148 : Int)).toNat = 148 from rfl, h3, e_LT (by omega) (by omega) (by omega) (by omega), if_neg (by omega)]
  | succ k ih =>
    intro y V w t o l hy h hb ho
    obtain ⟨r1, r2, r3, r4, r5, r6, r7⟩ := id h
    have hN := h4 y (by omega)
    obtain ⟨n0, n1, n2, n3, n4, n5, n6, n7, n8⟩ := hN.facts hm
    obtain ⟨V1, t1, l1, s1, s2, s3, s4, s5, s6⟩ := node_sim hm hN h (by omega)
    have s3' : V1.2.2.2 = V.2.2.2 := by rw [s3]
    have ey : ((y : Int)).toNat = y := by omega
    have e3 : (y : Int) + 1 = ((y + 1 : Nat) : Int) := by omega
    have stepC : ∀ n : Nat, X7_write_L12 kc P (n + 1) (y : Int) V = if P.2.1 y = 2 ∨ P.2.1 y = 3 ∨ P.2.1 y = 4 then (X7_openCall V (P.2.1 y) (P.2.2.1 y) (P.2.2.2 y)).bind (fun v15 => X7_write_L12 kc P n ((y + 1 : Nat) : Int) v15) else (X7_writeLeaf V (P.2.1 y) (P.2.2.1 y)).bind (fun v8 => (X7_finishArgument v8).bind (fun v10 => X7_write_L12 kc P n ((y + 1 : Nat) : Int) v10)) := by
      intro n
      rw [X7_write_L12, e_LT (by omega) (by omega) (by omega) (by omega), if_pos (by omega), e_rd (by omega) (by omega), ey, X9_isCall_eq ⟨by omega, by omega⟩, Option.bind_some, e_lt, e_b10, e_rd (by omega) (by omega), e_rd (by omega) (by omega), e_rd (by omega) (by omega), e_rd (by omega) (by omega), e_rd (by omega) (by omega), ey, e3]
    have stepM : ∀ n : Nat, X10_tellsAll_L12 kr A (n + 1) (y : Int) w o t l = if P.2.2.2 y ≤ 0 then (if A (149 + y) / 10000 ≤ 2 then (X10_tellsEnds w o t1 l1).bind (fun w13 => X10_tellsAll_L12 kr A n ((y + 1 : Nat) : Int) w13.1 w13.2.1 w13.2.2.1 w13.2.2.2) else (X10_tells t1 l1 41).bind (fun w15 => (X10_tellsEnds w o w15.1 w15.2).bind (fun w13 => X10_tellsAll_L12 kr A n ((y + 1 : Nat) : Int) w13.1 w13.2.1 w13.2.2.1 w13.2.2.2))) else wrK 30 w o (P.2.2.2 y) (fun f19 => X10_tellsAll_L12 kr A n ((y + 1 : Nat) : Int) f19 (o + 1) t1 l1) := by
      intro n
      rw [X10_tellsAll_L12, e_rd (by decide) (by decide), show ((148 : Int)).toNat = 148 from rfl, h3, e_LT (by omega) (by omega) (by omega) (by omega), if_pos (by omega), e_rd (by omega) (by omega), show (149 + (y : Int)).toNat = 149 + y by omega, s4, Option.bind_some, X10_arguments_eq n0 (by omega), n2, X10_kind_eq n0 (by omega), e3]
      simp only [Option.bind_some, e_lt]
      rw [e_LE (by omega) (by omega) (by decide) (by decide), e_LE (by omega) (by omega) (by decide) (by decide)]
    by_cases hcall : P.2.1 y = 2 ∨ P.2.1 y = 3 ∨ P.2.1 y = 4
    · have hk2 : ¬ (A (149 + y) / 10000 ≤ 2) := by have := n4.mpr hcall; omega
      by_cases hz : P.2.2.2 y = 0
      · obtain ⟨p1, p2, p3⟩ := put_sim s1 (by omega) (c := 41) (by decide) (by decide)
        obtain ⟨V2, w2, t2, o2, l2, f1, f2, f3, f4, f5⟩ := fin_sim p3 (by show V1.2.1 + 1 + 2 * V1.2.2.2 + 1 ≤ 120; omega)
        have f2' : V2.2.1 + 2 * V2.2.2.2 ≤ V1.2.1 + 1 + 2 * V1.2.2.2 + 1 := f2
        have f3' : V2.2.2.2 ≤ V1.2.2.2 := f3
        obtain ⟨V', w', t', o', l', g1, g2, g3, g4⟩ := ih (y + 1) V2 w2 t2 o2 l2 (by omega) f1 (by omega) (by omega)
        refine ⟨V', w', t', o', l', g1, g2, fun fuel hf => ?_, fun fuel hf => ?_⟩
        · obtain ⟨n, rfl⟩ : ∃ n, fuel = n + 1 := ⟨fuel - 1, by omega⟩
          rw [stepC, if_pos hcall, openCall_eq, s6 hcall, Option.bind_some, hz, e_b0, p1, Option.bind_some, f4, Option.bind_some, Option.bind_some]
          exact g3 n (by omega)
        · obtain ⟨n, rfl⟩ : ∃ n, fuel = n + 1 := ⟨fuel - 1, by omega⟩
          rw [stepM, if_pos (by omega), if_neg hk2, p2, Option.bind_some, f5, Option.bind_some]
          exact g4 n (by omega)
      · have hRT : RT (V1.1, V1.2.1, upI V1.2.2.1 V1.2.2.2.toNat (P.2.2.2 y), V1.2.2.2 + 1) (upI w o.toNat (P.2.2.2 y)) (o + 1) t1 l1 := by
          obtain ⟨u1, u2, u3, u4, u5, u6, u7⟩ := s1
          refine ⟨by show o + 1 = V1.2.2.2 + 1; omega, u2, u3, by show 0 ≤ V1.2.2.2 + 1; omega, by show V1.2.2.2 + 1 ≤ 30; omega, u6, fun j hj => ?_⟩
          have hj' : j < V1.2.2.2.toNat + 1 := by
            have : j < (V1.2.2.2 + 1).toNat := hj
            omega
          have eo : o.toNat = V1.2.2.2.toNat := by omega
          show upI w o.toNat (P.2.2.2 y) j = upI V1.2.2.1 V1.2.2.2.toNat (P.2.2.2 y) j ∧ 1 ≤ upI V1.2.2.1 V1.2.2.2.toNat (P.2.2.2 y) j ∧ upI V1.2.2.1 V1.2.2.2.toNat (P.2.2.2 y) j ≤ 4
          rw [eo]
          by_cases hq : j = V1.2.2.2.toNat
          · subst hq
            rw [uI_same, uI_same]
            exact ⟨rfl, by omega, by omega⟩
          · rw [uI_ne hq, uI_ne hq]
            exact u7 j (by omega)
        obtain ⟨V', w', t', o', l', g1, g2, g3, g4⟩ := ih (y + 1) _ _ _ _ _ (by omega) hRT (by show V1.2.1 + 2 * (V1.2.2.2 + 1) ≤ 4 * ((y + 1 : Nat) : Int); omega) (by show V1.2.2.2 + 1 ≤ ((y + 1 : Nat) : Int); omega)
        refine ⟨V', w', t', o', l', g1, g2, fun fuel hf => ?_, fun fuel hf => ?_⟩
        · obtain ⟨n, rfl⟩ : ∃ n, fuel = n + 1 := ⟨fuel - 1, by omega⟩
          rw [stepC, if_pos hcall, openCall_eq, s6 hcall, Option.bind_some, e_EQ (by omega) (by omega) (by decide) (by decide), if_neg hz, e_LT (by omega) (by omega) (by decide) (by decide), if_pos (by omega), e_wr (by omega) (by omega), Option.bind_some]
          exact g3 n (by omega)
        · obtain ⟨n, rfl⟩ : ∃ n, fuel = n + 1 := ⟨fuel - 1, by omega⟩
          rw [stepM, if_neg (by omega), e_wr (by omega) (by omega)]
          exact g4 n (by omega)
    · have hk2 : A (149 + y) / 10000 ≤ 2 := by
        by_cases hq : A (149 + y) / 10000 ≤ 2
        · exact hq
        · exact absurd (n4.mp (by omega)) hcall
      have hz : P.2.2.2 y = 0 := by
        rcases hN with ⟨a1, a2, a3, a4, a5⟩ | ⟨a1, a2, a3, a4⟩ | ⟨a1, a2, a3, a4, a5, a6⟩ | ⟨a1, a2, a3, a4, a5, a6⟩ | ⟨a1, a2, a3, a4, a5, a6⟩ <;> omega
      obtain ⟨V2, w2, t2, o2, l2, f1, f2, f3, f4, f5⟩ := fin_sim s1 (by omega)
      obtain ⟨V', w', t', o', l', g1, g2, g3, g4⟩ := ih (y + 1) V2 w2 t2 o2 l2 (by omega) f1 (by omega) (by omega)
      refine ⟨V', w', t', o', l', g1, g2, fun fuel hf => ?_, fun fuel hf => ?_⟩
      · obtain ⟨n, rfl⟩ : ∃ n, fuel = n + 1 := ⟨fuel - 1, by omega⟩
        rw [stepC, if_neg hcall, s5 hcall, Option.bind_some, f4, Option.bind_some]
        exact g3 n (by omega)
      · obtain ⟨n, rfl⟩ : ∃ n, fuel = n + 1 := ⟨fuel - 1, by omega⟩
        rw [stepM, if_pos (by omega), if_pos hk2, f5, Option.bind_some]
        exact g4 n (by omega)
theorem write_sim {S : St} {A : Arr} (hS : RS S A) (V : Tx) (w t : Arr) (o l : Int) : ∃ (V' : Tx) (w' t' : Arr) (o' l' : Int), RT V' w' o' t' l' ∧ V'.2.1 ≤ 120 ∧ X7_write S.2.2.2.2.2.2.2.1 V = some V' ∧ X10_tellsAll A w o t l = some (w', o', t', l') := by
  have hsz := hS.size
  obtain ⟨V', w', t', o', l', r1, r2, r3, r4⟩ := write_loop hS.2.2.1.2.1 hS.2.2.2.2.2.1 (fun w17 => some w17) (fun w20 w21 w22 w23 => some (w20, w21, w22, w23)) S.2.2.2.2.2.2.2.1.1.toNat 0 (V.1, 0, V.2.2.1, 0) w t 0 0 (by omega) ⟨rfl, rfl, Int.le_refl _, Int.le_refl _, by show (0 : Int) ≤ 30; decide, fun j hj => absurd hj (by show ¬ j < (0 : Int).toNat; omega), fun j hj => absurd hj (by show ¬ j < (0 : Int).toNat; omega)⟩ (by show (0 : Int) + 2 * 0 ≤ 4 * 0; decide) (Int.le_refl _)
  exact ⟨V', w', t', o', l', r1, r2, r3 FU (by rw [FU_eq]; omega), r4 FU (by rw [FU_eq]; omega)⟩
def setT (M : MT) (w : Arr) (o : Int) (t : Arr) (l : Int) : MT := (M.1, M.2.1, M.2.2.1, M.2.2.2.1, M.2.2.2.2.1, M.2.2.2.2.2.1, M.2.2.2.2.2.2.1, M.2.2.2.2.2.2.2.1, w, o, M.2.2.2.2.2.2.2.2.2.2.1, M.2.2.2.2.2.2.2.2.2.2.2.1, M.2.2.2.2.2.2.2.2.2.2.2.2.1, M.2.2.2.2.2.2.2.2.2.2.2.2.2.1, M.2.2.2.2.2.2.2.2.2.2.2.2.2.2.1, M.2.2.2.2.2.2.2.2.2.2.2.2.2.2.2.1, M.2.2.2.2.2.2.2.2.2.2.2.2.2.2.2.2.1, M.2.2.2.2.2.2.2.2.2.2.2.2.2.2.2.2.2.1, M.2.2.2.2.2.2.2.2.2.2.2.2.2.2.2.2.2.2.1, M.2.2.2.2.2.2.2.2.2.2.2.2.2.2.2.2.2.2.2.1, M.2.2.2.2.2.2.2.2.2.2.2.2.2.2.2.2.2.2.2.2.1, t, l)
theorem sim_textByte (i : Int) (C : CM) (M : MT) (p1 : Int) (_ : 0 ≤ i) (_ : i ≤ 2048) (hR : REL i C M) (g1 : Rg p1) : ∃ (r : Int) (C' : CM) (M' : MT), cm_textByte C p1 = some (r, C') ∧ rm_textByte M p1 = some (r, M') ∧ REL (i + 4) C' M' := by
  by_cases c1 : p1 < -1
  · refine ⟨-2, _, _, ?_, ?_, rel_ref hR (code := -2) (by decide) (by decide)⟩
    · unfold cm_textByte X9_textByte
      rw [e_LT g1.1 g1.2 (by decide) (by decide), if_pos c1, ref_eq C (by decide) (by decide)]
    · unfold rm_textByte X10_textByte
      rw [e_LT g1.1 g1.2 (by decide) (by decide), if_pos c1, X10_error_eq _ (by decide) (by decide)]
      rfl
  · obtain ⟨V', w', t', o', l', r1, r2, r3, r4⟩ := write_sim hR.1 C.2.2.2.2.1 M.2.2.2.2.2.2.2.2.1 M.2.2.2.2.2.2.2.2.2.2.2.2.2.2.2.2.2.2.2.2.2.1 M.2.2.2.2.2.2.2.2.2.1 M.2.2.2.2.2.2.2.2.2.2.2.2.2.2.2.2.2.2.2.2.2.2
    obtain ⟨u1, u2, u3, u4, u5, u6, u7⟩ := r1
    subst u2
    have kC : cm_textByte C p1 = if p1 = -1 then some (V'.2.1, (C.1, C.2.1, C.2.2.1, C.2.2.2.1, V', C.2.2.2.2.2)) else if p1 < V'.2.1 then rdK 120 V'.1 p1 (fun v5 => some (v5, (C.1, C.2.1, C.2.2.1, C.2.2.2.1, V', C.2.2.2.2.2))) else some (-1, (C.1, C.2.1, C.2.2.1, C.2.2.2.1, V', C.2.2.2.2.2)) := by
      unfold cm_textByte X9_textByte
      rw [e_LT g1.1 g1.2 (by decide) (by decide), if_neg c1, r3, Option.bind_some, e_EQ g1.1 g1.2 (by decide) (by decide), e_LT g1.1 g1.2 (by omega) (by omega)]
    have kM : rm_textByte M p1 = if p1 = -1 then some (V'.2.1, setT M w' o' t' V'.2.1) else if p1 < V'.2.1 then rdK 200 t' p1 (fun v5 => some (v5, setT M w' o' t' V'.2.1)) else some (-1, setT M w' o' t' V'.2.1) := by
      unfold rm_textByte X10_textByte
      rw [e_LT g1.1 g1.2 (by decide) (by decide), if_neg c1, r4, Option.bind_some]
      dsimp only
      rw [e_EQ g1.1 g1.2 (by decide) (by decide), e_LT g1.1 g1.2 (by omega) (by omega)]
      by_cases c2 : p1 = -1
      · rw [if_pos c2, if_pos c2]; rfl
      · rw [if_neg c2, if_neg c2]
        by_cases c3 : p1 < V'.2.1
        · rw [if_pos c3, if_pos c3, e_rd (by omega) (by omega), e_rd (by omega) (by omega)]; rfl
        · rw [if_neg c3, if_neg c3]; rfl
    have hREL : REL (i + 4) (C.1, C.2.1, C.2.2.1, C.2.2.2.1, V', C.2.2.2.2.2) (setT M w' o' t' V'.2.1) := ⟨hR.1, hR.2.1, hR.2.2.1, hR.2.2.2.mono⟩
    rw [kC, kM]
    by_cases c2 : p1 = -1
    · rw [if_pos c2, if_pos c2]
      exact ⟨_, _, _, rfl, rfl, hREL⟩
    · rw [if_neg c2, if_neg c2]
      by_cases c3 : p1 < V'.2.1
      · rw [if_pos c3, if_pos c3, e_rd (by omega) (by omega), e_rd (by omega) (by omega), (u6 p1.toNat (by omega)).1]
        exact ⟨_, _, _, rfl, rfl, hREL⟩
      · rw [if_neg c3, if_neg c3]
        exact ⟨_, _, _, rfl, rfl, hREL⟩
