/-! pure: value -/
theorem args_sim {T : FT} {cn nm : Nat} (hcn : cn ≤ 1000) (hnm : nm < cn) {A : Arr} {at0 : Nat} (hat : at0 + 8 ≤ 186) (htm : ∀ k : Nat, k < 5 → A (at0 + 2 + k) = T.2.2 (5 * nm + k) ∧ 0 ≤ T.2.2 (5 * nm + k) ∧ T.2.2 (5 * nm + k) ≤ 99) {f g : Arr} {errors : Arr} {x1 x2 x4 x5 : Int} {a : Nat} (ha : a ≤ 4) (hx5 : X10_arguments x5 = some (a : Int)) :
    ∀ (k y : Nat) (s : Int) (tp : Nat), y + k = a → k ≤ tp → tp ≤ 30 → (∀ j : Nat, j < tp → g j = f j ∧ 0 ≤ f j ∧ f j ≤ 999) → 0 ≤ s → s ≤ 99 + 98901 * (y : Int) → ∃ s' : Int, 0 ≤ s' ∧ s' ≤ 99 + 98901 * (a : Int) ∧ (∀ (fuel : Nat) (kx : Int → Ev → Option (Int × Ev)), k < fuel → X0_callResult_L11 kx cn T (nm : Int) (a : Int) fuel s (y : Int) (f, (tp : Int)) = kx s' (f, ((tp - k : Nat) : Int))) ∧ ∀ (fuel : Nat) (kx : Int → Int → Option (Int × Arr × Arr)), k < fuel → X10_value_L126 kx A errors g x1 x2 x4 x5 (((at0 : Nat) : Int) + 2) fuel (tp : Int) s (y : Int) = kx ((tp - k : Nat) : Int) s' := by
  intro k
  induction k with
  | zero =>
    intro y s tp h1 h2 h3 h4 h5 h6
    refine ⟨s, h5, by omega, fun fuel kx hf => ?_, fun fuel kx hf => ?_⟩
    · obtain ⟨n, rfl⟩ : ∃ n, fuel = n + 1 := ⟨fuel - 1, by omega⟩
      rw [X0_callResult_L11, e_LT (by omega) (by omega) (by omega) (by omega), if_neg (by omega)]
      rfl
    · obtain ⟨n, rfl⟩ : ∃ n, fuel = n + 1 := ⟨fuel - 1, by omega⟩
      rw [X10_value_L126, hx5, Option.bind_some, e_LT (by omega) (by omega) (by omega) (by omega), if_neg (by omega)]
      rfl
  | succ k ih =>
    intro y s tp h1 h2 h3 h4 h5 h6
    obtain ⟨b0, b1, b2⟩ := htm (1 + y) (by omega)
    obtain ⟨v0, v1, v2⟩ := h4 (tp - 1) (by omega)
    have q1 := Int.mul_nonneg b1 v1
    have q2 : T.2.2 (5 * nm + (1 + y)) * f (tp - 1) ≤ 99 * 999 := Int.mul_le_mul b2 v2 v1 (by decide)
    obtain ⟨s', r0, r1, r2, r3⟩ := ih (y + 1) (s + T.2.2 (5 * nm + (1 + y)) * f (tp - 1)) (tp - 1) (by omega) (by omega) (by omega) (fun j hj => h4 j (by omega)) (by omega) (by omega)
    have e3 : (y : Int) + 1 = ((y + 1 : Nat) : Int) := by omega
    have e4 : ((tp : Int) - 1).toNat = tp - 1 := by omega
    have e5 : (tp : Int) - 1 = ((tp - 1 : Nat) : Int) := by omega
    have e6 : tp - 1 - k = tp - (k + 1) := by omega
    refine ⟨s', r0, r1, fun fuel kx hf => ?_, fun fuel kx hf => ?_⟩
    · obtain ⟨n, rfl⟩ : ∃ n, fuel = n + 1 := ⟨fuel - 1, by omega⟩
      have hp : X0_pop (f, (tp : Int)) = some (f (tp - 1), (f, ((tp - 1 : Nat) : Int))) := by
        unfold X0_pop
        rw [e_LE (by show -2147483648 ≤ (tp : Int); omega) (by show (tp : Int) ≤ 2147483647; omega) (by decide) (by decide), if_neg (by show ¬ (tp : Int) ≤ 0; omega), e_rd (by show 0 ≤ (tp : Int) - 1; omega) (by show (tp : Int) - 1 < 30; omega)]
        show some (f ((tp : Int) - 1).toNat, (f, (tp : Int) - 1)) = _
        rw [e4, e5]
      rw [X0_callResult_L11, e_LT (by omega) (by omega) (by omega) (by omega), if_pos (by omega), X1_term_eq hcn _ (by omega) (by omega) (by omega) (by omega), Option.bind_some, hp, Option.bind_some, e3, show 5 * ((nm : Int)).toNat + (((y + 1 : Nat) : Int)).toNat = 5 * nm + (1 + y) by omega]
      refine (r2 n kx (by omega)).trans ?_
      rw [e6]
    · obtain ⟨n, rfl⟩ : ∃ n, fuel = n + 1 := ⟨fuel - 1, by omega⟩
      rw [X10_value_L126, hx5, Option.bind_some, e_LT (by omega) (by omega) (by omega) (by omega), if_pos (by omega), e_rd (by omega) (by omega), e_rd (by omega) (by omega), show (((at0 : Nat) : Int) + 2 + 1 + (y : Int)).toNat = at0 + 2 + (1 + y) by omega, show ((tp : Int) + -1).toNat = tp - 1 by omega, b0, v0, e3, show (tp : Int) + -1 = ((tp - 1 : Nat) : Int) by omega]
      refine (r3 n kx (by omega)).trans ?_
      rw [e6]
theorem X0_push_eq (f : Arr) {tp : Nat} (h : tp < 30) (v : Int) : X0_push (f, (tp : Int)) v = some (upI f tp v, ((tp + 1 : Nat) : Int)) := by
  unfold X0_push
  rw [e_LT (by show -2147483648 ≤ (tp : Int); omega) (by show (tp : Int) ≤ 2147483647; omega) (by decide) (by decide), if_pos (by show (tp : Int) < 30; omega), e_wr (by show 0 ≤ (tp : Int); omega) (by show (tp : Int) < 30; omega)]
  show some (upI f ((tp : Int)).toNat v, (tp : Int) + 1) = _
  rw [show ((tp : Int)).toNat = tp by omega, show (tp : Int) + 1 = ((tp + 1 : Nat) : Int) by omega]
/-- a call's result: the table and its row in the reference -/
theorem call_sim {T : FT} {cn nm : Nat} (hcn : cn ≤ 1000) (hnm : nm < cn) {A : Arr} {at0 : Nat} (hat : at0 + 8 ≤ 186) (htm : ∀ k : Nat, k < 5 → A (at0 + 2 + k) = T.2.2 (5 * nm + k) ∧ 0 ≤ T.2.2 (5 * nm + k) ∧ T.2.2 (5 * nm + k) ≤ 99) {f g : Arr} {errors : Arr} {x1 x2 x4 x5 : Int} {a tp : Nat} (ha : a ≤ 4) (hx5 : X10_arguments x5 = some (a : Int)) (h2 : a ≤ tp) (h3 : tp ≤ 30) (h4 : ∀ j : Nat, j < tp → g j = f j ∧ 0 ≤ f j ∧ f j ≤ 999) : ∃ s : Int, 0 ≤ s ∧ s ≤ 999999 ∧ X0_callResult cn T (f, (tp : Int)) (nm : Int) (a : Int) = some (s % 1000, (f, ((tp - a : Nat) : Int))) ∧ ∀ kx : Int → Int → Option (Int × Arr × Arr), rdK 186 A (((at0 : Nat) : Int) + 2) (fun v23 => X10_value_L126 kx A errors g x1 x2 x4 x5 (((at0 : Nat) : Int) + 2) FU (tp : Int) v23 0) = kx ((tp - a : Nat) : Int) s := by
  obtain ⟨b0, b1, b2⟩ := htm 0 (by omega)
  obtain ⟨s, r0, r1, r2, r3⟩ := args_sim hcn hnm hat htm (errors := errors) (x1 := x1) (x2 := x2) (x4 := x4) ha hx5 a 0 (T.2.2 (5 * nm + 0)) tp (by omega) h2 h3 h4 b1 (by omega)
  refine ⟨s, r0, by omega, ?_, fun kx => ?_⟩
  · unfold X0_callResult
    rw [X1_term_eq hcn _ (by omega) (by omega) (by decide) (by decide), Option.bind_some, show 5 * ((nm : Int)).toNat + ((-1 : Int) + 1).toNat = 5 * nm + 0 by omega]
    refine (r2 FU _ (by rw [FU_eq]; omega)).trans ?_
    rw [e_rm (by omega) (by omega), Int.tmod_eq_emod_of_nonneg r0]
  · rw [e_rd (by omega) (by omega), show (((at0 : Nat) : Int) + 2).toNat = at0 + 2 + 0 by omega, b0]
    exact r3 FU kx (by rw [FU_eq]; omega)
theorem cnt_bd {P : Pg} {m : Int} {A : Arr} (hm : m ≤ 4) (h : RPg P m A) : ∀ (k y : Nat), (y : Int) + k = P.1 → 0 ≤ cnt P.2.2.2 y ∧ cnt P.2.2.2 y ≤ k := by
  obtain ⟨h1, h2, h3, h4, h5, h6⟩ := h
  intro k
  induction k with
  | zero =>
    intro y hy
    have : y = P.1.toNat := by omega
    rw [this, h6]
    exact ⟨Int.le_refl _, Int.le_refl _⟩
  | succ k ih =>
    intro y hy
    have i1 := ih (y + 1) (by omega)
    have e : cnt P.2.2.2 (y + 1) = cnt P.2.2.2 y - 1 + P.2.2.2 y := rfl
    obtain ⟨n0, n1, n2, n3, n4, n5, n6, n7, n8⟩ := (h4 y (by omega)).facts hm
    have := h5 y (by omega)
    rw [e] at i1
    omega
theorem X8_tableOf_eq (S : St) {k : Int} (h : Rg k) : X8_tableOf S k = some (if k = 2 then 0 else if k = 3 then 1 else 2) := by
  unfold X8_tableOf
  rw [e_EQ h.1 h.2 (by decide) (by decide), e_EQ h.1 h.2 (by decide) (by decide)]
  by_cases h2 : k = 2
  · rw [if_pos h2, if_pos h2]
  · rw [if_neg h2, if_neg h2]
    by_cases h3 : k = 3
    · rw [if_pos h3, if_pos h3]
    · rw [if_neg h3, if_neg h3]
theorem sel3_0 {β : Type} {X Y Z : Option β} : sel3 0 X Y Z = X := rfl
theorem sel3_1 {β : Type} {X Y Z : Option β} : sel3 1 X Y Z = Y := rfl
theorem sel3_2 {β : Type} {X Y Z : Option β} : sel3 2 X Y Z = Z := rfl
theorem eval_loop {S : St} {A : Arr} (hS : RS S A) (errors : Arr) {x y : Int} (hx0 : 0 ≤ x) (hx1 : x ≤ 999) (hy0 : 0 ≤ y) (hy1 : y ≤ 999) : ∀ (k : Nat) (f g : Arr), (k : Int) ≤ S.2.2.2.2.2.2.2.1.1 → (∀ j : Nat, j < (cnt S.2.2.2.2.2.2.2.1.2.2.2 k).toNat → g j = f j ∧ 0 ≤ f j ∧ f j ≤ 999) → ∃ f' g' : Arr, g' 0 = f' 0 ∧ (∀ (fuel : Nat) (kx : Ev → Option (Int × Ev)), k < fuel → X0_evaluate_L20 kx S x y fuel ((k : Int) - 1) (f, cnt S.2.2.2.2.2.2.2.1.2.2.2 k) = kx (f', 1)) ∧ ∀ (fuel : Nat) (kx : Arr → Option (Int × Arr × Arr)), k < fuel → X10_value_L45 kx A errors x y fuel (cnt S.2.2.2.2.2.2.2.1.2.2.2 k) ((k : Int) - 1) g = kx g' := by
  have hm := hS.2.2.1.2.1
  have hP := hS.2.2.2.2.2.1
  obtain ⟨h1, h2, h3, h4, h5, h6⟩ := id hP
  intro k
  induction k with
  | zero =>
    intro f g _ hfg
    refine ⟨f, g, (hfg 0 (by show 0 < (1 : Int).toNat; decide)).1, fun fuel kx hf => ?_, fun fuel kx hf => ?_⟩
    · obtain ⟨n, rfl⟩ : ∃ n, fuel = n + 1 := ⟨fuel - 1, by omega⟩
      rw [X0_evaluate_L20, e_LT (by decide) (by decide) (by decide) (by decide), if_pos (by decide)]
      rfl
    · obtain ⟨n, rfl⟩ : ∃ n, fuel = n + 1 := ⟨fuel - 1, by omega⟩
      rw [X10_value_L45, e_LT (by decide) (by decide) (by decide) (by decide), if_pos (by decide)]
  | succ k ih =>
    intro f g hk hfg
    have hkP : k < S.2.2.2.2.2.2.2.1.1.toNat := by omega
    have hN := h4 k hkP
    obtain ⟨n0, n1, n2, n3, n4, n5, n6, n7, n8⟩ := hN.facts hm
    have hc0 := h5 k hkP
    have hcs : cnt S.2.2.2.2.2.2.2.1.2.2.2 (k + 1) = cnt S.2.2.2.2.2.2.2.1.2.2.2 k - 1 + S.2.2.2.2.2.2.2.1.2.2.2 k := rfl
    have hcb := cnt_bd hm hP (S.2.2.2.2.2.2.2.1.1.toNat - (k + 1)) (k + 1) (by omega)
    have hcb' := cnt_bd hm hP (S.2.2.2.2.2.2.2.1.1.toNat - k) k (by omega)
    obtain ⟨a, ha⟩ : ∃ a : Nat, S.2.2.2.2.2.2.2.1.2.2.2 k = (a : Int) := ⟨(S.2.2.2.2.2.2.2.1.2.2.2 k).toNat, by omega⟩
    obtain ⟨tp, htp⟩ : ∃ tp : Nat, cnt S.2.2.2.2.2.2.2.1.2.2.2 (k + 1) = (tp : Int) := ⟨(cnt S.2.2.2.2.2.2.2.1.2.2.2 (k + 1)).toNat, by omega⟩
    have htk : cnt S.2.2.2.2.2.2.2.1.2.2.2 k = ((tp - a + 1 : Nat) : Int) := by omega
    have hfg' : ∀ j : Nat, j < tp → g j = f j ∧ 0 ≤ f j ∧ f j ≤ 999 := fun j hj => hfg j (by omega)
    have ek : ((k + 1 : Nat) : Int) - 1 = (k : Int) := by omega
    have ekn : ((k : Int)).toNat = k := by omega
    -- whatever is pushed
    have push : ∀ v : Int, 0 ≤ v → v ≤ 999 → ∃ f' g' : Arr, g' 0 = f' 0 ∧ (∀ (fuel : Nat) (kx : Ev → Option (Int × Ev)), k < fuel → (X0_push (f, ((tp - a : Nat) : Int)) v).bind (fun q => X0_evaluate_L20 kx S x y fuel ((k : Int) + -1) q) = kx (f', 1)) ∧ ∀ (fuel : Nat) (kx : Arr → Option (Int × Arr × Arr)), k < fuel → wrK 30 g ((tp - a : Nat) : Int) v (fun f20 => X10_value_L45 kx A errors x y fuel (((tp - a : Nat) : Int) + 1) ((k : Int) + -1) f20) = kx g' := by
      intro v v0 v1
      obtain ⟨f', g', r1, r2, r3⟩ := ih (upI f (tp - a) v) (upI g (tp - a) v) (by omega) (fun j hj => by
        have hj' : j < tp - a + 1 := by omega
        by_cases hq : j = tp - a
        · subst hq
          rw [uI_same, uI_same]
          exact ⟨rfl, v0, v1⟩
        · rw [uI_ne hq, uI_ne hq]
          exact hfg' j (by omega))
      refine ⟨f', g', r1, fun fuel kx hf => ?_, fun fuel kx hf => ?_⟩
      · rw [X0_push_eq f (by omega), Option.bind_some, ← htk]
        exact r2 fuel kx hf
      · rw [e_wr (by omega) (by omega), show (((tp - a : Nat) : Int)).toNat = tp - a by omega, show ((tp - a : Nat) : Int) + 1 = ((tp - a + 1 : Nat) : Int) by omega, ← htk]
        exact r3 fuel kx hf
    -- the one side at a leaf, at a call; the other at a node
    have refstep : ∀ (fuel : Nat) (kx : Arr → Option (Int × Arr × Arr)), X10_value_L45 kx A errors x y (fuel + 1) (cnt S.2.2.2.2.2.2.2.1.2.2.2 (k + 1)) (((k + 1 : Nat) : Int) - 1) g = (fun j14 : Int → Option (Int × Arr × Arr) => brEQ (A (149 + k) / 10000) 0 (j14 (A (149 + k) / 10 % 1000)) (brEQ (A (149 + k) / 10000) 1 (j14 x) (j14 y))) (fun q13 => brLE (A (149 + k) / 10000) 2 (rmK q13 1000 (fun v19 => wrK 30 g (tp : Int) v19 (fun f20 => X10_value_L45 kx A errors x y fuel ((tp : Int) + 1) ((k : Int) + -1) f20))) ((X10_function (A (149 + k))).bind (fun v21 => rdK 186 A (v21 + 2) (fun v23 => X10_value_L126 (fun w28 w29 => rmK w29 1000 (fun v19 => wrK 30 g w28 v19 (fun f20 => X10_value_L45 kx A errors x y fuel (w28 + 1) ((k : Int) + -1) f20))) A errors g x y (k : Int) (A (149 + k)) (v21 + 2) FU (tp : Int) v23 0)))) := by
      intro fuel kx
      rw [X10_value_L45, ek, e_LT (by omega) (by omega) (by decide) (by decide), if_neg (by omega), e_rd (by omega) (by omega), show (149 + (k : Int)).toNat = 149 + k by omega]
      simp only [X10_kind_eq n0 (show A (149 + k) ≤ 100000 by omega), X10_which_eq n0 (show A (149 + k) ≤ 100000 by omega), Option.bind_some, e_lt, htp]
    rcases hN with ⟨a1, a2, a3, a4, a5⟩ | ⟨a1, a2, a3, a4⟩ | ⟨a1, a2, a3, a4, a5, a6⟩ | ⟨a1, a2, a3, a4, a5, a6⟩ | ⟨a1, a2, a3, a4, a5, a6⟩
    · -- a number
      have a0 : a = 0 := by omega
      subst a0
      obtain ⟨f', g', r1, r2, r3⟩ := push (S.2.2.2.2.2.2.2.1.2.2.1 k) a2 (by omega)
      refine ⟨f', g', r1, fun fuel kx hf => ?_, fun fuel kx hf => ?_⟩
      · obtain ⟨n, rfl⟩ : ∃ n, fuel = n + 1 := ⟨fuel - 1, by omega⟩
        rw [X0_evaluate_L20, ek, e_LT (by omega) (by omega) (by decide) (by decide), if_neg (by omega), e_rd (by omega) (by omega), ekn, X9_isCall_eq ⟨by omega, by omega⟩, Option.bind_some, e_lt, e_b10, if_neg (by omega), e_rd (by omega) (by omega), ekn, e_EQ (by omega) (by omega) (by decide) (by decide), if_neg (by omega), e_rd (by omega) (by omega), ekn, htp]
        exact r2 n kx (by omega)
      · obtain ⟨n, rfl⟩ : ∃ n, fuel = n + 1 := ⟨fuel - 1, by omega⟩
        have b1 : A (149 + k) / 10000 = 0 := by omega
        have b2 : A (149 + k) / 10 % 1000 = S.2.2.2.2.2.2.2.1.2.2.1 k := by omega
        refine (refstep n kx).trans ?_
        show brEQ (A (149 + k) / 10000) 0 _ _ = _
        rw [b1, e_b0]
        dsimp only
        rw [e_LE (by decide) (by decide) (by decide) (by decide), if_pos (by decide), b2, e_rm (by omega) (by omega), Int.tmod_eq_of_lt a2 (by omega)]
        exact r3 n kx (by omega)
    · -- a variable
      have a0 : a = 0 := by omega
      subst a0
      have hv : 0 ≤ (if S.2.2.2.2.2.2.2.1.2.2.1 k = 0 then x else y) ∧ (if S.2.2.2.2.2.2.2.1.2.2.1 k = 0 then x else y) ≤ 999 := by split <;> omega
      obtain ⟨f', g', r1, r2, r3⟩ := push (if S.2.2.2.2.2.2.2.1.2.2.1 k = 0 then x else y) hv.1 hv.2
      refine ⟨f', g', r1, fun fuel kx hf => ?_, fun fuel kx hf => ?_⟩
      · obtain ⟨n, rfl⟩ : ∃ n, fuel = n + 1 := ⟨fuel - 1, by omega⟩
        rw [X0_evaluate_L20, ek, e_LT (by omega) (by omega) (by decide) (by decide), if_neg (by omega), e_rd (by omega) (by omega), ekn, X9_isCall_eq ⟨by omega, by omega⟩, Option.bind_some, e_lt, e_b10, if_neg (by omega), e_rd (by omega) (by omega), ekn, e_EQ (by omega) (by omega) (by decide) (by decide), if_pos a1, e_rd (by omega) (by omega), ekn, e_lt, e_EQ (by omega) (by omega) (by decide) (by decide), htp]
        have hr := r2 n kx (by omega)
        by_cases hq : S.2.2.2.2.2.2.2.1.2.2.1 k = 0
        · rw [if_pos hq] at hr ⊢
          exact hr
        · rw [if_neg hq] at hr ⊢
          exact hr
      · obtain ⟨n, rfl⟩ : ∃ n, fuel = n + 1 := ⟨fuel - 1, by omega⟩
        have hr := r3 n kx (by omega)
        refine (refstep n kx).trans ?_
        show brEQ (A (149 + k) / 10000) 0 _ _ = _
        by_cases hq : S.2.2.2.2.2.2.2.1.2.2.1 k = 0
        · have b1 : A (149 + k) / 10000 = 1 := by omega
          rw [if_pos hq] at hr
          rw [b1, e_b1, e_EQ (by decide) (by decide) (by decide) (by decide), if_pos rfl]
          dsimp only
          rw [e_LE (by decide) (by decide) (by decide) (by decide), if_pos (by decide), e_rm (by omega) (by omega), Int.tmod_eq_of_lt hx0 (by omega)]
          exact hr
        · have b1 : A (149 + k) / 10000 = 2 := by omega
          rw [if_neg hq] at hr
          rw [b1, e_EQ (by decide) (by decide) (by decide) (by decide), if_neg (by decide), e_EQ (by decide) (by decide) (by decide) (by decide), if_neg (by decide)]
          dsimp only
          rw [e_LE (by decide) (by decide) (by decide) (by decide), if_pos (by decide), e_rm (by omega) (by omega), Int.tmod_eq_of_lt hy0 (by omega)]
          exact hr
    all_goals
      obtain ⟨nm, hnm⟩ : ∃ nm : Nat, S.2.2.2.2.2.2.2.1.2.2.1 k = (nm : Int) := ⟨(S.2.2.2.2.2.2.2.1.2.2.1 k).toNat, by omega⟩
      have hargs : X10_arguments (A (149 + k)) = some (a : Int) := by rw [X10_arguments_eq n0 (by omega), n2, ha]
      have hb2 : A (149 + k) / 10 % 1000 = (nm : Int) := by omega
      have hle : ¬ (A (149 + k) / 10000 ≤ 2) := by omega
    · -- an old function's call
      have b1 : A (149 + k) / 10000 = 3 := by omega
      obtain ⟨s, s0, s1, s2, s3⟩ := call_sim (T := S.1) (cn := 6) (nm := nm) (by decide) (by omega) (A := A) (at0 := 0 + 7 * nm) (by omega) (hS.1 nm (by omega)).2.2.2.2.2 (f := f) (g := g) (errors := errors) (x1 := x) (x2 := y) (x4 := (k : Int)) (a := a) (tp := tp) (by omega) hargs (by omega) (by omega) hfg'
      obtain ⟨f', g', r1, r2, r3⟩ := push (s % 1000) (by omega) (by omega)
      refine ⟨f', g', r1, fun fuel kx hf => ?_, fun fuel kx hf => ?_⟩
      · obtain ⟨n, rfl⟩ : ∃ n, fuel = n + 1 := ⟨fuel - 1, by omega⟩
        rw [X0_evaluate_L20, ek, e_LT (by omega) (by omega) (by decide) (by decide), if_neg (by omega), e_rd (by omega) (by omega), ekn, X9_isCall_eq ⟨by omega, by omega⟩, Option.bind_some, e_lt, e_b10, if_pos (by omega), e_rd (by omega) (by omega), ekn, X8_tableOf_eq _ ⟨by omega, by omega⟩, Option.bind_some, if_pos a1, sel3_0, e_rd (by omega) (by omega), e_rd (by omega) (by omega), ekn, hnm, ha, htp, s2, Option.bind_some]
        exact r2 n kx (by omega)
      · obtain ⟨n, rfl⟩ : ∃ n, fuel = n + 1 := ⟨fuel - 1, by omega⟩
        have hfn : X10_function (A (149 + k)) = some (((0 + 7 * nm : Nat) : Int)) := by
          unfold X10_function
          rw [X10_kind_eq n0 (by omega), Option.bind_some, b1, e_EQ (by decide) (by decide) (by decide) (by decide), if_pos rfl, X10_which_eq n0 (by omega), Option.bind_some, hb2]
          exact congrArg some (by omega)
        refine (refstep n kx).trans ?_
        show brEQ (A (149 + k) / 10000) 0 _ _ = _
        rw [b1, e_EQ (by decide) (by decide) (by decide) (by decide), if_neg (by decide), e_EQ (by decide) (by decide) (by decide) (by decide), if_neg (by decide)]
        dsimp only
        rw [e_LE (by decide) (by decide) (by decide) (by decide), if_neg (by decide), hfn, Option.bind_some]
        refine (s3 _).trans ?_
        rw [e_rm (by omega) (by omega), Int.tmod_eq_emod_of_nonneg s0]
        exact r3 n kx (by omega)
    · -- a new function's call
      have b1 : A (149 + k) / 10000 = 4 := by omega
      obtain ⟨s, s0, s1, s2, s3⟩ := call_sim (T := S.2.1) (cn := 6) (nm := nm) (by decide) (by omega) (A := A) (at0 := 42 + 7 * nm) (by omega) (hS.2.1 nm (by omega)).2.2.2.2.2 (f := f) (g := g) (errors := errors) (x1 := x) (x2 := y) (x4 := (k : Int)) (a := a) (tp := tp) (by omega) hargs (by omega) (by omega) hfg'
      obtain ⟨f', g', r1, r2, r3⟩ := push (s % 1000) (by omega) (by omega)
      refine ⟨f', g', r1, fun fuel kx hf => ?_, fun fuel kx hf => ?_⟩
      · obtain ⟨n, rfl⟩ : ∃ n, fuel = n + 1 := ⟨fuel - 1, by omega⟩
        rw [X0_evaluate_L20, ek, e_LT (by omega) (by omega) (by decide) (by decide), if_neg (by omega), e_rd (by omega) (by omega), ekn, X9_isCall_eq ⟨by omega, by omega⟩, Option.bind_some, e_lt, e_b10, if_pos (by omega), e_rd (by omega) (by omega), ekn, X8_tableOf_eq _ ⟨by omega, by omega⟩, Option.bind_some, if_neg (by omega), if_pos a1, sel3_1, e_rd (by omega) (by omega), e_rd (by omega) (by omega), ekn, hnm, ha, htp, s2, Option.bind_some]
        exact r2 n kx (by omega)
      · obtain ⟨n, rfl⟩ : ∃ n, fuel = n + 1 := ⟨fuel - 1, by omega⟩
        have hfn : X10_function (A (149 + k)) = some (((42 + 7 * nm : Nat) : Int)) := by
          unfold X10_function
          rw [X10_kind_eq n0 (by omega), Option.bind_some, b1, e_EQ (by decide) (by decide) (by decide) (by decide), if_neg (by decide), Option.bind_some, e_EQ (by decide) (by decide) (by decide) (by decide), if_pos rfl, X10_which_eq n0 (by omega), Option.bind_some, hb2]
          exact congrArg some (by omega)
        refine (refstep n kx).trans ?_
        show brEQ (A (149 + k) / 10000) 0 _ _ = _
        rw [b1, e_EQ (by decide) (by decide) (by decide) (by decide), if_neg (by decide), e_EQ (by decide) (by decide) (by decide) (by decide), if_neg (by decide)]
        dsimp only
        rw [e_LE (by decide) (by decide) (by decide) (by decide), if_neg (by decide), hfn, Option.bind_some]
        refine (s3 _).trans ?_
        rw [e_rm (by omega) (by omega), Int.tmod_eq_emod_of_nonneg s0]
        exact r3 n kx (by omega)
    · -- an adapter's call
      have b1 : A (149 + k) / 10000 = 5 := by omega
      obtain ⟨s, s0, s1, s2, s3⟩ := call_sim (T := S.2.2.1) (cn := 4) (nm := nm) (by decide) (by omega) (A := A) (at0 := 84 + 8 * nm) (by omega) (hS.2.2.1.2.2.2.1 nm (by omega)).2.2.2.2.2 (f := f) (g := g) (errors := errors) (x1 := x) (x2 := y) (x4 := (k : Int)) (a := a) (tp := tp) (by omega) hargs (by omega) (by omega) hfg'
      obtain ⟨f', g', r1, r2, r3⟩ := push (s % 1000) (by omega) (by omega)
      refine ⟨f', g', r1, fun fuel kx hf => ?_, fun fuel kx hf => ?_⟩
      · obtain ⟨n, rfl⟩ : ∃ n, fuel = n + 1 := ⟨fuel - 1, by omega⟩
        rw [X0_evaluate_L20, ek, e_LT (by omega) (by omega) (by decide) (by decide), if_neg (by omega), e_rd (by omega) (by omega), ekn, X9_isCall_eq ⟨by omega, by omega⟩, Option.bind_some, e_lt, e_b10, if_pos (by omega), e_rd (by omega) (by omega), ekn, X8_tableOf_eq _ ⟨by omega, by omega⟩, Option.bind_some, if_neg (by omega), if_neg (by omega), sel3_2, e_rd (by omega) (by omega), e_rd (by omega) (by omega), ekn, hnm, ha, htp, s2, Option.bind_some]
        exact r2 n kx (by omega)
      · obtain ⟨n, rfl⟩ : ∃ n, fuel = n + 1 := ⟨fuel - 1, by omega⟩
        have hfn : X10_function (A (149 + k)) = some (((84 + 8 * nm : Nat) : Int)) := by
          unfold X10_function
          rw [X10_kind_eq n0 (by omega), Option.bind_some, b1, e_EQ (by decide) (by decide) (by decide) (by decide), if_neg (by decide), Option.bind_some, e_EQ (by decide) (by decide) (by decide) (by decide), if_neg (by decide), X10_which_eq n0 (by omega), Option.bind_some, hb2]
          exact congrArg some (by omega)
        refine (refstep n kx).trans ?_
        show brEQ (A (149 + k) / 10000) 0 _ _ = _
        rw [b1, e_EQ (by decide) (by decide) (by decide) (by decide), if_neg (by decide), e_EQ (by decide) (by decide) (by decide) (by decide), if_neg (by decide)]
        dsimp only
        rw [e_LE (by decide) (by decide) (by decide) (by decide), if_neg (by decide), hfn, Option.bind_some]
        refine (s3 _).trans ?_
        rw [e_rm (by omega) (by omega), Int.tmod_eq_emod_of_nonneg s0]
        exact r3 n kx (by omega)
theorem sim_value (i : Int) (C : CM) (M : MT) (p1 p2 : Int) (_ : 0 ≤ i) (_ : i ≤ 2048) (hR : REL i C M) (g1 : Rg p1) (g2 : Rg p2) : ∃ (r : Int) (C' : CM) (M' : MT), cm_value C p1 p2 = some (r, C') ∧ rm_value M p1 p2 = some (r, M') ∧ REL (i + 4) C' M' := by
  by_cases c1 : 0 ≤ p1 ∧ p1 ≤ 999
  · by_cases c2 : 0 ≤ p2 ∧ p2 ≤ 999
    · obtain ⟨hS, hH, hI, hE⟩ := hR
      have hsz := hS.size
      have hP := hS.2.2.2.2.2.1
      have hz : cnt C.1.2.2.2.2.2.2.2.1.2.2.2 C.1.2.2.2.2.2.2.2.1.1.toNat = 0 := hP.2.2.2.2.2
      obtain ⟨f', g', r1, r2, r3⟩ := eval_loop hS M.2.2.2.1 c1.1 c1.2 c2.1 c2.2 C.1.2.2.2.2.2.2.2.1.1.toNat C.2.2.2.2.2.1.1 M.2.2.2.2.2.2.2.2.2.2.2.2.2.2.2.2.2.2.2.2.1 (by omega) (fun j hj => by rw [hz] at hj; exact absurd hj (Nat.not_lt_zero j))
      rw [hz] at r2 r3
      have es : ((C.1.2.2.2.2.2.2.2.1.1.toNat : Nat) : Int) - 1 = C.1.2.2.2.2.2.2.2.1.1 - 1 := by omega
      rw [es] at r2 r3
      refine ⟨f' 0, (C.1, C.2.1, C.2.2.1, C.2.2.2.1, C.2.2.2.2.1, (f', 0), C.2.2.2.2.2.2), (M.1, M.2.1, M.2.2.1, M.2.2.2.1, M.2.2.2.2.1, M.2.2.2.2.2.1, M.2.2.2.2.2.2.1, M.2.2.2.2.2.2.2.1, M.2.2.2.2.2.2.2.2.1, M.2.2.2.2.2.2.2.2.2.1, M.2.2.2.2.2.2.2.2.2.2.1, M.2.2.2.2.2.2.2.2.2.2.2.1, M.2.2.2.2.2.2.2.2.2.2.2.2.1, M.2.2.2.2.2.2.2.2.2.2.2.2.2.1, M.2.2.2.2.2.2.2.2.2.2.2.2.2.2.1, M.2.2.2.2.2.2.2.2.2.2.2.2.2.2.2.1, M.2.2.2.2.2.2.2.2.2.2.2.2.2.2.2.2.1, M.2.2.2.2.2.2.2.2.2.2.2.2.2.2.2.2.2.1, M.2.2.2.2.2.2.2.2.2.2.2.2.2.2.2.2.2.2.1, M.2.2.2.2.2.2.2.2.2.2.2.2.2.2.2.2.2.2.2.1, g', M.2.2.2.2.2.2.2.2.2.2.2.2.2.2.2.2.2.2.2.2.2), ?_, ?_, hS, hH, hI, hE.mono⟩
      · unfold cm_value X9_value X0_evaluate
        rw [wi9 g1 (by decide) (by decide) (by decide) (by decide), Option.bind_some, e_b10, if_pos c1, wi9 g2 (by decide) (by decide) (by decide) (by decide), Option.bind_some, e_b10, if_pos c2, r2 FU _ (by rw [FU_eq]; omega)]
        rfl
      · unfold rm_value X10_value
        rw [lg9 g1, in10 g1 (by decide) (by decide) (by decide) (by decide), Option.bind_some, e_b10, if_pos c1, lg9 g2, in10 g2 (by decide) (by decide) (by decide) (by decide), Option.bind_some, e_b10, if_pos c2, e_rd (by decide) (by decide), show ((148 : Int)).toNat = 148 from rfl, hP.2.2.1, r3 FU _ (by rw [FU_eq]; omega), e_rd (by decide) (by decide), show ((0 : Int)).toNat = 0 from rfl, r1]
        rfl
    · refine ⟨-2, _, _, ?_, ?_, rel_ref hR (code := -2) (by decide) (by decide)⟩
      · unfold cm_value X9_value
        rw [wi9 g1 (by decide) (by decide) (by decide) (by decide), Option.bind_some, e_b10, if_pos c1, wi9 g2 (by decide) (by decide) (by decide) (by decide), Option.bind_some, e_b10, if_neg c2, ref_eq C (by decide) (by decide)]
      · unfold rm_value X10_value
        rw [lg9 g1, in10 g1 (by decide) (by decide) (by decide) (by decide), Option.bind_some, e_b10, if_pos c1, lg9 g2, in10 g2 (by decide) (by decide) (by decide) (by decide), Option.bind_some, e_b10, if_neg c2, X10_error_eq _ (by decide) (by decide)]
        rfl
  · refine ⟨-2, _, _, ?_, ?_, rel_ref hR (code := -2) (by decide) (by decide)⟩
    · unfold cm_value X9_value
      rw [wi9 g1 (by decide) (by decide) (by decide) (by decide), Option.bind_some, e_b10, if_neg c1, ref_eq C (by decide) (by decide)]
    · unfold rm_value X10_value
      rw [lg9 g1, in10 g1 (by decide) (by decide) (by decide) (by decide), Option.bind_some, e_b10, if_neg c1, X10_error_eq _ (by decide) (by decide)]
      rfl
