/-! the relation without the program and the outcomes, for the middle of a migration; the rows on faithful mappings once more over it -/
def RQ (S : St) (A : Arr) : Prop := RF S.1 A 0 7 6 3 ∧ RF S.2.1 A 42 7 6 4 ∧ RAd S.2.2.1 S.2.2.2.1 S.2.2.2.2.1 A ∧ (A 147 = S.2.2.2.2.2.1 ∧ (S.2.2.2.2.2.1 = 0 ∨ S.2.2.2.2.2.1 = 1)) ∧ RMp S.2.2.2.2.2.2.1 A ∧ True
section QF
variable {S : St} {A : Arr} {f t : Nat}
theorem q_csum_bd (hS : RQ S A) (hf : f < 6) (ht : t < 6) : ∀ n : Nat, n ≤ 4 → 0 ≤ csum S f t n ∧ csum S f t n ≤ 9801 * n := by
  intro n
  induction n with
  | zero => intro _; exact ⟨Int.le_refl _, Int.le_refl _⟩
  | succ p ih =>
    intro hp
    obtain ⟨i1, i2⟩ := ih (by omega)
    obtain ⟨-, -, -, m4⟩ := hS.2.2.2.2.1 f hf
    obtain ⟨-, -, -, -, -, n6⟩ := hS.2.1 t ht
    obtain ⟨-, b1, b2⟩ := n6 (1 + p) (by omega)
    rw [← Nat.add_assoc] at b1 b2
    show 0 ≤ csum S f t p + _ ∧ csum S f t p + _ ≤ 9801 * ((p : Int) + 1)
    rcases m4 p (by omega) with ⟨c1, c2, c3, -⟩ | ⟨c1, c2, -⟩
    · rw [if_pos c1]
      have q1 := Int.mul_nonneg b1 c2
      have q2 : S.2.1.2.2 (5 * t + 1 + p) * S.2.2.2.2.2.2.1.2.2 (4 * f + p) ≤ 99 * 99 := Int.mul_le_mul b2 c3 c2 (by decide)
      omega
    · rw [if_neg (by omega)]
      omega
theorem q_cosum_bd (hS : RQ S A) (hf : f < 6) (ht : t < 6) (s : Int) : ∀ n : Nat, n ≤ 4 → 0 ≤ cosum S f t s n ∧ cosum S f t s n ≤ 99 * n := by
  intro n
  induction n with
  | zero => intro _; exact ⟨Int.le_refl _, Int.le_refl _⟩
  | succ p ih =>
    intro hp
    obtain ⟨i1, i2⟩ := ih (by omega)
    obtain ⟨-, -, -, -, -, n6⟩ := hS.2.1 t ht
    obtain ⟨-, b1, b2⟩ := n6 (1 + p) (by omega)
    rw [← Nat.add_assoc] at b1 b2
    show 0 ≤ cosum S f t s p + _ ∧ cosum S f t s p + _ ≤ 99 * ((p : Int) + 1)
    by_cases h : S.2.2.2.2.2.2.1.2.1 (4 * f + p) = s
    · rw [if_pos h]; omega
    · rw [if_neg h]; omega
theorem q_src_bd (hS : RQ S A) (hf : f < 6) {p : Nat} (hp : p < 4) : -1 ≤ S.2.2.2.2.2.2.1.2.1 (4 * f + p) ∧ S.2.2.2.2.2.2.1.2.1 (4 * f + p) ≤ 2 := by
  obtain ⟨-, -, -, m4⟩ := hS.2.2.2.2.1 f hf
  rcases m4 p hp with ⟨c1, -⟩ | ⟨c1, c2, -⟩ <;> omega
theorem q_oar_eq (hS : RQ S A) (hf : f < 6) : X1_arityOf 6 S.1 (f : Int) = some (S.1.1 f) := by
  rw [X1_arityOf_eq (by decide) _ ⟨by omega, by omega⟩, if_pos (by omega)]
  congr 2
theorem q_oar_bd (hS : RQ S A) (hf : f < 6) : 0 ≤ S.1.1 f ∧ S.1.1 f ≤ 3 := ⟨(hS.1 f hf).2.1, (hS.1 f hf).2.2.1⟩
theorem q_wf_loop (hS : RQ S A) (hf : f < 6) {u : Nat} (hu : u ≤ 4) : ∀ (m fuel y : Nat), y + m = u → m < fuel → (wfm S f y u → X8_isWellFormed_L2 (some 0) S (f : Int) (u : Int) fuel (y : Int) = some 1) ∧ (¬ wfm S f y u → X8_isWellFormed_L2 (some 0) S (f : Int) (u : Int) fuel (y : Int) = some 0) := by
  intro m
  induction m with
  | zero =>
    intro fuel y h1 h2
    obtain ⟨k, rfl⟩ : ∃ k, fuel = k + 1 := ⟨fuel - 1, by omega⟩
    refine ⟨fun _ => ?_, fun h => absurd (fun p a b => absurd b (by omega)) h⟩
    rw [X8_isWellFormed_L2, e_LT (by omega) (by omega) (by omega) (by omega), if_neg (by omega)]
  | succ m ih =>
    intro fuel y h1 h2
    obtain ⟨k, rfl⟩ : ∃ k, fuel = k + 1 := ⟨fuel - 1, by omega⟩
    obtain ⟨i1, i2⟩ := ih k (y + 1) (by omega) (by omega)
    have sb := q_src_bd hS hf (p := y) (by omega)
    have ob := q_oar_bd hS hf
    have step : X8_isWellFormed_L2 (some 0) S (f : Int) (u : Int) (k + 1) (y : Int) = if S.2.2.2.2.2.2.1.2.1 (4 * f + y) < S.1.1 f then X8_isWellFormed_L2 (some 0) S (f : Int) (u : Int) k ((y + 1 : Nat) : Int) else some 0 := by
      rw [X8_isWellFormed_L2, e_LT (by omega) (by omega) (by omega) (by omega), if_pos (by omega), X4_sourceAt_eq _ (by omega) (by omega) (by omega) (by omega), Option.bind_some, q_oar_eq hS hf, Option.bind_some]
      have e : 4 * ((f : Int)).toNat + ((y : Int)).toNat = 4 * f + y := by omega
      rw [e, e_LT (by omega) (by omega) (by omega) (by omega)]
      rfl
    rw [step]
    by_cases hw : S.2.2.2.2.2.2.1.2.1 (4 * f + y) < S.1.1 f
    · rw [if_pos hw]
      refine ⟨fun h => i1 (fun p a b => h p (by omega) b), fun h => i2 (fun h' => h (fun p a b => ?_))⟩
      by_cases hp : p = y
      · subst hp; exact hw
      · exact h' p (by omega) b
    · rw [if_neg hw]
      exact ⟨fun h => absurd (h y (Nat.le_refl _) (by omega)) hw, fun _ => rfl⟩
theorem q_kc_loop (hS : RQ S A) (hf : f < 6) (ht : t < 6) (kx : Int → Option Int) {u : Nat} (hu : u ≤ 4) : ∀ (m fuel y : Nat) (s : Int), y + m = u → m < fuel → X8_keepsConstant_L23 kx S (f : Int) (u : Int) (t : Int) fuel s (y : Int) = kx (s + (csum S f t u - csum S f t y)) := by
  intro m
  induction m with
  | zero =>
    intro fuel y s h1 h2
    obtain ⟨k, rfl⟩ : ∃ k, fuel = k + 1 := ⟨fuel - 1, by omega⟩
    rw [X8_keepsConstant_L23, e_LT (by omega) (by omega) (by omega) (by omega), if_neg (by omega), show y = u by omega]
    congr 1
    omega
  | succ m ih =>
    intro fuel y s h1 h2
    obtain ⟨k, rfl⟩ : ∃ k, fuel = k + 1 := ⟨fuel - 1, by omega⟩
    have sb := q_src_bd hS hf (p := y) (by omega)
    have e : 4 * ((f : Int)).toNat + ((y : Int)).toNat = 4 * f + y := by omega
    have e2 : 5 * ((t : Int)).toNat + ((y : Int) + 1).toNat = 5 * t + 1 + y := by omega
    have e3 : (y : Int) + 1 = ((y + 1 : Nat) : Int) := by omega
    have hc : csum S f t (y + 1) = csum S f t y + (if S.2.2.2.2.2.2.1.2.1 (4 * f + y) = -1 then S.2.1.2.2 (5 * t + 1 + y) * S.2.2.2.2.2.2.1.2.2 (4 * f + y) else 0) := rfl
    rw [X8_keepsConstant_L23, e_LT (by omega) (by omega) (by omega) (by omega), if_pos (by omega), X4_sourceAt_eq _ (by omega) (by omega) (by omega) (by omega), Option.bind_some, e_lt, e, e_EQ (by omega) (by omega) (by decide) (by decide)]
    by_cases hq : S.2.2.2.2.2.2.1.2.1 (4 * f + y) = -1
    · rw [if_pos hq, X1_term_eq (by decide) _ (by omega) (by omega) (by omega) (by omega), Option.bind_some, X4_constantAt_eq _ (by omega) (by omega) (by omega) (by omega), Option.bind_some, e, e2, e3]
      refine (ih k (y + 1) _ (by omega) (by omega)).trans ?_
      rw [hc, if_pos hq]
      congr 1
      omega
    · rw [if_neg hq, e3]
      refine (ih k (y + 1) _ (by omega) (by omega)).trans ?_
      rw [hc, if_neg hq]
      congr 1
      omega
theorem q_co_loop (hS : RQ S A) (hf : f < 6) (ht : t < 6) (kx : Int → Option Int) {u x : Nat} (hu : u ≤ 4) (hx : x ≤ 3) : ∀ (m fuel y : Nat) (s : Int), y + m = u → m < fuel → X8_keepsCoefficients_L31 kx S (f : Int) (u : Int) (t : Int) (x : Int) fuel s (y : Int) = kx (s + (cosum S f t x u - cosum S f t x y)) := by
  intro m
  induction m with
  | zero =>
    intro fuel y s h1 h2
    obtain ⟨k, rfl⟩ : ∃ k, fuel = k + 1 := ⟨fuel - 1, by omega⟩
    rw [X8_keepsCoefficients_L31, e_LT (by omega) (by omega) (by omega) (by omega), if_neg (by omega), show y = u by omega]
    congr 1
    omega
  | succ m ih =>
    intro fuel y s h1 h2
    obtain ⟨k, rfl⟩ : ∃ k, fuel = k + 1 := ⟨fuel - 1, by omega⟩
    have sb := q_src_bd hS hf (p := y) (by omega)
    have e : 4 * ((f : Int)).toNat + ((y : Int)).toNat = 4 * f + y := by omega
    have e2 : 5 * ((t : Int)).toNat + ((y : Int) + 1).toNat = 5 * t + 1 + y := by omega
    have e3 : (y : Int) + 1 = ((y + 1 : Nat) : Int) := by omega
    have hc : cosum S f t x (y + 1) = cosum S f t x y + (if S.2.2.2.2.2.2.1.2.1 (4 * f + y) = (x : Int) then S.2.1.2.2 (5 * t + 1 + y) else 0) := rfl
    rw [X8_keepsCoefficients_L31, e_LT (by omega) (by omega) (by omega) (by omega), if_pos (by omega), X4_sourceAt_eq _ (by omega) (by omega) (by omega) (by omega), Option.bind_some, e_lt, e, e_EQ (by omega) (by omega) (by omega) (by omega)]
    by_cases hq : S.2.2.2.2.2.2.1.2.1 (4 * f + y) = (x : Int)
    · rw [if_pos hq, X1_term_eq (by decide) _ (by omega) (by omega) (by omega) (by omega), Option.bind_some, e2, e3]
      refine (ih k (y + 1) _ (by omega) (by omega)).trans ?_
      rw [hc, if_pos hq]
      congr 1
      omega
    · rw [if_neg hq, e3]
      refine (ih k (y + 1) _ (by omega) (by omega)).trans ?_
      rw [hc, if_neg hq]
      congr 1
      omega
theorem q_kco_loop (hS : RQ S A) (hf : f < 6) (ht : t < 6) {u : Nat} (hu : u ≤ 4) : ∀ (m fuel y : Nat), (y : Int) + m = S.1.1 f → m < fuel → (cof S f t u y → X8_keepsCoefficients_L12 (some 1) S (f : Int) (u : Int) (t : Int) fuel (y : Int) = some 1) ∧ (¬ cof S f t u y → X8_keepsCoefficients_L12 (some 1) S (f : Int) (u : Int) (t : Int) fuel (y : Int) = some 0) := by
  have ob := q_oar_bd hS hf
  intro m
  induction m with
  | zero =>
    intro fuel y h1 h2
    obtain ⟨k, rfl⟩ : ∃ k, fuel = k + 1 := ⟨fuel - 1, by omega⟩
    refine ⟨fun _ => ?_, fun h => absurd (fun s a b => absurd b (by omega)) h⟩
    rw [X8_keepsCoefficients_L12, q_oar_eq hS hf, Option.bind_some, e_LT (by omega) (by omega) (by omega) (by omega), if_neg (by omega)]
  | succ m ih =>
    intro fuel y h1 h2
    obtain ⟨k, rfl⟩ : ∃ k, fuel = k + 1 := ⟨fuel - 1, by omega⟩
    obtain ⟨i1, i2⟩ := ih k (y + 1) (by omega) (by omega)
    have cb := q_cosum_bd hS hf ht (y : Int) u hu
    obtain ⟨-, -, -, -, -, o6⟩ := hS.1 f hf
    obtain ⟨-, t1, t2⟩ := o6 (1 + y) (by omega)
    rw [← Nat.add_assoc] at t1 t2
    have e2 : 5 * ((f : Int)).toNat + ((y : Int) + 1).toNat = 5 * f + 1 + y := by omega
    have e3 : (y : Int) + 1 = ((y + 1 : Nat) : Int) := by omega
    have hmod : (cosum S f t y u).tmod 1000 = cosum S f t y u := Int.tmod_eq_of_lt cb.1 (by omega)
    have h00 : (0 : Int) + (cosum S f t (y : Int) u - cosum S f t (y : Int) 0) = cosum S f t y u := by show (0 : Int) + (_ - 0) = _; omega
    have step : X8_keepsCoefficients_L12 (some 1) S (f : Int) (u : Int) (t : Int) (k + 1) (y : Int) = if cosum S f t y u = S.1.2.2 (5 * f + 1 + y) then X8_keepsCoefficients_L12 (some 1) S (f : Int) (u : Int) (t : Int) k ((y + 1 : Nat) : Int) else some 0 := by
      rw [X8_keepsCoefficients_L12, q_oar_eq hS hf, Option.bind_some, e_LT (by omega) (by omega) (by omega) (by omega), if_pos (by omega)]
      have hl := q_co_loop hS hf ht (fun w11 => rmK w11 1000 (fun v12 => (X1_term 6 S.1 (f : Int) (y : Int)).bind (fun v13 => brEQ v12 v13 (X8_keepsCoefficients_L12 (some 1) S (f : Int) (u : Int) (t : Int) k ((y : Int) + 1)) (some 0)))) hu (x := y) (by omega) u FU 0 0 (by omega) (by rw [FU_eq]; omega)
      refine hl.trans ?_
      show rmK (0 + (cosum S f t (y : Int) u - cosum S f t (y : Int) 0)) 1000 _ = _
      rw [h00, e_rm (by omega) (by omega), hmod, X1_term_eq (by decide) _ (by omega) (by omega) (by omega) (by omega), Option.bind_some, e2, e_EQ (by omega) (by omega) (by omega) (by omega), e3]
    rw [step]
    by_cases hw : cosum S f t y u = S.1.2.2 (5 * f + 1 + y)
    · rw [if_pos hw]
      refine ⟨fun h => i1 (fun s a b => h s (by omega) b), fun h => i2 (fun h' => h (fun s a b => ?_))⟩
      by_cases hs : s = y
      · subst hs; exact hw
      · exact h' s (by omega) b
    · rw [if_neg hw]
      exact ⟨fun h => absurd (h y (Nat.le_refl _) (by omega)) hw, fun _ => rfl⟩
theorem q_X8_keepsMeaning_spec {S : St} {A : Arr} (hS : RQ S A) {f t : Nat} (hf : f < 6) (ht : t < 6) (hft : S.2.2.2.2.2.2.1.1 f = (t : Int)) : (faith S f t → X8_keepsMeaning S (f : Int) = some 1) ∧ (¬ faith S f t → X8_keepsMeaning S (f : Int) = some 0) := by
  have ef : ((f : Int)).toNat = f := by omega
  obtain ⟨-, u0, u4, -, -, n6⟩ := hS.2.1 t ht
  obtain ⟨u, hu⟩ : ∃ u : Nat, S.2.1.1 t = (u : Int) := ⟨(S.2.1.1 t).toNat, by omega⟩
  have hu4 : u ≤ 4 := by omega
  have eu : (S.2.1.1 t).toNat = u := by omega
  have ob := q_oar_bd hS hf
  have q1 : X4_targetOf S.2.2.2.2.2.2.1 (f : Int) = some (t : Int) := by rw [X4_targetOf_eq _ (by omega) (by omega), ef, hft]
  have q2 : X8_usedEntries S (f : Int) = some (u : Int) := by
    unfold X8_usedEntries
    rw [q1, Option.bind_some, X1_arityOf_eq (by decide) _ ⟨by omega, by omega⟩, if_pos (by omega), Option.bind_some, show ((t : Int)).toNat = t by omega, hu]
  have w1 := q_wf_loop hS hf hu4 u FU 0 (by omega) (by rw [FU_eq]; omega)
  have cb := q_csum_bd hS hf ht u hu4
  obtain ⟨-, tz0, tz1⟩ := n6 0 (by omega)
  rw [Nat.add_zero] at tz0 tz1
  obtain ⟨-, -, -, -, -, o6⟩ := hS.1 f hf
  obtain ⟨-, oz0, oz1⟩ := o6 0 (by omega)
  rw [Nat.add_zero] at oz0 oz1
  have k1 : X8_keepsConstant S (f : Int) (u : Int) = some (if (S.2.1.2.2 (5 * t) + csum S f t u).tmod 1000 = S.1.2.2 (5 * f) then 1 else 0) := by
    unfold X8_keepsConstant
    have e1 : 5 * ((t : Int)).toNat + ((-1 : Int) + 1).toNat = 5 * t := by omega
    have e2 : 5 * ((f : Int)).toNat + ((-1 : Int) + 1).toNat = 5 * f := by omega
    rw [q1, Option.bind_some, X1_term_eq (by decide) _ (by omega) (by omega) (by decide) (by decide), Option.bind_some, e1]
    refine (q_kc_loop hS hf ht _ hu4 u FU 0 _ (by omega) (by rw [FU_eq]; omega)).trans ?_
    have h00 : S.2.1.2.2 (5 * t) + (csum S f t u - csum S f t 0) = S.2.1.2.2 (5 * t) + csum S f t u := by show _ + (_ - (0 : Int)) = _; omega
    rw [h00, e_rm (by omega) (by omega), X1_term_eq (by decide) _ (by omega) (by omega) (by decide) (by decide), Option.bind_some, e2]
    have m1 := Int.tmod_nonneg (1000 : Int) (show 0 ≤ S.2.1.2.2 (5 * t) + csum S f t u by omega)
    have m2 := Int.tmod_lt_of_pos (S.2.1.2.2 (5 * t) + csum S f t u) (show (0 : Int) < 1000 by decide)
    rw [e_EQ (by omega) (by omega) (by omega) (by omega)]
    split <;> rfl
  have c1 := q_kco_loop hS hf ht hu4 (S.1.1 f).toNat FU 0 (by omega) (by rw [FU_eq]; omega)
  have k2 : X8_keepsCoefficients S (f : Int) (u : Int) = X8_keepsCoefficients_L12 (some 1) S (f : Int) (u : Int) (t : Int) FU 0 := by
    unfold X8_keepsCoefficients
    rw [q1, Option.bind_some]
  unfold faith X8_keepsMeaning
  rw [eu, q2, Option.bind_some, q1, Option.bind_some, e_EQ (by omega) (by omega) (by decide) (by decide), if_neg (by omega)]
  by_cases a1 : wfm S f 0 u
  · have r1 : X8_isWellFormed S (f : Int) (u : Int) = some 1 := w1.1 a1
    rw [r1, Option.bind_some, e_b1, k1, Option.bind_some, e_b10]
    by_cases a2 : (S.2.1.2.2 (5 * t) + csum S f t u).tmod 1000 = S.1.2.2 (5 * f)
    · rw [if_pos a2, k2]
      by_cases a3 : cof S f t u 0
      · have r3 := c1.1 a3
        refine ⟨fun _ => ?_, fun h => absurd ⟨a1, a2, a3⟩ h⟩
        show (X8_keepsCoefficients_L12 (some 1) S (f : Int) (u : Int) (t : Int) FU ((0 : Nat) : Int)).bind _ = _
        rw [r3, Option.bind_some, e_b1]
      · have r3 := c1.2 a3
        refine ⟨fun h => absurd h.2.2 a3, fun _ => ?_⟩
        show (X8_keepsCoefficients_L12 (some 1) S (f : Int) (u : Int) (t : Int) FU ((0 : Nat) : Int)).bind _ = _
        rw [r3, Option.bind_some, e_b0]
    · rw [if_neg a2]
      exact ⟨fun h => absurd h.2.1 a2, fun _ => rfl⟩
  · have r1 : X8_isWellFormed S (f : Int) (u : Int) = some 0 := w1.2 a1
    rw [r1, Option.bind_some, e_b0]
    exact ⟨fun h => absurd h.1 a1, fun _ => rfl⟩
theorem q_X10_used_eq (hS : RQ S A) (hf : f < 6) (ht : t < 6) (hft : S.2.2.2.2.2.2.1.1 f = (t : Int)) : X10_used A (f : Int) = some (S.2.1.1 t) := by
  unfold X10_used
  rw [X10_newOf_eq A hf, Option.bind_some, (hS.2.2.2.2.1 f hf).1, hft, e_rd (by omega) (by omega), show (42 + 7 * (t : Int) + 0).toNat = 42 + 7 * t by omega, (hS.2.1 t ht).1]
theorem q_it_loop (hS : RQ S A) (hf : f < 6) (ht : t < 6) (kx : Int → Option Int) {u : Nat} (hu : u ≤ 4) : ∀ (m fuel y : Nat) (s : Int), y + m = u → m < fuel → (wfm S f y u → X10_isTrue_L31 kx A (f : Int) (42 + 7 * (t : Int)) (u : Int) fuel s (y : Int) = kx (s + (csum S f t u - csum S f t y))) ∧ (¬ wfm S f y u → X10_isTrue_L31 kx A (f : Int) (42 + 7 * (t : Int)) (u : Int) fuel s (y : Int) = some 0) := by
  have ob := q_oar_bd hS hf
  intro m
  induction m with
  | zero =>
    intro fuel y s h1 h2
    obtain ⟨k, rfl⟩ : ∃ k, fuel = k + 1 := ⟨fuel - 1, by omega⟩
    refine ⟨fun _ => ?_, fun h => absurd (fun p a b => absurd b (by omega)) h⟩
    rw [X10_isTrue_L31, e_LT (by omega) (by omega) (by omega) (by omega), if_neg (by omega), show y = u by omega]
    congr 1
    omega
  | succ m ih =>
    intro fuel y s h1 h2
    obtain ⟨k, rfl⟩ : ∃ k, fuel = k + 1 := ⟨fuel - 1, by omega⟩
    have e3 : (y : Int) + 1 = ((y + 1 : Nat) : Int) := by omega
    have hc : csum S f t (y + 1) = csum S f t y + (if S.2.2.2.2.2.2.1.2.1 (4 * f + y) = -1 then S.2.1.2.2 (5 * t + 1 + y) * S.2.2.2.2.2.2.1.2.2 (4 * f + y) else 0) := rfl
    obtain ⟨-, -, -, m4⟩ := hS.2.2.2.2.1 f hf
    obtain ⟨-, -, -, -, -, n6⟩ := hS.2.1 t ht
    obtain ⟨b0, b1, b2⟩ := n6 (1 + y) (by omega)
    rw [← Nat.add_assoc, show 5 * t + (1 + y) = 5 * t + 1 + y by omega] at b0
    rw [← Nat.add_assoc] at b1 b2
    rw [X10_isTrue_L31, e_LT (by omega) (by omega) (by omega) (by omega), if_pos (by omega), X10_entry_eq A hf (by omega), Option.bind_some, e_lt, e_lt, e3]
    rcases m4 y (by omega) with ⟨c1, c2, c3, c4⟩ | ⟨c1, c2, c4⟩
    · obtain ⟨i1, i2⟩ := ih k (y + 1) (s + S.2.1.2.2 (5 * t + 1 + y) * (100 + S.2.2.2.2.2.2.1.2.2 (4 * f + y) - 100)) (by omega) (by omega)
      have hw : wfm S f y u ↔ wfm S f (y + 1) u := by
        refine ⟨fun h p a b => h p (by omega) b, fun h p a b => ?_⟩
        by_cases hp : p = y
        · subst hp; rw [c1]; omega
        · exact h p (by omega) b
      rw [c4, e_LT (by omega) (by omega) (by decide) (by decide), if_neg (by omega), e_LT (by omega) (by omega) (by decide) (by decide), if_neg (by omega), e_rd (by omega) (by omega), show (42 + 7 * (t : Int) + 2 + 1 + (y : Int)).toNat = 42 + 7 * t + 2 + 1 + y by omega, b0, hw]
      refine ⟨fun h => (i1 h).trans ?_, i2⟩
      rw [hc, if_pos c1]
      congr 1
      have : (100 + S.2.2.2.2.2.2.1.2.2 (4 * f + y) - 100) = S.2.2.2.2.2.2.1.2.2 (4 * f + y) := by omega
      rw [this]
      omega
    · obtain ⟨i1, i2⟩ := ih k (y + 1) (s + 0) (by omega) (by omega)
      rw [c4, e_LT (by omega) (by omega) (by decide) (by decide), if_pos (by omega), e_LT (by omega) (by omega) (by decide) (by decide), if_pos (by omega), e_rd (by omega) (by omega), show (0 + 7 * (f : Int) + 0).toNat = 0 + 7 * f by omega, (hS.1 f hf).1, e_LT (by omega) (by omega) (by omega) (by omega)]
      by_cases hq : S.2.2.2.2.2.2.1.2.1 (4 * f + y) < S.1.1 f
      · rw [if_pos hq]
        have hw : wfm S f y u ↔ wfm S f (y + 1) u := by
          refine ⟨fun h p a b => h p (by omega) b, fun h p a b => ?_⟩
          by_cases hp : p = y
          · subst hp; exact hq
          · exact h p (by omega) b
        rw [hw]
        refine ⟨fun h => (i1 h).trans ?_, i2⟩
        rw [hc, if_neg (by omega)]
        congr 1
        omega
      · rw [if_neg hq]
        exact ⟨fun h => absurd (h y (Nat.le_refl _) (by omega)) hq, fun _ => rfl⟩
theorem q_is_loop (hS : RQ S A) (hf : f < 6) (ht : t < 6) (kx : Int → Option Int) {u x : Nat} (hu : u ≤ 4) (hx : x ≤ 2) (z : Int) : ∀ (m fuel y : Nat) (s : Int), y + m = u → m < fuel → X10_isTrue_L168 kx A (f : Int) (42 + 7 * (t : Int)) (u : Int) z (x : Int) fuel s (y : Int) = kx (s + (cosum S f t x u - cosum S f t x y)) := by
  intro m
  induction m with
  | zero =>
    intro fuel y s h1 h2
    obtain ⟨k, rfl⟩ : ∃ k, fuel = k + 1 := ⟨fuel - 1, by omega⟩
    rw [X10_isTrue_L168, e_LT (by omega) (by omega) (by omega) (by omega), if_neg (by omega), show y = u by omega]
    congr 1
    omega
  | succ m ih =>
    intro fuel y s h1 h2
    obtain ⟨k, rfl⟩ : ∃ k, fuel = k + 1 := ⟨fuel - 1, by omega⟩
    have e3 : (y : Int) + 1 = ((y + 1 : Nat) : Int) := by omega
    have hc : cosum S f t x (y + 1) = cosum S f t x y + (if S.2.2.2.2.2.2.1.2.1 (4 * f + y) = (x : Int) then S.2.1.2.2 (5 * t + 1 + y) else 0) := rfl
    obtain ⟨-, -, -, m4⟩ := hS.2.2.2.2.1 f hf
    obtain ⟨-, -, -, -, -, n6⟩ := hS.2.1 t ht
    obtain ⟨b0, b1, b2⟩ := n6 (1 + y) (by omega)
    rw [← Nat.add_assoc, show 5 * t + (1 + y) = 5 * t + 1 + y by omega] at b0
    rw [← Nat.add_assoc] at b1 b2
    have he : A (118 + 5 * f + y) = (x : Int) ↔ S.2.2.2.2.2.2.1.2.1 (4 * f + y) = (x : Int) := by
      rcases m4 y (by omega) with ⟨c1, c2, c3, c4⟩ | ⟨c1, c2, c4⟩ <;> rw [c4] <;> omega
    have hb : -2147483648 ≤ A (118 + 5 * f + y) ∧ A (118 + 5 * f + y) ≤ 2147483647 := by
      rcases m4 y (by omega) with ⟨c1, c2, c3, c4⟩ | ⟨c1, c2, c4⟩ <;> rw [c4] <;> omega
    rw [X10_isTrue_L168, e_LT (by omega) (by omega) (by omega) (by omega), if_pos (by omega), X10_entry_eq A hf (by omega), Option.bind_some, e_lt, e3, e_EQ hb.1 hb.2 (by omega) (by omega)]
    by_cases hq : S.2.2.2.2.2.2.1.2.1 (4 * f + y) = (x : Int)
    · rw [if_pos (he.mpr hq), e_rd (by omega) (by omega), show (42 + 7 * (t : Int) + 2 + 1 + (y : Int)).toNat = 42 + 7 * t + 2 + 1 + y by omega, b0]
      refine (ih k (y + 1) _ (by omega) (by omega)).trans ?_
      rw [hc, if_pos hq]
      congr 1
      omega
    · rw [if_neg (fun h => hq (he.mp h))]
      refine (ih k (y + 1) _ (by omega) (by omega)).trans ?_
      rw [hc, if_neg hq]
      congr 1
      omega
theorem q_ico_loop (hS : RQ S A) (hf : f < 6) (ht : t < 6) (kx : Int → Option Int) {u : Nat} (hu : u ≤ 4) : ∀ (m fuel y : Nat) (z : Int), (y : Int) + m = S.1.1 f → m < fuel → (z = 0 ∨ z = 1) → (z = 1 ∧ cof S f t u y → X10_isTrue_L144 kx A (f : Int) (42 + 7 * (t : Int)) (u : Int) fuel z (y : Int) = kx 1) ∧ (¬ (z = 1 ∧ cof S f t u y) → X10_isTrue_L144 kx A (f : Int) (42 + 7 * (t : Int)) (u : Int) fuel z (y : Int) = kx 0) := by
  have ob := q_oar_bd hS hf
  intro m
  induction m with
  | zero =>
    intro fuel y z h1 h2 hz
    obtain ⟨k, rfl⟩ : ∃ k, fuel = k + 1 := ⟨fuel - 1, by omega⟩
    have ht0 : cof S f t u y := fun s a b => absurd b (by omega)
    have step : X10_isTrue_L144 kx A (f : Int) (42 + 7 * (t : Int)) (u : Int) (k + 1) z (y : Int) = kx z := by
      rw [X10_isTrue_L144, e_rd (by omega) (by omega), show (0 + 7 * (f : Int) + 0).toNat = 0 + 7 * f by omega, (hS.1 f hf).1, e_LT (by omega) (by omega) (by omega) (by omega), if_neg (by omega)]
    rw [step]
    refine ⟨fun h => by rw [h.1], fun h => ?_⟩
    rcases hz with rfl | rfl
    · rfl
    · exact absurd ⟨rfl, ht0⟩ h
  | succ m ih =>
    intro fuel y z h1 h2 hz
    obtain ⟨k, rfl⟩ : ∃ k, fuel = k + 1 := ⟨fuel - 1, by omega⟩
    have cb := q_cosum_bd hS hf ht (y : Int) u hu
    obtain ⟨-, -, -, -, -, o6⟩ := hS.1 f hf
    obtain ⟨t0, t1, t2⟩ := o6 (1 + y) (by omega)
    rw [← Nat.add_assoc, show 5 * f + (1 + y) = 5 * f + 1 + y by omega] at t0
    rw [← Nat.add_assoc] at t1 t2
    have e3 : (y : Int) + 1 = ((y + 1 : Nat) : Int) := by omega
    have h00 : (0 : Int) + (cosum S f t (y : Int) u - cosum S f t (y : Int) 0) = cosum S f t y u := by show (0 : Int) + (_ - 0) = _; omega
    have step : X10_isTrue_L144 kx A (f : Int) (42 + 7 * (t : Int)) (u : Int) (k + 1) z (y : Int) = X10_isTrue_L144 kx A (f : Int) (42 + 7 * (t : Int)) (u : Int) k (if z = 1 ∧ cosum S f t y u = S.1.2.2 (5 * f + 1 + y) then 1 else 0) ((y + 1 : Nat) : Int) := by
      rw [X10_isTrue_L144, e_rd (by omega) (by omega), show (0 + 7 * (f : Int) + 0).toNat = 0 + 7 * f by omega, (hS.1 f hf).1, e_LT (by omega) (by omega) (by omega) (by omega), if_pos (by omega)]
      refine (q_is_loop hS hf ht _ hu (x := y) (by omega) z u FU 0 0 (by omega) (by rw [FU_eq]; omega)).trans ?_
      rw [h00, e_lt, e_lt, e3]
      rcases hz with rfl | rfl
      · rw [e_b0, if_neg (by omega)]
      · rw [e_b1, e_rd (by omega) (by omega), show (0 + 7 * (f : Int) + 2 + 1 + (y : Int)).toNat = 0 + 7 * f + 2 + 1 + y by omega, t0, e_EQ (by omega) (by omega) (by omega) (by omega)]
        by_cases hq : cosum S f t y u = S.1.2.2 (5 * f + 1 + y)
        · rw [if_pos hq, if_pos ⟨rfl, hq⟩]
        · rw [if_neg hq, if_neg (fun h => hq h.2)]
    rw [step]
    by_cases hw : z = 1 ∧ cosum S f t y u = S.1.2.2 (5 * f + 1 + y)
    · rw [if_pos hw]
      obtain ⟨i1, i2⟩ := ih k (y + 1) 1 (by omega) (by omega) (Or.inr rfl)
      refine ⟨fun h => i1 ⟨rfl, fun s a b => h.2 s (by omega) b⟩, fun h => i2 (fun h' => h ⟨hw.1, fun s a b => ?_⟩)⟩
      by_cases hs : s = y
      · subst hs; exact hw.2
      · exact h'.2 s (by omega) b
    · rw [if_neg hw]
      obtain ⟨i1, i2⟩ := ih k (y + 1) 0 (by omega) (by omega) (Or.inl rfl)
      exact ⟨fun h => absurd ⟨h.1, h.2 y (Nat.le_refl _) (by omega)⟩ hw, fun _ => i2 (fun h => absurd h.1 (by decide))⟩
theorem q_X10_isTrue_spec (hS : RQ S A) (hf : f < 6) (ht : t < 6) (hft : S.2.2.2.2.2.2.1.1 f = (t : Int)) : (faith S f t → X10_isTrue A (f : Int) = some 1) ∧ (¬ faith S f t → X10_isTrue A (f : Int) = some 0) := by
  obtain ⟨-, u0, u4, -, -, n6⟩ := hS.2.1 t ht
  obtain ⟨u, hu⟩ : ∃ u : Nat, S.2.1.1 t = (u : Int) := ⟨(S.2.1.1 t).toNat, by omega⟩
  have hu4 : u ≤ 4 := by omega
  have eu : (S.2.1.1 t).toNat = u := by omega
  have ob := q_oar_bd hS hf
  have cb := q_csum_bd hS hf ht u hu4
  obtain ⟨tz, tz0, tz1⟩ := n6 0 (by omega)
  simp only [Nat.add_zero] at tz tz0 tz1
  obtain ⟨-, -, -, -, -, o6⟩ := hS.1 f hf
  obtain ⟨oz, oz0, oz1⟩ := o6 0 (by omega)
  simp only [Nat.add_zero] at oz oz0 oz1
  have w1 := q_it_loop hS hf ht (fun w14 => rmK w14 1000 (fun v15 => rdK 186 A ((0 + (7 * (f : Int))) + 2) (fun v16 => ltK (fun q17 : Int => X10_isTrue_L144 (fun w31 => boK w31 (some w31)) A (f : Int) (42 + (7 * (t : Int))) (u : Int) FU q17 0) (fun j18 => brEQ v15 v16 (j18 1) (j18 0))))) hu4 u FU 0 (S.2.1.2.2 (5 * t)) (by omega) (by rw [FU_eq]; omega)
  have h00 : S.2.1.2.2 (5 * t) + (csum S f t u - csum S f t 0) = S.2.1.2.2 (5 * t) + csum S f t u := by show _ + (_ - (0 : Int)) = _; omega
  rw [h00] at w1
  have m1 := Int.tmod_nonneg (1000 : Int) (show 0 ≤ S.2.1.2.2 (5 * t) + csum S f t u by omega)
  have m2 := Int.tmod_lt_of_pos (S.2.1.2.2 (5 * t) + csum S f t u) (show (0 : Int) < 1000 by decide)
  have c1 := q_ico_loop hS hf ht (fun w31 => boK w31 (some w31)) hu4 (S.1.1 f).toNat FU 0
  have start : X10_isTrue A (f : Int) = X10_isTrue_L31 (fun w14 => rmK w14 1000 (fun v15 => rdK 186 A ((0 + (7 * (f : Int))) + 2) (fun v16 => ltK (fun q17 : Int => X10_isTrue_L144 (fun w31 => boK w31 (some w31)) A (f : Int) (42 + (7 * (t : Int))) (u : Int) FU q17 0) (fun j18 => brEQ v15 v16 (j18 1) (j18 0))))) A (f : Int) (42 + 7 * (t : Int)) (u : Int) FU (S.2.1.2.2 (5 * t)) 0 := by
    unfold X10_isTrue
    rw [X10_newOf_eq A hf, Option.bind_some, (hS.2.2.2.2.1 f hf).1, hft, e_rd (by omega) (by omega), q_X10_used_eq hS hf ht hft, Option.bind_some, hu, show (42 + 7 * (t : Int) + 2).toNat = 42 + 7 * t + 2 by omega, tz]
  rw [start]
  unfold faith
  rw [eu]
  by_cases a1 : wfm S f 0 u
  · have r1 := w1.1 a1
    have mid : ∀ z : Int, (z = 0 ∨ z = 1) → ∀ w : Int, (w = 0 ∨ w = 1) → boK w (some w) = some w := fun _ _ w hw => e_bo' hw
    have r2 : X10_isTrue_L31 (fun w14 => rmK w14 1000 (fun v15 => rdK 186 A ((0 + (7 * (f : Int))) + 2) (fun v16 => ltK (fun q17 : Int => X10_isTrue_L144 (fun w31 => boK w31 (some w31)) A (f : Int) (42 + (7 * (t : Int))) (u : Int) FU q17 0) (fun j18 => brEQ v15 v16 (j18 1) (j18 0))))) A (f : Int) (42 + 7 * (t : Int)) (u : Int) FU (S.2.1.2.2 (5 * t)) 0 = X10_isTrue_L144 (fun w31 => boK w31 (some w31)) A (f : Int) (42 + (7 * (t : Int))) (u : Int) FU (if (S.2.1.2.2 (5 * t) + csum S f t u).tmod 1000 = S.1.2.2 (5 * f) then 1 else 0) ((0 : Nat) : Int) := by
      refine Eq.trans r1 ?_
      rw [e_rm (by omega) (by omega), e_rd (by omega) (by omega), show (0 + 7 * (f : Int) + 2).toNat = 0 + 7 * f + 2 by omega, oz, e_lt, e_EQ (by omega) (by omega) (by omega) (by omega)]
      by_cases hq : (S.2.1.2.2 (5 * t) + csum S f t u).tmod 1000 = S.1.2.2 (5 * f)
      · rw [if_pos hq, if_pos hq]; rfl
      · rw [if_neg hq, if_neg hq]; rfl
    rw [r2]
    by_cases a2 : (S.2.1.2.2 (5 * t) + csum S f t u).tmod 1000 = S.1.2.2 (5 * f)
    · rw [if_pos a2]
      obtain ⟨i1, i2⟩ := c1 1 (by omega) (by rw [FU_eq]; omega) (Or.inr rfl)
      refine ⟨fun h => (i1 ⟨rfl, h.2.2⟩).trans (e_bo' (Or.inr rfl)), fun h => (i2 (fun h' => h ⟨a1, a2, h'.2⟩)).trans (e_bo' (Or.inl rfl))⟩
    · rw [if_neg a2]
      obtain ⟨i1, i2⟩ := c1 0 (by omega) (by rw [FU_eq]; omega) (Or.inl rfl)
      exact ⟨fun h => absurd h.2.1 a2, fun h => (i2 (fun h' => absurd h'.1 (by decide))).trans (e_bo' (Or.inl rfl))⟩
  · refine ⟨fun h => absurd h.1 a1, fun _ => w1.2 a1⟩
theorem q_faith_sim (hS : RQ S A) (hf : f < 6) (ht : t < 6) (hft : S.2.2.2.2.2.2.1.1 f = (t : Int)) : ∃ r : Int, (r = 0 ∨ r = 1) ∧ X8_keepsMeaning S (f : Int) = some r ∧ X10_isTrue A (f : Int) = some r := by
  by_cases h : faith S f t
  · exact ⟨1, Or.inr rfl, (q_X8_keepsMeaning_spec hS hf ht hft).1 h, (q_X10_isTrue_spec hS hf ht hft).1 h⟩
  · exact ⟨0, Or.inl rfl, (q_X8_keepsMeaning_spec hS hf ht hft).2 h, (q_X10_isTrue_spec hS hf ht hft).2 h⟩
theorem q_tgt_bd {S : St} {A : Arr} (hS : RQ S A) {f : Nat} (hf : f < 6) : A (117 + 5 * f) = S.2.2.2.2.2.2.1.1 f ∧ -1 ≤ S.2.2.2.2.2.2.1.1 f ∧ S.2.2.2.2.2.2.1.1 f ≤ 5 := ⟨(hS.2.2.2.2.1 f hf).1, (hS.2.2.2.2.1 f hf).2.1, (hS.2.2.2.2.1 f hf).2.2.1⟩
theorem q_X10_adapter_eq {S : St} {A : Arr} (hS : RQ S A) {f : Nat} (hf : f < 6) : X10_adapter A (f : Int) = some (S.2.2.2.2.1 f) := by
  have h := hS.2.2.1
  obtain ⟨a1, a2, a3, a4, a5, a6⟩ := id h
  refine (ad_loop h hf (fun w5 => some w5) S.2.2.2.1.toNat FU 0 (-1) (by omega) (by rw [FU_eq]; omega)).trans ?_
  rcases a6 f hf with ⟨q1, -⟩ | ⟨q1, q2, -⟩
  · rw [if_neg (by omega), q1]
  · rw [if_pos (by omega)]
theorem q_adn_bd {S : St} {A : Arr} (hS : RQ S A) {f : Nat} (hf : f < 6) : -1 ≤ S.2.2.2.2.1 f ∧ S.2.2.2.2.1 f ≤ 3 := by
  obtain ⟨a1, a2, a3, a4, a5, a6⟩ := hS.2.2.1
  rcases a6 f hf with ⟨q1, -⟩ | ⟨q1, q2, -⟩ <;> omega
end QF
