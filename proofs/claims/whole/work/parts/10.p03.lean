/-! pure: faithful mappings -/
theorem RAd.congrA {T : FT} {m : Int} {N A B : Arr} (h : RAd T m N A) (hA : ∀ j : Nat, 84 ≤ j → j ≤ 116 → B j = A j) : RAd T m N B := by
  obtain ⟨a1, a2, a3, a4, a5, a6⟩ := h
  refine ⟨a1, a2, by rw [hA 116 (by omega) (by omega)]; exact a3, a4.congr (fun j h1 h2 => hA j h1 (by omega)) (by decide) agr.rfl, fun k hk => by rw [hA (91 + 8 * k) (by omega) (by omega)]; exact a5 k hk, fun f hf => ?_⟩
  rcases a6 f hf with ⟨q1, q2⟩ | ⟨q1, q2, q3⟩
  · exact Or.inl ⟨q1, fun k hk => by rw [hA (91 + 8 * k) (by omega) (by omega)]; exact q2 k hk⟩
  · exact Or.inr ⟨q1, q2, fun k hk => by rw [hA (91 + 8 * k) (by omega) (by omega)]; exact q3 k hk⟩
theorem RMp.congrA {P : Mp} {A B : Arr} (h : RMp P A) (hA : ∀ j : Nat, 117 ≤ j → j ≤ 146 → B j = A j) : RMp P B := by
  intro f hf
  obtain ⟨m1, m2, m3, m4⟩ := h f hf
  refine ⟨by rw [hA (117 + 5 * f) (by omega) (by omega)]; exact m1, m2, m3, fun p hp => ?_⟩
  rw [hA (118 + 5 * f + p) (by omega) (by omega)]
  exact m4 p hp
theorem RPg.congrA {P : Pg} {m : Int} {A B : Arr} (h : RPg P m A) (hA : ∀ j : Nat, 148 ≤ j → j ≤ 178 → B j = A j) : RPg P m B := by
  obtain ⟨h1, h2, h3, h4, h5, h6⟩ := h
  refine ⟨h1, h2, by rw [hA 148 (by omega) (by omega)]; exact h3, fun i hi => ?_, h5, h6⟩
  rw [hA (149 + i) (by omega) (by omega)]
  exact h4 i hi
theorem ROut.congrA {O A B : Arr} (h : ROut O A) (hA : ∀ j : Nat, 179 ≤ j → j ≤ 185 → B j = A j) : ROut O B := fun r h1 h7 => by
  rw [hA (178 + r) (by omega) (by omega)]
  exact h r h1 h7
section Faith
variable (S : St) (f t : Nat)
/-- the sum of the constants' part, and of a source's part, over the first n entries -/
def csum : Nat → Int
  | 0 => 0
  | p + 1 => csum p + (if S.2.2.2.2.2.2.1.2.1 (4 * f + p) = -1 then S.2.1.2.2 (5 * t + 1 + p) * S.2.2.2.2.2.2.1.2.2 (4 * f + p) else 0)
def cosum (s : Int) : Nat → Int
  | 0 => 0
  | p + 1 => cosum s p + (if S.2.2.2.2.2.2.1.2.1 (4 * f + p) = s then S.2.1.2.2 (5 * t + 1 + p) else 0)
def wfm (y u : Nat) : Prop := ∀ p : Nat, y ≤ p → p < u → S.2.2.2.2.2.2.1.2.1 (4 * f + p) < S.1.1 f
end Faith
theorem all2 (P : Nat → Prop) (h0 : P 0) (h1 : P 1) (h2 : P 2) (h3 : P 3) : ∀ p : Nat, p < 4 → P p := by
  intro p hp
  rcases lt4 hp with rfl | rfl | rfl | rfl
  · exact h0
  · exact h1
  · exact h2
  · exact h3
section Faith2
variable {S : St} {A : Arr} {f t : Nat}
theorem csum_bd (hS : RS S A) (hf : f < 6) (ht : t < 6) : ∀ n : Nat, n ≤ 4 → 0 ≤ csum S f t n ∧ csum S f t n ≤ 9801 * n := by
  intro n
  induction n with
  | zero => intro _; exact ⟨Int.le_refl _, Int.le_refl _⟩
  | succ p ih =>
    intro hp
    obtain ⟨i1, i2⟩ := ih (by omega)
    obtain ⟨-, -, -, m4⟩ := hS.2.2.2.2.1 f hf
    obtain ⟨-, -, -, -, -, n6⟩ := hS.2.1 t ht
    obtain ⟨-, b1, b2⟩ := n6 (1 + p) (by omega)
    rw [← Nat.add_assoc] at b1 b2
    show 0 ≤ csum S f t p + _ ∧ csum S f t p + _ ≤ 9801 * ((p : Int) + 1)
    rcases m4 p (by omega) with ⟨c1, c2, c3, -⟩ | ⟨c1, c2, -⟩
    · rw [if_pos c1]
      have q1 := Int.mul_nonneg b1 c2
      have q2 : S.2.1.2.2 (5 * t + 1 + p) * S.2.2.2.2.2.2.1.2.2 (4 * f + p) ≤ 99 * 99 := Int.mul_le_mul b2 c3 c2 (by decide)
      omega
    · rw [if_neg (by omega)]
      omega
theorem cosum_bd (hS : RS S A) (hf : f < 6) (ht : t < 6) (s : Int) : ∀ n : Nat, n ≤ 4 → 0 ≤ cosum S f t s n ∧ cosum S f t s n ≤ 99 * n := by
  intro n
  induction n with
  | zero => intro _; exact ⟨Int.le_refl _, Int.le_refl _⟩
  | succ p ih =>
    intro hp
    obtain ⟨i1, i2⟩ := ih (by omega)
    obtain ⟨-, -, -, -, -, n6⟩ := hS.2.1 t ht
    obtain ⟨-, b1, b2⟩ := n6 (1 + p) (by omega)
    rw [← Nat.add_assoc] at b1 b2
    show 0 ≤ cosum S f t s p + _ ∧ cosum S f t s p + _ ≤ 99 * ((p : Int) + 1)
    by_cases h : S.2.2.2.2.2.2.1.2.1 (4 * f + p) = s
    · rw [if_pos h]; omega
    · rw [if_neg h]; omega
theorem src_bd (hS : RS S A) (hf : f < 6) {p : Nat} (hp : p < 4) : -1 ≤ S.2.2.2.2.2.2.1.2.1 (4 * f + p) ∧ S.2.2.2.2.2.2.1.2.1 (4 * f + p) ≤ 2 := by
  obtain ⟨-, -, -, m4⟩ := hS.2.2.2.2.1 f hf
  rcases m4 p hp with ⟨c1, -⟩ | ⟨c1, c2, -⟩ <;> omega
theorem oar_eq (hS : RS S A) (hf : f < 6) : X1_arityOf 6 S.1 (f : Int) = some (S.1.1 f) := by
  rw [X1_arityOf_eq (by decide) _ ⟨by omega, by omega⟩, if_pos (by omega)]
  congr 2
theorem oar_bd (hS : RS S A) (hf : f < 6) : 0 ≤ S.1.1 f ∧ S.1.1 f ≤ 3 := ⟨(hS.1 f hf).2.1, (hS.1 f hf).2.2.1⟩
theorem wf_loop (hS : RS S A) (hf : f < 6) {u : Nat} (hu : u ≤ 4) : ∀ (m fuel y : Nat), y + m = u → m < fuel → (wfm S f y u → X8_isWellFormed_L2 (some 0) S (f : Int) (u : Int) fuel (y : Int) = some 1) ∧ (¬ wfm S f y u → X8_isWellFormed_L2 (some 0) S (f : Int) (u : Int) fuel (y : Int) = some 0) := by
  intro m
  induction m with
  | zero =>
    intro fuel y h1 h2
    obtain ⟨k, rfl⟩ : ∃ k, fuel = k + 1 := ⟨fuel - 1, by omega⟩
    refine ⟨fun _ => ?_, fun h => absurd (fun p a b => absurd b (by omega)) h⟩
    rw [X8_isWellFormed_L2, e_LT (by omega) (by omega) (by omega) (by omega), if_neg (by omega)]
  | succ m ih =>
    intro fuel y h1 h2
    obtain ⟨k, rfl⟩ : ∃ k, fuel = k + 1 := ⟨fuel - 1, by omega⟩
    obtain ⟨i1, i2⟩ := ih k (y + 1) (by omega) (by omega)
    have sb := src_bd hS hf (p := y) (by omega)
    have ob := oar_bd hS hf
    have step : X8_isWellFormed_L2 (some 0) S (f : Int) (u : Int) (k + 1) (y : Int) = if S.2.2.2.2.2.2.1.2.1 (4 * f + y) < S.1.1 f then X8_isWellFormed_L2 (some 0) S (f : Int) (u : Int) k ((y + 1 : Nat) : Int) else some 0 := by
      rw [X8_isWellFormed_L2, e_LT (by omega) (by omega) (by omega) (by omega), if_pos (by omega), X4_sourceAt_eq _ (by omega) (by omega) (by omega) (by omega), Option.bind_some, oar_eq hS hf, Option.bind_some]
      have e : 4 * ((f : Int)).toNat + ((y : Int)).toNat = 4 * f + y := by omega
      rw [e, e_LT (by omega) (by omega) (by omega) (by omega)]
      rfl
    rw [step]
    by_cases hw : S.2.2.2.2.2.2.1.2.1 (4 * f + y) < S.1.1 f
    · rw [if_pos hw]
      refine ⟨fun h => i1 (fun p a b => h p (by omega) b), fun h => i2 (fun h' => h (fun p a b => ?_))⟩
      by_cases hp : p = y
      · subst hp; exact hw
      · exact h' p (by omega) b
    · rw [if_neg hw]
      exact ⟨fun h => absurd (h y (Nat.le_refl _) (by omega)) hw, fun _ => rfl⟩
theorem kc_loop (hS : RS S A) (hf : f < 6) (ht : t < 6) (kx : Int → Option Int) {u : Nat} (hu : u ≤ 4) : ∀ (m fuel y : Nat) (s : Int), y + m = u → m < fuel → X8_keepsConstant_L23 kx S (f : Int) (u : Int) (t : Int) fuel s (y : Int) = kx (s + (csum S f t u - csum S f t y)) := by
  intro m
  induction m with
  | zero =>
    intro fuel y s h1 h2
    obtain ⟨k, rfl⟩ : ∃ k, fuel = k + 1 := ⟨fuel - 1, by omega⟩
    rw [X8_keepsConstant_L23, e_LT (by omega) (by omega) (by omega) (by omega), if_neg (by omega), show y = u by omega]
    congr 1
    omega
  | succ m ih =>
    intro fuel y s h1 h2
    obtain ⟨k, rfl⟩ : ∃ k, fuel = k + 1 := ⟨fuel - 1, by omega⟩
    have sb := src_bd hS hf (p := y) (by omega)
    have e : 4 * ((f : Int)).toNat + ((y : Int)).toNat = 4 * f + y := by omega
    have e2 : 5 * ((t : Int)).toNat + ((y : Int) + 1).toNat = 5 * t + 1 + y := by omega
    have e3 : (y : Int) + 1 = ((y + 1 : Nat) : Int) := by omega
    have hc : csum S f t (y + 1) = csum S f t y + (if S.2.2.2.2.2.2.1.2.1 (4 * f + y) = -1 then S.2.1.2.2 (5 * t + 1 + y) * S.2.2.2.2.2.2.1.2.2 (4 * f + y) else 0) := rfl
    rw [X8_keepsConstant_L23, e_LT (by omega) (by omega) (by omega) (by omega), if_pos (by omega), X4_sourceAt_eq _ (by omega) (by omega) (by omega) (by omega), Option.bind_some, e_lt, e, e_EQ (by omega) (by omega) (by decide) (by decide)]
    by_cases hq : S.2.2.2.2.2.2.1.2.1 (4 * f + y) = -1
    · rw [if_pos hq, X1_term_eq (by decide) _ (by omega) (by omega) (by omega) (by omega), Option.bind_some, X4_constantAt_eq _ (by omega) (by omega) (by omega) (by omega), Option.bind_some, e, e2, e3]
      refine (ih k (y + 1) _ (by omega) (by omega)).trans ?_
      rw [hc, if_pos hq]
      congr 1
      omega
    · rw [if_neg hq, e3]
      refine (ih k (y + 1) _ (by omega) (by omega)).trans ?_
      rw [hc, if_neg hq]
      congr 1
      omega
theorem co_loop (hS : RS S A) (hf : f < 6) (ht : t < 6) (kx : Int → Option Int) {u x : Nat} (hu : u ≤ 4) (hx : x ≤ 3) : ∀ (m fuel y : Nat) (s : Int), y + m = u → m < fuel → X8_keepsCoefficients_L31 kx S (f : Int) (u : Int) (t : Int) (x : Int) fuel s (y : Int) = kx (s + (cosum S f t x u - cosum S f t x y)) := by
  intro m
  induction m with
  | zero =>
    intro fuel y s h1 h2
    obtain ⟨k, rfl⟩ : ∃ k, fuel = k + 1 := ⟨fuel - 1, by omega⟩
    rw [X8_keepsCoefficients_L31, e_LT (by omega) (by omega) (by omega) (by omega), if_neg (by omega), show y = u by omega]
    congr 1
    omega
  | succ m ih =>
    intro fuel y s h1 h2
    obtain ⟨k, rfl⟩ : ∃ k, fuel = k + 1 := ⟨fuel - 1, by omega⟩
    have sb := src_bd hS hf (p := y) (by omega)
    have e : 4 * ((f : Int)).toNat + ((y : Int)).toNat = 4 * f + y := by omega
    have e2 : 5 * ((t : Int)).toNat + ((y : Int) + 1).toNat = 5 * t + 1 + y := by omega
    have e3 : (y : Int) + 1 = ((y + 1 : Nat) : Int) := by omega
    have hc : cosum S f t x (y + 1) = cosum S f t x y + (if S.2.2.2.2.2.2.1.2.1 (4 * f + y) = (x : Int) then S.2.1.2.2 (5 * t + 1 + y) else 0) := rfl
    rw [X8_keepsCoefficients_L31, e_LT (by omega) (by omega) (by omega) (by omega), if_pos (by omega), X4_sourceAt_eq _ (by omega) (by omega) (by omega) (by omega), Option.bind_some, e_lt, e, e_EQ (by omega) (by omega) (by omega) (by omega)]
    by_cases hq : S.2.2.2.2.2.2.1.2.1 (4 * f + y) = (x : Int)
    · rw [if_pos hq, X1_term_eq (by decide) _ (by omega) (by omega) (by omega) (by omega), Option.bind_some, e2, e3]
      refine (ih k (y + 1) _ (by omega) (by omega)).trans ?_
      rw [hc, if_pos hq]
      congr 1
      omega
    · rw [if_neg hq, e3]
      refine (ih k (y + 1) _ (by omega) (by omega)).trans ?_
      rw [hc, if_neg hq]
      congr 1
      omega
/-- every coefficient from y on is kept -/
def cof (S : St) (f t u y : Nat) : Prop := ∀ s : Nat, y ≤ s → (s : Int) < S.1.1 f → cosum S f t s u = S.1.2.2 (5 * f + 1 + s)
theorem kco_loop (hS : RS S A) (hf : f < 6) (ht : t < 6) {u : Nat} (hu : u ≤ 4) : ∀ (m fuel y : Nat), (y : Int) + m = S.1.1 f → m < fuel → (cof S f t u y → X8_keepsCoefficients_L12 (some 1) S (f : Int) (u : Int) (t : Int) fuel (y : Int) = some 1) ∧ (¬ cof S f t u y → X8_keepsCoefficients_L12 (some 1) S (f : Int) (u : Int) (t : Int) fuel (y : Int) = some 0) := by
  have ob := oar_bd hS hf
  intro m
  induction m with
  | zero =>
    intro fuel y h1 h2
    obtain ⟨k, rfl⟩ : ∃ k, fuel = k + 1 := ⟨fuel - 1, by omega⟩
    refine ⟨fun _ => ?_, fun h => absurd (fun s a b => absurd b (by omega)) h⟩
    rw [X8_keepsCoefficients_L12, oar_eq hS hf, Option.bind_some, e_LT (by omega) (by omega) (by omega) (by omega), if_neg (by omega)]
  | succ m ih =>
    intro fuel y h1 h2
    obtain ⟨k, rfl⟩ : ∃ k, fuel = k + 1 := ⟨fuel - 1, by omega⟩
    obtain ⟨i1, i2⟩ := ih k (y + 1) (by omega) (by omega)
    have cb := cosum_bd hS hf ht (y : Int) u hu
    obtain ⟨-, -, -, -, -, o6⟩ := hS.1 f hf
    obtain ⟨-, t1, t2⟩ := o6 (1 + y) (by omega)
    rw [← Nat.add_assoc] at t1 t2
    have e2 : 5 * ((f : Int)).toNat + ((y : Int) + 1).toNat = 5 * f + 1 + y := by omega
    have e3 : (y : Int) + 1 = ((y + 1 : Nat) : Int) := by omega
    have hmod : (cosum S f t y u).tmod 1000 = cosum S f t y u := Int.tmod_eq_of_lt cb.1 (by omega)
    have h00 : (0 : Int) + (cosum S f t (y : Int) u - cosum S f t (y : Int) 0) = cosum S f t y u := by show (0 : Int) + (_ - 0) = _; omega
    have step : X8_keepsCoefficients_L12 (some 1) S (f : Int) (u : Int) (t : Int) (k + 1) (y : Int) = if cosum S f t y u = S.1.2.2 (5 * f + 1 + y) then X8_keepsCoefficients_L12 (some 1) S (f : Int) (u : Int) (t : Int) k ((y + 1 : Nat) : Int) else some 0 := by
      rw [X8_keepsCoefficients_L12, oar_eq hS hf, Option.bind_some, e_LT (by omega) (by omega) (by omega) (by omega), if_pos (by omega)]
      have hl := co_loop hS hf ht (fun w11 => rmK w11 1000 (fun v12 => (X1_term 6 S.1 (f : Int) (y : Int)).bind (fun v13 => brEQ v12 v13 (X8_keepsCoefficients_L12 (some 1) S (f : Int) (u : Int) (t : Int) k ((y : Int) + 1)) (some 0)))) hu (x := y) (by omega) u FU 0 0 (by omega) (by rw [FU_eq]; omega)
      refine hl.trans ?_
      show rmK (0 + (cosum S f t (y : Int) u - cosum S f t (y : Int) 0)) 1000 _ = _
      rw [h00, e_rm (by omega) (by omega), hmod, X1_term_eq (by decide) _ (by omega) (by omega) (by omega) (by omega), Option.bind_some, e2, e_EQ (by omega) (by omega) (by omega) (by omega), e3]
    rw [step]
    by_cases hw : cosum S f t y u = S.1.2.2 (5 * f + 1 + y)
    · rw [if_pos hw]
      refine ⟨fun h => i1 (fun s a b => h s (by omega) b), fun h => i2 (fun h' => h (fun s a b => ?_))⟩
      by_cases hs : s = y
      · subst hs; exact hw
      · exact h' s (by omega) b
    · rw [if_neg hw]
      exact ⟨fun h => absurd (h y (Nat.le_refl _) (by omega)) hw, fun _ => rfl⟩
end Faith2
/-- the mapping of f to t keeps the meaning -/
def faith (S : St) (f t : Nat) : Prop := wfm S f 0 (S.2.1.1 t).toNat ∧ (S.2.1.2.2 (5 * t) + csum S f t (S.2.1.1 t).toNat).tmod 1000 = S.1.2.2 (5 * f) ∧ cof S f t (S.2.1.1 t).toNat 0
theorem X8_keepsMeaning_spec {S : St} {A : Arr} (hS : RS S A) {f t : Nat} (hf : f < 6) (ht : t < 6) (hft : S.2.2.2.2.2.2.1.1 f = (t : Int)) : (faith S f t → X8_keepsMeaning S (f : Int) = some 1) ∧ (¬ faith S f t → X8_keepsMeaning S (f : Int) = some 0) := by
  have ef : ((f : Int)).toNat = f := by omega
  obtain ⟨-, u0, u4, -, -, n6⟩ := hS.2.1 t ht
  obtain ⟨u, hu⟩ : ∃ u : Nat, S.2.1.1 t = (u : Int) := ⟨(S.2.1.1 t).toNat, by omega⟩
  have hu4 : u ≤ 4 := by omega
  have eu : (S.2.1.1 t).toNat = u := by omega
  have ob := oar_bd hS hf
  have q1 : X4_targetOf S.2.2.2.2.2.2.1 (f : Int) = some (t : Int) := by rw [X4_targetOf_eq _ (by omega) (by omega), ef, hft]
  have q2 : X8_usedEntries S (f : Int) = some (u : Int) := by
    unfold X8_usedEntries
    rw [q1, Option.bind_some, X1_arityOf_eq (by decide) _ ⟨by omega, by omega⟩, if_pos (by omega), Option.bind_some, show ((t : Int)).toNat = t by omega, hu]
  have w1 := wf_loop hS hf hu4 u FU 0 (by omega) (by rw [FU_eq]; omega)
  have cb := csum_bd hS hf ht u hu4
  obtain ⟨-, tz0, tz1⟩ := n6 0 (by omega)
  rw [Nat.add_zero] at tz0 tz1
  obtain ⟨-, -, -, -, -, o6⟩ := hS.1 f hf
  obtain ⟨-, oz0, oz1⟩ := o6 0 (by omega)
  rw [Nat.add_zero] at oz0 oz1
  have k1 : X8_keepsConstant S (f : Int) (u : Int) = some (if (S.2.1.2.2 (5 * t) + csum S f t u).tmod 1000 = S.1.2.2 (5 * f) then 1 else 0) := by
    unfold X8_keepsConstant
    have e1 : 5 * ((t : Int)).toNat + ((-1 : Int) + 1).toNat = 5 * t := by omega
    have e2 : 5 * ((f : Int)).toNat + ((-1 : Int) + 1).toNat = 5 * f := by omega
    rw [q1, Option.bind_some, X1_term_eq (by decide) _ (by omega) (by omega) (by decide) (by decide), Option.bind_some, e1]
    refine (kc_loop hS hf ht _ hu4 u FU 0 _ (by omega) (by rw [FU_eq]; omega)).trans ?_
    have h00 : S.2.1.2.2 (5 * t) + (csum S f t u - csum S f t 0) = S.2.1.2.2 (5 * t) + csum S f t u := by show _ + (_ - (0 : Int)) = _; omega
    rw [h00, e_rm (by omega) (by omega), X1_term_eq (by decide) _ (by omega) (by omega) (by decide) (by decide), Option.bind_some, e2]
    have m1 := Int.tmod_nonneg (1000 : Int) (show 0 ≤ S.2.1.2.2 (5 * t) + csum S f t u by omega)
    have m2 := Int.tmod_lt_of_pos (S.2.1.2.2 (5 * t) + csum S f t u) (show (0 : Int) < 1000 by decide)
    rw [e_EQ (by omega) (by omega) (by omega) (by omega)]
    split <;> rfl
  have c1 := kco_loop hS hf ht hu4 (S.1.1 f).toNat FU 0 (by omega) (by rw [FU_eq]; omega)
  have k2 : X8_keepsCoefficients S (f : Int) (u : Int) = X8_keepsCoefficients_L12 (some 1) S (f : Int) (u : Int) (t : Int) FU 0 := by
    unfold X8_keepsCoefficients
    rw [q1, Option.bind_some]
  unfold faith X8_keepsMeaning
  rw [eu, q2, Option.bind_some, q1, Option.bind_some, e_EQ (by omega) (by omega) (by decide) (by decide), if_neg (by omega)]
  by_cases a1 : wfm S f 0 u
  · have r1 : X8_isWellFormed S (f : Int) (u : Int) = some 1 := w1.1 a1
    rw [r1, Option.bind_some, e_b1, k1, Option.bind_some, e_b10]
    by_cases a2 : (S.2.1.2.2 (5 * t) + csum S f t u).tmod 1000 = S.1.2.2 (5 * f)
    · rw [if_pos a2, k2]
      by_cases a3 : cof S f t u 0
      · have r3 := c1.1 a3
        refine ⟨fun _ => ?_, fun h => absurd ⟨a1, a2, a3⟩ h⟩
        show (X8_keepsCoefficients_L12 (some 1) S (f : Int) (u : Int) (t : Int) FU ((0 : Nat) : Int)).bind _ = _
        rw [r3, Option.bind_some, e_b1]
      · have r3 := c1.2 a3
        refine ⟨fun h => absurd h.2.2 a3, fun _ => ?_⟩
        show (X8_keepsCoefficients_L12 (some 1) S (f : Int) (u : Int) (t : Int) FU ((0 : Nat) : Int)).bind _ = _
        rw [r3, Option.bind_some, e_b0]
    · rw [if_neg a2]
      exact ⟨fun h => absurd h.2.1 a2, fun _ => rfl⟩
  · have r1 : X8_isWellFormed S (f : Int) (u : Int) = some 0 := w1.2 a1
    rw [r1, Option.bind_some, e_b0]
    exact ⟨fun h => absurd h.1 a1, fun _ => rfl⟩
