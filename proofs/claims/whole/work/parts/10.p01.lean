/-! pure: copies -/
theorem X1_copyFunction_eq {c : Nat} (hc : c ≤ 100) (T V : FT) {y : Nat} (hy : y < c) : X1_copyFunction c c T V (y : Int) (y : Int) = some (upI T.1 y (V.1 y), upI T.2.1 y (V.2.1 y), cpI V.2.2 T.2.2 (5 * y) (5 * y) 5) := by
  unfold X1_copyFunction
  have e1 : ((y : Int)).toNat = y := by omega
  have e2 : ((y : Int) * 5).toNat = 5 * y := by omega
  have e3 : ((5 : Int)).toNat = 5 := rfl
  rw [X9_within_eq (by omega) (by omega) (by decide) (by decide) (by omega) (by omega), Option.bind_some, e_b10, if_pos (by omega), Option.bind_some, e_b10, if_pos (by omega), e_rd (by omega) (by omega), e_wr (by omega) (by omega), e_rd (by omega) (by omega), e_wr (by omega) (by omega), e_cp (by omega) (by omega) (by decide) (by omega) (by omega), e1, e2, e3]
def agr (y : Nat) (T V : FT) : Prop := (∀ f : Nat, f < y → T.1 f = V.1 f ∧ T.2.1 f = V.2.1 f) ∧ ∀ j : Nat, j < 5 * y → T.2.2 j = V.2.2 j
theorem agr_step {y : Nat} {T V : FT} (h : agr y T V) : agr (y + 1) (upI T.1 y (V.1 y), upI T.2.1 y (V.2.1 y), cpI V.2.2 T.2.2 (5 * y) (5 * y) 5) V := by
  refine ⟨fun f hf => ?_, fun j hj => ?_⟩
  · by_cases h1 : f = y
    · subst h1
      exact ⟨uI_same _, uI_same _⟩
    · have := h.1 f (by omega)
      exact ⟨(uI_ne h1).trans this.1, (uI_ne h1).trans this.2⟩
  · show cpI V.2.2 T.2.2 (5 * y) (5 * y) 5 j = V.2.2 j
    unfold cpI
    by_cases h1 : 5 * y ≤ j ∧ j < 5 * y + 5
    · rw [if_pos h1]
      exact congrArg V.2.2 (by omega)
    · rw [if_neg h1]
      exact h.2 j (by omega)
theorem cpFT_loop (kx : FT → Option FT) {c : Nat} (hc : c ≤ 100) (V : FT) : ∀ (m fuel y : Nat) (T : FT), y + m = c → m < fuel → agr y T V → ∃ T', X1_copyFrom_L2 kx c c V fuel (y : Int) T = kx T' ∧ agr c T' V := by
  intro m
  induction m with
  | zero =>
    intro fuel y T h1 h2 h3
    obtain ⟨k, rfl⟩ : ∃ k, fuel = k + 1 := ⟨fuel - 1, by omega⟩
    refine ⟨T, ?_, by rw [← h1]; exact h3⟩
    rw [X1_copyFrom_L2, e_LT (by omega) (by omega) (by omega) (by omega), if_neg (by omega)]
  | succ m ih =>
    intro fuel y T h1 h2 h3
    obtain ⟨k, rfl⟩ : ∃ k, fuel = k + 1 := ⟨fuel - 1, by omega⟩
    obtain ⟨T', g1, g2⟩ := ih k (y + 1) _ (by omega) (by omega) (agr_step h3)
    refine ⟨T', ?_, g2⟩
    rw [X1_copyFrom_L2, e_LT (by omega) (by omega) (by omega) (by omega), if_pos (by omega), X1_copyFunction_eq hc T V (by omega), Option.bind_some]
    exact g1
theorem FU_eq : FU = 1000 := rfl
theorem X1_copyFrom_spec {c : Nat} (hc : c ≤ 100) (T V : FT) : ∃ T', X1_copyFrom c c T V = some T' ∧ agr c T' V := by
  obtain ⟨T', g1, g2⟩ := cpFT_loop (fun w3 => some w3) hc V c FU 0 T (by omega) (by rw [FU_eq]; omega) ⟨fun f h => absurd h (by omega), fun j h => absurd h (by omega)⟩
  exact ⟨T', g1, g2⟩
/-- two programs agree on their nodes -/
def agP (P V : Pg) : Prop := P.1 = V.1 ∧ ∀ j : Nat, j < V.1.toNat → P.2.1 j = V.2.1 j ∧ P.2.2.1 j = V.2.2.1 j ∧ P.2.2.2 j = V.2.2.2 j
theorem X6_add_eq (P : Pg) (a b c : Int) (h0 : 0 ≤ P.1) (h1 : P.1 < 30) : X6_add P a b c = some (1, (P.1 + 1, upI P.2.1 P.1.toNat a, upI P.2.2.1 P.1.toNat b, upI P.2.2.2 P.1.toNat c)) := by
  unfold X6_add
  rw [e_LT (by omega) (by omega) (by decide) (by decide), if_pos h1, e_wr h0 (by omega), e_wr h0 (by omega), e_wr h0 (by omega)]
theorem addN_loop (kx : Pg → Option Pg) (V : Pg) (x3 : Int) (hV : V.1 ≤ 30) (hx : x3 ≤ V.1) : ∀ (m fuel : Nat) (y : Int) (P : Pg), 0 ≤ y → y + m = x3 → 0 ≤ P.1 → P.1 + m ≤ 30 → m < fuel → ∃ P' : Pg, X6_addNodes_L7 kx V x3 fuel y P = kx P' ∧ P'.1 = P.1 + m ∧ (∀ j : Nat, j < P.1.toNat → P'.2.1 j = P.2.1 j ∧ P'.2.2.1 j = P.2.2.1 j ∧ P'.2.2.2 j = P.2.2.2 j) ∧ ∀ j : Nat, j < m → P'.2.1 (P.1.toNat + j) = V.2.1 (y.toNat + j) ∧ P'.2.2.1 (P.1.toNat + j) = V.2.2.1 (y.toNat + j) ∧ P'.2.2.2 (P.1.toNat + j) = V.2.2.2 (y.toNat + j) := by
  intro m
  induction m with
  | zero =>
    intro fuel y P h0 h1 h2 h3 h4
    obtain ⟨k, rfl⟩ : ∃ k, fuel = k + 1 := ⟨fuel - 1, by omega⟩
    refine ⟨P, ?_, by omega, fun j _ => ⟨rfl, rfl, rfl⟩, fun j hj => absurd hj (by omega)⟩
    rw [X6_addNodes_L7, e_LT (by omega) (by omega) (by omega) (by omega), if_neg (by omega)]
  | succ m ih =>
    intro fuel y P h0 h1 h2 h3 h4
    obtain ⟨k, rfl⟩ : ∃ k, fuel = k + 1 := ⟨fuel - 1, by omega⟩
    obtain ⟨P', g1, g2, g3, g4⟩ := ih k (y + 1) (P.1 + 1, upI P.2.1 P.1.toNat (V.2.1 y.toNat), upI P.2.2.1 P.1.toNat (V.2.2.1 y.toNat), upI P.2.2.2 P.1.toNat (V.2.2.2 y.toNat)) (by omega) (by omega) (by show 0 ≤ P.1 + 1; omega) (by show P.1 + 1 + _ ≤ 30; omega) (by omega)
    have e1 : (P.1 + 1).toNat = P.1.toNat + 1 := by omega
    have e2 : (y + 1).toNat = y.toNat + 1 := by omega
    have g3' : ∀ j : Nat, j < P.1.toNat + 1 → P'.2.1 j = upI P.2.1 P.1.toNat (V.2.1 y.toNat) j ∧ P'.2.2.1 j = upI P.2.2.1 P.1.toNat (V.2.2.1 y.toNat) j ∧ P'.2.2.2 j = upI P.2.2.2 P.1.toNat (V.2.2.2 y.toNat) j := fun j hj => g3 j (by show j < (P.1 + 1).toNat; omega)
    refine ⟨P', ?_, by show P'.1 = _; rw [g2]; show P.1 + 1 + _ = _; omega, fun j hj => ?_, fun j hj => ?_⟩
    · rw [X6_addNodes_L7, e_LT (by omega) (by omega) (by omega) (by omega), if_pos (by omega), e_LT (by omega) (by omega) (by omega) (by omega), if_pos (by omega), e_rd h0 (by omega), e_rd h0 (by omega), e_rd h0 (by omega), X6_add_eq P _ _ _ h2 (by omega), Option.bind_some]
      exact g1
    · obtain ⟨q1, q2, q3⟩ := g3' j (by omega)
      exact ⟨q1.trans (uI_ne (by omega)), q2.trans (uI_ne (by omega)), q3.trans (uI_ne (by omega))⟩
    · by_cases hj0 : j = 0
      · subst hj0
        obtain ⟨q1, q2, q3⟩ := g3' P.1.toNat (by omega)
        exact ⟨q1.trans (uI_same _), q2.trans (uI_same _), q3.trans (uI_same _)⟩
      · obtain ⟨q1, q2, q3⟩ := g4 (j - 1) (by omega)
        have f1 : (P.1 + 1).toNat + (j - 1) = P.1.toNat + j := by omega
        have f2 : (y + 1).toNat + (j - 1) = y.toNat + j := by omega
        rw [f2] at q1 q2 q3
        have q1' : P'.2.1 ((P.1 + 1).toNat + (j - 1)) = _ := q1
        have q2' : P'.2.2.1 ((P.1 + 1).toNat + (j - 1)) = _ := q2
        have q3' : P'.2.2.2 ((P.1 + 1).toNat + (j - 1)) = _ := q3
        rw [f1] at q1' q2' q3'
        exact ⟨q1', q2', q3'⟩
theorem X6_addNodes_spec (P V : Pg) {fr to : Int} (h0 : 0 ≤ fr) (h1 : fr ≤ to) (h2 : to ≤ V.1) (h3 : V.1 ≤ 30) (h4 : 0 ≤ P.1) (h5 : P.1 + (to - fr) ≤ 30) : ∃ P' : Pg, X6_addNodes P V fr to = some P' ∧ P'.1 = P.1 + (to - fr) ∧ (∀ j : Nat, j < P.1.toNat → P'.2.1 j = P.2.1 j ∧ P'.2.2.1 j = P.2.2.1 j ∧ P'.2.2.2 j = P.2.2.2 j) ∧ ∀ j : Nat, j < (to - fr).toNat → P'.2.1 (P.1.toNat + j) = V.2.1 (fr.toNat + j) ∧ P'.2.2.1 (P.1.toNat + j) = V.2.2.1 (fr.toNat + j) ∧ P'.2.2.2 (P.1.toNat + j) = V.2.2.2 (fr.toNat + j) := by
  obtain ⟨P', g1, g2, g3, g4⟩ := addN_loop (fun w7 => some w7) V to h3 h2 (to - fr).toNat FU fr P h0 (by omega) h4 (by omega) (by rw [FU_eq]; omega)
  refine ⟨P', ?_, by rw [g2]; omega, g3, g4⟩
  unfold X6_addNodes mxK
  rw [if_pos ⟨⟨by omega, by omega⟩, by decide⟩]
  by_cases h : fr < 0
  · omega
  · rw [if_neg h]
    exact g1
theorem X6_copyFrom_spec (P V : Pg) (h0 : 0 ≤ V.1) (h3 : V.1 ≤ 30) : ∃ P' : Pg, X6_copyFrom P V = some P' ∧ agP P' V := by
  obtain ⟨P', g1, g2, g3, g4⟩ := X6_addNodes_spec (0, P.2.1, P.2.2.1, P.2.2.2) V (fr := 0) (to := V.1) (by decide) h0 (by omega) h3 (by show (0 : Int) ≤ 0; decide) (by show (0 : Int) + _ ≤ 30; omega)
  refine ⟨P', ?_, by rw [g2]; show (0 : Int) + _ = _; omega, fun j hj => ?_⟩
  · unfold X6_copyFrom
    rw [g1]
    rfl
  · have := g4 j (by omega)
    simpa using this
theorem cpI_in {f g : Arr} {n j : Nat} (h : j < n) : cpI f g 0 0 n j = f j := by
  unfold cpI
  rw [if_pos (by omega)]
  congr 1
  omega
theorem X4_copyFrom_spec (P V : Mp) : ∃ P' : Mp, X4_copyFrom P V = some P' ∧ (∀ j : Nat, j < 6 → P'.1 j = V.1 j) ∧ (∀ j : Nat, j < 24 → P'.2.1 j = V.2.1 j) ∧ ∀ j : Nat, j < 24 → P'.2.2 j = V.2.2 j := by
  unfold X4_copyFrom
  rw [e_cp (by decide) (by decide) (by decide) (by decide) (by decide), e_cp (by decide) (by decide) (by decide) (by decide) (by decide), e_cp (by decide) (by decide) (by decide) (by decide) (by decide)]
  exact ⟨_, rfl, fun j h => cpI_in h, fun j h => cpI_in h, fun j h => cpI_in h⟩
/-! the relation of a state and its row -/
def RF (T : FT) (A : Arr) (base stride n : Nat) (mx : Int) : Prop := ∀ f : Nat, f < n → A (base + stride * f) = T.1 f ∧ 0 ≤ T.1 f ∧ T.1 f ≤ mx ∧ A (base + stride * f + 1) = T.2.1 f ∧ (T.2.1 f = 0 ∨ T.2.1 f = 1) ∧ ∀ k : Nat, k < 5 → A (base + stride * f + 2 + k) = T.2.2 (5 * f + k) ∧ 0 ≤ T.2.2 (5 * f + k) ∧ T.2.2 (5 * f + k) ≤ 99
def RMp (P : Mp) (A : Arr) : Prop := ∀ f : Nat, f < 6 → A (117 + 5 * f) = P.1 f ∧ -1 ≤ P.1 f ∧ P.1 f ≤ 5 ∧ ∀ p : Nat, p < 4 → (P.2.1 (4 * f + p) = -1 ∧ 0 ≤ P.2.2 (4 * f + p) ∧ P.2.2 (4 * f + p) ≤ 99 ∧ A (118 + 5 * f + p) = 100 + P.2.2 (4 * f + p)) ∨ (0 ≤ P.2.1 (4 * f + p) ∧ P.2.1 (4 * f + p) ≤ 2 ∧ A (118 + 5 * f + p) = P.2.1 (4 * f + p))
def RAd (T : FT) (m : Int) (N : Arr) (A : Arr) : Prop := 0 ≤ m ∧ m ≤ 4 ∧ A 116 = m ∧ RF T A 84 8 m.toNat 3 ∧ (∀ k : Nat, k < m.toNat → 0 ≤ A (91 + 8 * k) ∧ A (91 + 8 * k) ≤ 5) ∧ ∀ f : Nat, f < 6 → (N f = -1 ∧ ∀ k : Nat, k < m.toNat → A (91 + 8 * k) ≠ (f : Int)) ∨ (0 ≤ N f ∧ N f < m ∧ ∀ k : Nat, k < m.toNat → (A (91 + 8 * k) = (f : Int) ↔ (k : Int) = N f))
def nodeOK (m kd nm ac a : Int) : Prop := (kd = 0 ∧ 0 ≤ nm ∧ nm ≤ 99 ∧ ac = 0 ∧ a = 10 * nm) ∨ (kd = 1 ∧ (nm = 0 ∨ nm = 1) ∧ ac = 0 ∧ a = 10000 * (1 + nm)) ∨ (kd = 2 ∧ 0 ≤ nm ∧ nm ≤ 5 ∧ 0 ≤ ac ∧ ac ≤ 3 ∧ a = 30000 + 10 * nm + ac) ∨ (kd = 3 ∧ 0 ≤ nm ∧ nm ≤ 5 ∧ 0 ≤ ac ∧ ac ≤ 4 ∧ a = 40000 + 10 * nm + ac) ∨ (kd = 4 ∧ 0 ≤ nm ∧ nm < m ∧ 0 ≤ ac ∧ ac ≤ 3 ∧ a = 50000 + 10 * nm + ac)
/-- how many expressions are wanted still ahead of node i -/
def cnt (ac : Arr) : Nat → Int
  | 0 => 1
  | i + 1 => cnt ac i - 1 + ac i
def RPg (P : Pg) (m : Int) (A : Arr) : Prop := 1 ≤ P.1 ∧ P.1 ≤ 30 ∧ A 148 = P.1 ∧ (∀ i : Nat, i < P.1.toNat → nodeOK m (P.2.1 i) (P.2.2.1 i) (P.2.2.2 i) (A (149 + i))) ∧ (∀ i : Nat, i < P.1.toNat → 1 ≤ cnt P.2.2.2 i) ∧ cnt P.2.2.2 P.1.toNat = 0
def ROut (O A : Arr) : Prop := ∀ r : Nat, 1 ≤ r → r ≤ 7 → A (178 + r) = O r ∧ 0 ≤ O r ∧ O r ≤ 30
def RS (S : St) (A : Arr) : Prop := RF S.1 A 0 7 6 3 ∧ RF S.2.1 A 42 7 6 4 ∧ RAd S.2.2.1 S.2.2.2.1 S.2.2.2.2.1 A ∧ (A 147 = S.2.2.2.2.2.1 ∧ (S.2.2.2.2.2.1 = 0 ∨ S.2.2.2.2.2.1 = 1)) ∧ RMp S.2.2.2.2.2.2.1 A ∧ RPg S.2.2.2.2.2.2.2.1 S.2.2.2.1 A ∧ ROut S.2.2.2.2.2.2.2.2 A
def RH (h : Hs) (saved : Arr) (sm : Int) : Prop := okP h.2.2 ∧ (∀ i j : Nat, i < 4 → j < 4 → h.2.2 i = h.2.2 j → i = j) ∧ 0 ≤ h.2.1 ∧ h.2.1 ≤ 4 ∧ sm = h.2.1 ∧ ∀ i : Nat, i < h.2.1.toNat → RS (h.1 (h.2.2 i)) (fun j => saved (186 * i + j))
def RI (I : In) (text : Arr) (tl : Int) : Prop := tl = I.2.1 ∧ 0 ≤ I.2.1 ∧ I.2.1 ≤ 120 ∧ ∀ i : Nat, i < I.2.1.toNat → text i = I.1 i ∧ 0 ≤ I.1 i ∧ I.1 i ≤ 127
def RErr (i : Int) (E errors : Arr) : Prop := ∀ k : Nat, k < 4 → errors k = E k ∧ 0 ≤ E k ∧ E k ≤ i
def REL (i : Int) (C : CM) (M : MT) : Prop := RS C.1 M.1 ∧ RH C.2.1 M.2.1 M.2.2.1 ∧ RI C.2.2.1 M.2.2.2.2.1 M.2.2.2.2.2.1 ∧ RErr i C.2.2.2.2.2.2.2 M.2.2.2.1
theorem RF.congr {T T' : FT} {A B : Arr} {base stride n : Nat} {mx : Int} (h : RF T A base stride n mx) (hA : ∀ j : Nat, base ≤ j → j < base + stride * n → B j = A j) (hs : 7 ≤ stride) (hT : agr n T' T) : RF T' B base stride n mx := by
  intro f hf
  obtain ⟨h1, h2, h3, h4, h5, h6⟩ := h f hf
  obtain ⟨t1, t2⟩ := hT.1 f hf
  have hb : base + stride * f + 7 ≤ base + stride * n := by
    have : stride * (f + 1) ≤ stride * n := Nat.mul_le_mul_left stride hf
    rw [Nat.mul_add] at this
    omega
  rw [t1, t2]
  refine ⟨(hA _ (by omega) (by omega)).trans h1, h2, h3, (hA _ (by omega) (by omega)).trans h4, h5, fun k hk => ?_⟩
  obtain ⟨u1, u2, u3⟩ := h6 k hk
  rw [hT.2 (5 * f + k) (by omega)]
  exact ⟨(hA _ (by omega) (by omega)).trans u1, u2, u3⟩
theorem agr.rfl {n : Nat} {T : FT} : agr n T T := ⟨fun _ _ => ⟨Eq.refl _, Eq.refl _⟩, fun _ _ => Eq.refl _⟩
theorem cnt_congr {a b : Arr} : ∀ {n : Nat}, (∀ j : Nat, j < n → a j = b j) → cnt a n = cnt b n
  | 0, _ => rfl
  | n + 1, h => by
    show cnt a n - 1 + a n = cnt b n - 1 + b n
    rw [cnt_congr (fun j hj => h j (by omega)), h n (by omega)]
theorem RPg.congr {P P' : Pg} {m : Int} {A B : Arr} (h : RPg P m A) (hA : ∀ j : Nat, j < 186 → B j = A j) (hP : agP P' P) : RPg P' m B := by
  obtain ⟨h1, h2, h3, h4, h5, h6⟩ := h
  obtain ⟨p1, p2⟩ := hP
  have e : P'.1.toNat = P.1.toNat := by rw [p1]
  refine ⟨by omega, by omega, by rw [hA 148 (by omega), h3, p1], fun i hi => ?_, fun i hi => ?_, ?_⟩
  · rw [e] at hi
    obtain ⟨q1, q2, q3⟩ := p2 i hi
    rw [q1, q2, q3, hA (149 + i) (by omega)]
    exact h4 i hi
  · rw [e] at hi
    rw [cnt_congr (b := P.2.2.2) (fun j hj => (p2 j (by omega)).2.2)]
    exact h5 i hi
  · rw [e, cnt_congr (b := P.2.2.2) (fun j hj => (p2 j hj).2.2)]
    exact h6
/-- a state that agrees with another, over a row that agrees -/
def agS (T S : St) : Prop := agr 6 T.1 S.1 ∧ agr 6 T.2.1 S.2.1 ∧ agr 4 T.2.2.1 S.2.2.1 ∧ T.2.2.2.1 = S.2.2.2.1 ∧ (∀ j : Nat, j < 6 → T.2.2.2.2.1 j = S.2.2.2.2.1 j) ∧ T.2.2.2.2.2.1 = S.2.2.2.2.2.1 ∧ ((∀ j : Nat, j < 6 → T.2.2.2.2.2.2.1.1 j = S.2.2.2.2.2.2.1.1 j) ∧ (∀ j : Nat, j < 24 → T.2.2.2.2.2.2.1.2.1 j = S.2.2.2.2.2.2.1.2.1 j) ∧ ∀ j : Nat, j < 24 → T.2.2.2.2.2.2.1.2.2 j = S.2.2.2.2.2.2.1.2.2 j) ∧ agP T.2.2.2.2.2.2.2.1 S.2.2.2.2.2.2.2.1 ∧ ∀ j : Nat, j < 8 → T.2.2.2.2.2.2.2.2 j = S.2.2.2.2.2.2.2.2 j
theorem RS.congr {T S : St} {A B : Arr} (h : RS S A) (hA : ∀ j : Nat, j < 186 → B j = A j) (hT : agS T S) : RS T B := by
  obtain ⟨o1, o2, o3, o4, o5, o6, o7, o8, o9⟩ := hT
  obtain ⟨h1, h2, ⟨a1, a2, a3, a4, a5, a6⟩, ⟨b1, b2⟩, h4, h5, h6⟩ := h
  refine ⟨h1.congr (fun j _ hj => hA j (by omega)) (by decide) o1, h2.congr (fun j _ hj => hA j (by omega)) (by decide) o2, ⟨by rw [o4]; exact a1, by rw [o4]; exact a2, by rw [o4, hA 116 (by omega)]; exact a3, ?_, ?_, ?_⟩, ⟨by rw [o6, hA 147 (by omega)]; exact b1, by rw [o6]; exact b2⟩, ?_, ?_, ?_⟩
  · rw [o4]
    refine a4.congr (fun j _ hj => hA j (by omega)) (by decide) ⟨fun f hf => o3.1 f (by omega), fun j hj => o3.2 j (by omega)⟩
  · rw [o4]
    intro k hk
    rw [hA (91 + 8 * k) (by omega)]
    exact a5 k hk
  · rw [o4]
    intro f hf
    rw [o5 f hf]
    rcases a6 f hf with ⟨q1, q2⟩ | ⟨q1, q2, q3⟩
    · exact Or.inl ⟨q1, fun k hk => by rw [hA (91 + 8 * k) (by omega)]; exact q2 k hk⟩
    · exact Or.inr ⟨q1, q2, fun k hk => by rw [hA (91 + 8 * k) (by omega)]; exact q3 k hk⟩
  · intro f hf
    obtain ⟨m1, m2, m3, m4⟩ := h4 f hf
    rw [o7.1 f hf]
    refine ⟨by rw [hA (117 + 5 * f) (by omega)]; exact m1, m2, m3, fun p hp => ?_⟩
    rw [o7.2.1 (4 * f + p) (by omega), o7.2.2 (4 * f + p) (by omega), hA (118 + 5 * f + p) (by omega)]
    exact m4 p hp
  · rw [o4]
    exact h5.congr hA o8
  · intro r hr1 hr7
    rw [o9 r (by omega), hA (178 + r) (by omega)]
    exact h6 r hr1 hr7
theorem agS.rfl {S : St} : agS S S := ⟨agr.rfl, agr.rfl, agr.rfl, Eq.refl _, fun _ _ => Eq.refl _, Eq.refl _, ⟨fun _ _ => Eq.refl _, fun _ _ => Eq.refl _, fun _ _ => Eq.refl _⟩, ⟨Eq.refl _, fun _ _ => ⟨Eq.refl _, Eq.refl _, Eq.refl _⟩⟩, fun _ _ => Eq.refl _⟩
theorem X8_copyFrom_spec (T S : St) (h0 : 0 ≤ S.2.2.2.2.2.2.2.1.1) (h1 : S.2.2.2.2.2.2.2.1.1 ≤ 30) : ∃ T' : St, X8_copyFrom T S = some T' ∧ agS T' S := by
  obtain ⟨f1, a1, b1⟩ := X1_copyFrom_spec (c := 6) (by decide) T.1 S.1
  obtain ⟨f2, a2, b2⟩ := X1_copyFrom_spec (c := 6) (by decide) T.2.1 S.2.1
  obtain ⟨f3, a3, b3⟩ := X1_copyFrom_spec (c := 4) (by decide) T.2.2.1 S.2.2.1
  obtain ⟨f4, a4, b4⟩ := X4_copyFrom_spec T.2.2.2.2.2.2.1 S.2.2.2.2.2.2.1
  obtain ⟨f5, a5, b5⟩ := X6_copyFrom_spec T.2.2.2.2.2.2.2.1 S.2.2.2.2.2.2.2.1 h0 h1
  refine ⟨(f1, f2, f3, S.2.2.2.1, cpI S.2.2.2.2.1 T.2.2.2.2.1 0 0 6, S.2.2.2.2.2.1, f4, f5, cpI S.2.2.2.2.2.2.2.2 T.2.2.2.2.2.2.2.2 0 0 8), ?_, b1, b2, b3, rfl, fun j hj => cpI_in hj, rfl, b4, b5, fun j hj => cpI_in hj⟩
  unfold X8_copyFrom
  rw [a1, Option.bind_some, a2, Option.bind_some, a3, Option.bind_some, e_cp (by decide) (by decide) (by decide) (by decide) (by decide), a4, Option.bind_some, a5, Option.bind_some, e_cp (by decide) (by decide) (by decide) (by decide) (by decide)]
  rfl
