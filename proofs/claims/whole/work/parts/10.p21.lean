/-! migrate: expressions as stretches of nodes -/
def WE (ac : Arr) (x x' : Nat) : Prop := x < x' ∧ (∀ i : Nat, x ≤ i → i < x' → cnt ac x ≤ cnt ac i) ∧ cnt ac x' = cnt ac x - 1
theorem cnt_succ (ac : Arr) (i : Nat) : cnt ac (i + 1) = cnt ac i - 1 + ac i := rfl
theorem cnt_shift {a b : Arr} {x y : Nat} : ∀ {n : Nat}, (∀ j : Nat, j < n → b (y + j) = a (x + j)) → cnt b (y + n) - cnt b y = cnt a (x + n) - cnt a x
  | 0, _ => by simp
  | n + 1, h => by
    have h1 := cnt_shift (n := n) (a := a) (b := b) (x := x) (y := y) (fun j hj => h j (by omega))
    have h2 := h n (by omega)
    have e1 := cnt_succ b (y + n)
    have e2 := cnt_succ a (x + n)
    have g1 : y + (n + 1) = y + n + 1 := by omega
    have g2 : x + (n + 1) = x + n + 1 := by omega
    rw [g1, g2]
    omega
theorem WE.shift {a b : Arr} {x y n : Nat} (h : WE a x (x + n)) (hs : ∀ j : Nat, j < n → b (y + j) = a (x + j)) : WE b y (y + n) := by
  obtain ⟨h1, h2, h3⟩ := h
  refine ⟨by omega, fun i hi0 hi1 => ?_, ?_⟩
  · obtain ⟨j, rfl⟩ : ∃ j, i = y + j := ⟨i - y, by omega⟩
    have := cnt_shift (n := j) (a := a) (b := b) (x := x) (y := y) (fun k hk => hs k (by omega))
    have := h2 (x + j) (by omega) (by omega)
    omega
  · have := cnt_shift (n := n) (a := a) (b := b) (x := x) (y := y) hs
    omega
theorem WE.congr {a b : Arr} {x y : Nat} (h : WE a x y) (hs : ∀ j : Nat, x ≤ j → j < y → b j = a j) : WE b x y := by
  obtain ⟨n, rfl⟩ : ∃ n, y = x + n := ⟨y - x, by have := h.1; omega⟩
  exact h.shift (fun j hj => hs (x + j) (by omega) (by omega))
theorem WE.call {ac : Arr} {x a : Nat} {st : Nat → Nat} (ha : ac x = (a : Int)) (h0 : st 0 = x + 1) (hs : ∀ i : Nat, i < a → WE ac (st i) (st (i + 1))) : WE ac x (st a) := by
  have key : ∀ i : Nat, i ≤ a → x + 1 ≤ st i ∧ cnt ac (st i) = cnt ac x - 1 + (a : Int) - i ∧ ∀ j : Nat, x ≤ j → j < st i → cnt ac x ≤ cnt ac j := by
    intro i
    induction i with
    | zero =>
      intro _
      refine ⟨by omega, ?_, fun j h1 h2 => ?_⟩
      · rw [h0, cnt_succ, ha]; omega
      · have : j = x := by omega
        rw [this]; exact Int.le_refl _
    | succ i ih =>
      intro hi
      obtain ⟨k1, k2, k3⟩ := ih (by omega)
      obtain ⟨w1, w2, w3⟩ := hs i (by omega)
      refine ⟨by omega, by omega, fun j h1 h2 => ?_⟩
      by_cases hj : j < st i
      · exact k3 j h1 hj
      · have := w2 j (by omega) h2
        omega
  obtain ⟨k1, k2, k3⟩ := key a (Nat.le_refl _)
  exact ⟨by omega, k3, by omega⟩
theorem cnt_rng {ac : Arr} : ∀ {n : Nat}, (∀ i : Nat, i < n → 0 ≤ ac i ∧ ac i ≤ 4) → 1 - (n : Int) ≤ cnt ac n ∧ cnt ac n ≤ 1 + 3 * (n : Int)
  | 0, _ => by show 1 - ((0 : Nat) : Int) ≤ 1 ∧ (1 : Int) ≤ 1 + 3 * ((0 : Nat) : Int); omega
  | n + 1, h => by
    have h1 := cnt_rng (n := n) (ac := ac) (fun i hi => h i (by omega))
    have h2 := h n (by omega)
    have := cnt_succ ac n
    omega
theorem endOf_eq {P : Pg} {x x' : Nat} (h : WE P.2.2.2 x x') (hx : (x' : Int) ≤ P.1) (h30 : P.1 ≤ 30) (hb : ∀ i : Nat, (i : Int) < P.1 → 0 ≤ P.2.2.2 i ∧ P.2.2.2 i ≤ 4) : X6_endOf P (x : Int) = some (x' : Int) := by
  obtain ⟨h1, h2, h3⟩ := h
  have rng : ∀ y : Nat, y ≤ x' → 1 - (y : Int) ≤ cnt P.2.2.2 y ∧ cnt P.2.2.2 y ≤ 1 + 3 * (y : Int) := fun y hy => cnt_rng (fun i hi => hb i (by omega))
  have r0 := rng x (by omega)
  have key : ∀ (m fuel y : Nat), y + m = x' → x ≤ y → m < fuel → X6_endOf_L4 (fun w4 => some w4) P fuel (cnt P.2.2.2 y - cnt P.2.2.2 x + 1) (y : Int) = some (x' : Int) := by
    intro m
    induction m with
    | zero =>
      intro fuel y g1 g2 g3
      obtain ⟨k, rfl⟩ : ∃ k, fuel = k + 1 := ⟨fuel - 1, by omega⟩
      have : y = x' := by omega
      subst this
      rw [X6_endOf_L4, h3, e_LE (by omega) (by omega) (by decide) (by decide), if_pos (by omega)]
    | succ m ih =>
      intro fuel y g1 g2 g3
      obtain ⟨k, rfl⟩ : ∃ k, fuel = k + 1 := ⟨fuel - 1, by omega⟩
      have r1 := rng y (by omega)
      have r2 := h2 y g2 (by omega)
      have e1 : ((y : Int)).toNat = y := by omega
      have e2 : cnt P.2.2.2 y - cnt P.2.2.2 x + 1 + (P.2.2.2 y - 1) = cnt P.2.2.2 (y + 1) - cnt P.2.2.2 x + 1 := by rw [cnt_succ]; omega
      have e3 : (y : Int) + 1 = ((y + 1 : Nat) : Int) := by omega
      rw [X6_endOf_L4, e_LE (by omega) (by omega) (by decide) (by decide), if_neg (by omega), X9_within_eq (by omega) (by omega) (by decide) (by decide) (by omega) (by omega), Option.bind_some, e_b10, if_pos (by omega), e_rd (by omega) (by omega), e1, e2, e3]
      exact ih k (y + 1) (by omega) (by omega) (by omega)
  have := key (x' - x) FU x (by omega) (Nat.le_refl _) (by rw [FU_eq]; omega)
  have e : cnt P.2.2.2 x - cnt P.2.2.2 x + 1 = 1 := by omega
  rw [e] at this
  exact this
theorem nodeOK.mono {m m' kd nm ac a : Int} (h : nodeOK m kd nm ac a) (hm : m ≤ m') : nodeOK m' kd nm ac a := by
  rcases h with h | h | h | h | ⟨a1, a2, a3, a4⟩
  · exact Or.inl h
  · exact Or.inr (Or.inl h)
  · exact Or.inr (Or.inr (Or.inl h))
  · exact Or.inr (Or.inr (Or.inr (Or.inl h)))
  · exact Or.inr (Or.inr (Or.inr (Or.inr ⟨a1, a2, by omega, a4⟩)))
/-! putting a call ahead of its arguments -/
theorem puts_loop (kx : Arr → Option (Arr × Int × Arr × Int)) (bm : Int) (parts : Arr) (pm x1 x2 : Int) (b : Nat) : ∀ (m fuel : Nat) (g : Arr), b + m < 30 → m < fuel → ∃ g' : Arr, X10_putsCall_L23 kx bm parts pm x1 x2 (b : Int) fuel ((b + m : Nat) : Int) g = kx g' ∧ (∀ j : Nat, j ≤ b → g' j = g j) ∧ (∀ j : Nat, j < m → g' (b + 1 + j) = g (b + j)) ∧ (∀ j : Nat, b + m < j → g' j = g j) := by
  intro m
  induction m with
  | zero =>
    intro fuel g h1 h2
    obtain ⟨k, rfl⟩ : ∃ k, fuel = k + 1 := ⟨fuel - 1, by omega⟩
    refine ⟨g, ?_, fun _ _ => rfl, fun j hj => absurd hj (by omega), fun _ _ => rfl⟩
    rw [X10_putsCall_L23, e_LE (by omega) (by omega) (by omega) (by omega), if_pos (by omega)]
  | succ m ih =>
    intro fuel g h1 h2
    obtain ⟨k, rfl⟩ : ∃ k, fuel = k + 1 := ⟨fuel - 1, by omega⟩
    obtain ⟨g', a1, a2, a3, a4⟩ := ih k (upI g (b + (m + 1)) (g (b + m))) (by omega) (by omega)
    refine ⟨g', ?_, fun j hj => ?_, fun j hj => ?_, fun j hj => ?_⟩
    · have e1 : (((b + (m + 1) : Nat) : Int) - 1).toNat = b + m := by omega
      have e2 : (((b + (m + 1) : Nat) : Int)).toNat = b + (m + 1) := by omega
      have e3 : ((b + (m + 1) : Nat) : Int) + -1 = ((b + m : Nat) : Int) := by omega
      rw [X10_putsCall_L23, e_LE (by omega) (by omega) (by omega) (by omega), if_neg (by omega), e_rd (by omega) (by omega), e_wr (by omega) (by omega), e1, e2, e3]
      exact a1
    · rw [a2 j hj, uI_ne (by omega)]
    · by_cases hm : j < m
      · rw [a3 j hm, uI_ne (by omega)]
      · have : j = m := by omega
        subst this
        have e : b + 1 + j = b + (j + 1) := by omega
        rw [e, a4 _ (by omega), uI_same]
    · rw [a4 j (by omega), uI_ne (by omega)]
theorem puts_eq {built parts : Arr} {b d q a : Nat} {code : Int} (hc0 : 0 ≤ code) (hc1 : code ≤ 60000) (ha : code % 10 = (a : Int)) (hp : parts q = (b : Int)) (hb : b + d < 30) (hq : q + a ≤ 30) (hq1 : q < 30) : ∃ built' : Arr, X10_putsCall built ((b + d : Nat) : Int) parts ((q + a : Nat) : Int) code = some (built', ((b + d + 1 : Nat) : Int), upI parts (q + 1) ((b + d + 1 : Nat) : Int), ((q + 1 : Nat) : Int)) ∧ (∀ j : Nat, j < b → built' j = built j) ∧ built' b = code ∧ ∀ j : Nat, j < d → built' (b + 1 + j) = built (b + j) := by
  obtain ⟨g', a1, a2, a3, -⟩ := puts_loop (fun w6 => wrK 30 w6 (b : Int) code (fun f7 => wrK 31 parts (((q + a : Nat) : Int) + (1 - (a : Int))) (((b + d : Nat) : Int) + 1) (fun f8 => some (f7, (((b + d : Nat) : Int) + 1), f8, (((q + a : Nat) : Int) + (1 - (a : Int))))))) ((b + d : Nat) : Int) parts ((q + a : Nat) : Int) code (a : Int) b d FU built hb (by rw [FU_eq]; omega)
  refine ⟨upI g' b code, ?_, fun j hj => ?_, uI_same _, fun j hj => ?_⟩
  · unfold X10_putsCall
    have e1 : (((q + a : Nat) : Int) - (a : Int)).toNat = q := by omega
    rw [X10_arguments_eq hc0 (by omega), ha, Option.bind_some, e_rd (by omega) (by omega), e1, hp, a1, e_wr (by omega) (by omega), e_wr (by omega) (by omega)]
    have e2 : ((q + a : Nat) : Int) + (1 - (a : Int)) = ((q + 1 : Nat) : Int) := by omega
    have e3 : ((b + d : Nat) : Int) + 1 = ((b + d + 1 : Nat) : Int) := by omega
    have e4 : ((b : Int)).toNat = b := by omega
    have e5 : (((q + 1 : Nat) : Int)).toNat = q + 1 := by omega
    rw [e2, e3, e4, e5]
  · rw [uI_ne (by omega), a2 j (by omega)]
  · rw [uI_ne (by omega), a3 j hj]
