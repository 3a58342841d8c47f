/-! migrate: why a site is left -/
section WH
variable (S : St) (f : Nat)
def us (s : Int) : Nat → Int
  | 0 => 0
  | p + 1 => us s p + (if S.2.2.2.2.2.2.1.2.1 (4 * f + p) = s then 1 else 0)
def szs (st : Nat → Nat) : Nat → Int
  | 0 => 0
  | p + 1 => szs st p + (if S.2.2.2.2.2.2.1.2.1 (4 * f + p) = -1 then 1 else ((st ((S.2.2.2.2.2.2.1.2.1 (4 * f + p)).toNat + 1) : Nat) : Int) - ((st (S.2.2.2.2.2.2.1.2.1 (4 * f + p)).toNat : Nat) : Int))
end WH
section WI
variable {S : St} {A built parts : Arr} {x b q a f t u : Nat} {st : Nat → Nat}
theorem us_bd (s : Int) : ∀ n : Nat, 0 ≤ us S f s n ∧ us S f s n ≤ n
  | 0 => ⟨Int.le_refl _, Int.le_refl _⟩
  | n + 1 => by
    have := us_bd s n
    show 0 ≤ us S f s n + _ ∧ us S f s n + _ ≤ _
    split <;> omega
theorem ent_cases (hQ : RQ S A) (hf : f < 6) {p : Nat} (hp : p < 4) : (S.2.2.2.2.2.2.1.2.1 (4 * f + p) = -1 ∧ 0 ≤ S.2.2.2.2.2.2.1.2.2 (4 * f + p) ∧ S.2.2.2.2.2.2.1.2.2 (4 * f + p) ≤ 99 ∧ X10_entry A (f : Int) (p : Int) = some (100 + S.2.2.2.2.2.2.1.2.2 (4 * f + p))) ∨ (0 ≤ S.2.2.2.2.2.2.1.2.1 (4 * f + p) ∧ S.2.2.2.2.2.2.1.2.1 (4 * f + p) ≤ 2 ∧ X10_entry A (f : Int) (p : Int) = some (S.2.2.2.2.2.2.1.2.1 (4 * f + p))) := by
  rcases (hQ.2.2.2.2.1 f hf).2.2.2 p hp with ⟨h1, h2, h3, h4⟩ | ⟨h1, h2, h3⟩
  · exact Or.inl ⟨h1, h2, h3, by rw [X10_entry_eq A hf hp, h4]⟩
  · exact Or.inr ⟨h1, h2, by rw [X10_entry_eq A hf hp, h3]⟩
theorem src_eq (hf : f < 6) {p : Nat} (hp : p < 4) : X4_sourceAt S.2.2.2.2.2.2.1 (f : Int) (p : Int) = some (S.2.2.2.2.2.2.1.2.1 (4 * f + p)) := by
  rw [X4_sourceAt_eq _ (by omega) (by omega) (by omega) (by omega)]
  exact congrArg some (congrArg _ (by omega))
theorem cu_loop (hQ : RQ S A) (hf : f < 6) (hu : u ≤ 4) {s : Int} (s0 : 0 ≤ s) (s1 : s ≤ 2) : ∀ (k fuel y : Nat) (z : Int), y + k = u → k < fuel → X5_countUses_L6 (fun w5 => some w5) S.2.2.2.2.2.2.1 (f : Int) (u : Int) s fuel z (y : Int) = some (z + (us S f s u - us S f s y)) := by
  intro k
  induction k with
  | zero =>
    intro fuel y z h1 h2
    obtain ⟨n, rfl⟩ : ∃ n, fuel = n + 1 := ⟨fuel - 1, by omega⟩
    have : y = u := by omega
    subst this
    rw [X5_countUses_L6, e_LT (by omega) (by omega) (by omega) (by omega), if_neg (by omega)]
    exact congrArg some (by omega)
  | succ k ih =>
    intro fuel y z h1 h2
    obtain ⟨n, rfl⟩ : ∃ n, fuel = n + 1 := ⟨fuel - 1, by omega⟩
    have e2 : (y : Int) + 1 = ((y + 1 : Nat) : Int) := by omega
    have hb := ent_cases hQ hf (p := y) (by omega)
    have hs : us S f s (y + 1) = us S f s y + (if S.2.2.2.2.2.2.1.2.1 (4 * f + y) = s then 1 else 0) := rfl
    rw [X5_countUses_L6, e_LT (by omega) (by omega) (by omega) (by omega), if_pos (by omega), src_eq hf (by omega), Option.bind_some, e_lt, e_EQ (by omega) (by omega) (by omega) (by omega), e2]
    by_cases hc : S.2.2.2.2.2.2.1.2.1 (4 * f + y) = s
    · rw [if_pos hc] at hs ⊢
      dsimp only
      rw [ih n (y + 1) _ (by omega) (by omega)]
      exact congrArg some (by omega)
    · rw [if_neg hc] at hs ⊢
      dsimp only
      rw [ih n (y + 1) _ (by omega) (by omega)]
      exact congrArg some (by omega)
theorem cu_eq (hQ : RQ S A) (hf : f < 6) (hu : u ≤ 4) {s : Int} (s0 : 0 ≤ s) (s1 : s ≤ 2) : X5_countUses S.2.2.2.2.2.2.1 (f : Int) (u : Int) s = some (us S f s u) := by
  refine (cu_loop hQ hf hu s0 s1 u FU 0 0 (by omega) (by rw [FU_eq]; omega)).trans ?_
  exact congrArg some (by show 0 + (us S f s u - 0) = _; omega)
theorem ru_eq (hQ : RQ S A) (hf : f < 6) (hu : u ≤ 4) (hus : X10_used A (f : Int) = some (u : Int)) {s : Int} (s0 : 0 ≤ s) (s1 : s ≤ 2) : X10_uses A (f : Int) s = some (us S f s u) := by
  have key : ∀ (k fuel y : Nat) (z : Int), y + k = u → k < fuel → X10_uses_L5 (fun w7 => some w7) A (f : Int) s fuel z (y : Int) = some (z + (us S f s u - us S f s y)) := by
    intro k
    induction k with
    | zero =>
      intro fuel y z h1 h2
      obtain ⟨n, rfl⟩ : ∃ n, fuel = n + 1 := ⟨fuel - 1, by omega⟩
      have : y = u := by omega
      subst this
      rw [X10_uses_L5, hus, Option.bind_some, e_LT (by omega) (by omega) (by omega) (by omega), if_neg (by omega)]
      exact congrArg some (by omega)
    | succ k ih =>
      intro fuel y z h1 h2
      obtain ⟨n, rfl⟩ : ∃ n, fuel = n + 1 := ⟨fuel - 1, by omega⟩
      have e2 : (y : Int) + 1 = ((y + 1 : Nat) : Int) := by omega
      have hs : us S f s (y + 1) = us S f s y + (if S.2.2.2.2.2.2.1.2.1 (4 * f + y) = s then 1 else 0) := rfl
      rw [X10_uses_L5, hus, Option.bind_some, e_LT (by omega) (by omega) (by omega) (by omega), if_pos (by omega)]
      rcases ent_cases hQ hf (p := y) (by omega) with ⟨c1, c2, c3, c4⟩ | ⟨c1, c2, c4⟩
      · rw [if_neg (by omega)] at hs
        rw [c4, Option.bind_some, e_lt, e_EQ (by omega) (by omega) (by omega) (by omega), if_neg (by omega), e2]
        dsimp only
        rw [ih n (y + 1) _ (by omega) (by omega)]
        exact congrArg some (by omega)
      · rw [c4, Option.bind_some, e_lt, e_EQ (by omega) (by omega) (by omega) (by omega), e2]
        by_cases hc : S.2.2.2.2.2.2.1.2.1 (4 * f + y) = s
        · rw [if_pos hc] at hs ⊢
          dsimp only
          rw [ih n (y + 1) _ (by omega) (by omega)]
          exact congrArg some (by omega)
        · rw [if_neg hc] at hs ⊢
          dsimp only
          rw [ih n (y + 1) _ (by omega) (by omega)]
          exact congrArg some (by omega)
  refine (key u FU 0 0 (by omega) (by rw [FU_eq]; omega)).trans ?_
  exact congrArg some (by show 0 + (us S f s u - 0) = _; omega)
def tw (t e n : Int) : Int := if t = 0 then (if e = 0 then 0 else if n ≤ 1 then 0 else 1) else 1
def lo (l e n : Int) : Int := if l = 0 then (if e = 0 then 0 else if n = 0 then 1 else 0) else 1
theorem tw_01 (t e n : Int) : tw t e n = 0 ∨ tw t e n = 1 := by
  unfold tw
  repeat' split
  all_goals first | exact Or.inl rfl | exact Or.inr rfl
theorem lo_01 (t e n : Int) : lo t e n = 0 ∨ lo t e n = 1 := by
  unfold lo
  repeat' split
  all_goals first | exact Or.inl rfl | exact Or.inr rfl
theorem er9_step (hQ : RQ S A) (hf : f < 6) (hu : u ≤ 4) {V : Mv} {y : Nat} (hy : y < a) (ha : a ≤ 3) {e t l : Int} (hV : V.2.2 y = e) (he : e = 0 ∨ e = 1) (ht : t = 0 ∨ t = 1) (hl : l = 0 ∨ l = 1) (kx : Int → Int → Option Int) (n : Nat) : X5_effectReason_L9 kx S.2.2.2.2.2.2.1 V (f : Int) (u : Int) (a : Int) (n + 1) t l (y : Int) = X5_effectReason_L9 kx S.2.2.2.2.2.2.1 V (f : Int) (u : Int) (a : Int) n (tw t e (us S f y u)) (lo l e (us S f y u)) ((y + 1 : Nat) : Int) := by
  have hb := us_bd (S := S) (f := f) (y : Int) u
  have e1 : ((y : Int)).toNat = y := by omega
  have e2 : (y : Int) + 1 = ((y + 1 : Nat) : Int) := by omega
  have hrd : ∀ K : Int → Option Int, rdK 3 V.2.2 (y : Int) K = K e := fun K => by rw [e_rd (by omega) (by omega), e1, hV]
  have hLE : ∀ X Y : Option Int, brLE (us S f y u) 1 X Y = if us S f y u ≤ 1 then X else Y := fun X Y => e_LE (by omega) (by omega) (by decide) (by decide)
  have hEQ : ∀ X Y : Option Int, brEQ (us S f y u) 0 X Y = if us S f y u = 0 then X else Y := fun X Y => e_EQ (by omega) (by omega) (by decide) (by decide)
  rw [X5_effectReason_L9, e_LT (by omega) (by omega) (by omega) (by omega), if_pos (by omega), e_LT (by omega) (by omega) (by omega) (by omega), if_pos (by omega), cu_eq hQ hf hu (by omega) (by omega), Option.bind_some, e2]
  unfold tw lo
  simp only [e_lt, hrd, hLE, hEQ]
  by_cases h1 : us S f y u ≤ 1 <;> by_cases h2 : us S f y u = 0 <;> rcases ht with rfl | rfl <;> rcases hl with rfl | rfl <;> rcases he with rfl | rfl <;> simp only [e_b0, e_b1, h1, h2, if_false, if_pos] <;> first | rfl | (exfalso; omega)
theorem re20_step (hQ : RQ S A) (hf : f < 6) (hu : u ≤ 4) (hus : X10_used A (f : Int) = some (u : Int)) {code : Int} (hcode : X10_arguments code = some (a : Int)) {pm total : Int} {y : Nat} (hy : y < a) (ha : a ≤ 3) {e t l : Int} (hE : X10_hasEffect A built parts ((q + y : Nat) : Int) = some e) (he : e = 0 ∨ e = 1) (ht : t = 0 ∨ t = 1) (hl : l = 0 ∨ l = 1) (kx : Int → Int → Option Int) (n : Nat) : X10_reason_L20 kx A built parts pm total code (f : Int) (q : Int) (n + 1) t l (y : Int) = X10_reason_L20 kx A built parts pm total code (f : Int) (q : Int) n (tw t e (us S f y u)) (lo l e (us S f y u)) ((y + 1 : Nat) : Int) := by
  have hb := us_bd (S := S) (f := f) (y : Int) u
  have e2 : (y : Int) + 1 = ((y + 1 : Nat) : Int) := by omega
  have e3 : (q : Int) + (y : Int) = ((q + y : Nat) : Int) := by omega
  have hLE : ∀ X Y : Option Int, brLE (us S f y u) 1 X Y = if us S f y u ≤ 1 then X else Y := fun X Y => e_LE (by omega) (by omega) (by decide) (by decide)
  have hEQ : ∀ X Y : Option Int, brEQ (us S f y u) 0 X Y = if us S f y u = 0 then X else Y := fun X Y => e_EQ (by omega) (by omega) (by decide) (by decide)
  have hru := ru_eq hQ hf hu hus (s := (y : Int)) (by omega) (by omega)
  rw [X10_reason_L20, hcode, Option.bind_some, e_LT (by omega) (by omega) (by omega) (by omega), if_pos (by omega), e2, e3]
  unfold tw lo
  simp only [e_lt, hE, hru, Option.bind_some, hLE, hEQ]
  by_cases h1 : us S f y u ≤ 1 <;> by_cases h2 : us S f y u = 0 <;> rcases ht with rfl | rfl <;> rcases hl with rfl | rfl <;> rcases he with rfl | rfl <;> simp only [e_b0, e_b1, h1, h2, if_false, if_pos] <;> first | rfl | (exfalso; omega)
end WI
