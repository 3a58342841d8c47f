/-! pure: the combinators, read as plain conditionals -/
section PE
variable {β : Type} {a b d x v : Int} {n sn dn : Nat} {f g : Nat → Int} {X Y : Option β} {K : Int → Option β} {F : (Nat → Int) → Option β}
theorem e_LT (h1 : -2147483648 ≤ a) (h2 : a ≤ 2147483647) (h3 : -2147483648 ≤ b) (h4 : b ≤ 2147483647) : brLT a b X Y = if a < b then X else Y := by unfold brLT; rw [if_pos ⟨⟨h1, h2⟩, h3, h4⟩]
theorem e_LE (h1 : -2147483648 ≤ a) (h2 : a ≤ 2147483647) (h3 : -2147483648 ≤ b) (h4 : b ≤ 2147483647) : brLE a b X Y = if a ≤ b then X else Y := by unfold brLE; rw [if_pos ⟨⟨h1, h2⟩, h3, h4⟩]
theorem e_EQ (h1 : -2147483648 ≤ a) (h2 : a ≤ 2147483647) (h3 : -2147483648 ≤ b) (h4 : b ≤ 2147483647) : brEQ a b X Y = if a = b then X else Y := by unfold brEQ; rw [if_pos ⟨⟨h1, h2⟩, h3, h4⟩]
theorem e_b10 {c : Prop} [Decidable c] : brEQ (if c then (1 : Int) else 0) 0 X Y = if c then Y else X := by
  by_cases h : c
  · rw [if_pos h, if_pos h, e_EQ (by decide) (by decide) (by decide) (by decide), if_neg (by decide)]
  · rw [if_neg h, if_neg h, e_EQ (by decide) (by decide) (by decide) (by decide), if_pos rfl]
theorem e_b1 : brEQ 1 0 X Y = Y := by rw [e_EQ (by decide) (by decide) (by decide) (by decide), if_neg (by decide)]
theorem e_b0 : brEQ 0 0 X Y = X := by rw [e_EQ (by decide) (by decide) (by decide) (by decide), if_pos rfl]
theorem e_rd (h1 : 0 ≤ x) (h2 : x < (n : Int)) : rdK n f x K = K (f x.toNat) := by unfold rdK; rw [if_pos ⟨h1, h2⟩]
theorem e_wr (h1 : 0 ≤ x) (h2 : x < (n : Int)) : wrK n f x v F = F (upI f x.toNat v) := by unfold wrK; rw [if_pos ⟨h1, h2⟩]
theorem e_dv (h1 : -2147483648 ≤ a) (h2 : a ≤ 2147483647) : dvK a d K = K (a.tdiv d) := by unfold dvK; rw [if_pos ⟨h1, h2⟩]
theorem e_rm (h1 : -2147483648 ≤ a) (h2 : a ≤ 2147483647) : rmK a d K = K (a.tmod d) := by unfold rmK; rw [if_pos ⟨h1, h2⟩]
theorem e_lg (h1 : -2147483648 ≤ a) (h2 : a ≤ 2147483647) : lgK a X = X := by unfold lgK; rw [if_pos ⟨h1, h2⟩]
theorem e_bo {c : Prop} [Decidable c] : boK (if c then (1 : Int) else 0) X = X := by
  unfold boK
  by_cases h : c
  · rw [if_pos h]; rfl
  · rw [if_neg h]; rfl
theorem e_bo' (h : v = 0 ∨ v = 1) : boK v X = X := by unfold boK; rw [if_pos h]
theorem e_cp {sp dp m : Int} (h1 : 0 ≤ sp) (h2 : 0 ≤ dp) (h3 : 0 ≤ m) (h4 : sp + m ≤ (sn : Int)) (h5 : dp + m ≤ (dn : Int)) : cpK sn dn f g sp dp m F = F (cpI f g sp.toNat dp.toNat m.toNat) := by unfold cpK; rw [if_pos ⟨h1, h2, h3, h4, h5⟩]
theorem e_lt {P : Type} {J : P → Option β} {G : (P → Option β) → Option β} : ltK J G = G J := rfl
theorem uI_same (k : Nat) : upI f k v k = v := by unfold upI; rw [if_pos rfl]
theorem uI_ne {k j : Nat} (h : j ≠ k) : upI f k v j = f j := by unfold upI; rw [if_neg h]
end PE
theorem X9_within_eq {x lo hi : Int} (h1 : -2147483648 ≤ x) (h2 : x ≤ 2147483647) (h3 : -2147483648 ≤ lo) (h4 : lo ≤ 2147483647) (h5 : -2147483648 ≤ hi) (h6 : hi ≤ 2147483647) : X9_within x lo hi = some (if lo ≤ x ∧ x ≤ hi then 1 else 0) := by
  unfold X9_within
  rw [e_LT h1 h2 h3 h4, e_LE h1 h2 h5 h6]
  by_cases h : lo ≤ x ∧ x ≤ hi
  · rw [if_pos h, if_neg (by omega), if_pos h.2]
  · rw [if_neg h]
    by_cases h7 : x < lo
    · rw [if_pos h7]
    · rw [if_neg h7, if_neg (by omega)]
theorem X10_in_eq {x lo hi : Int} (h1 : -2147483648 ≤ x) (h2 : x ≤ 2147483647) (h3 : -2147483648 ≤ lo) (h4 : lo ≤ 2147483647) (h5 : -2147483648 ≤ hi) (h6 : hi ≤ 2147483647) : X10_in x lo hi = some (if lo ≤ x ∧ x ≤ hi then 1 else 0) := by
  have hc : ∀ (p q : Int), -2147483648 ≤ p → p ≤ 2147483647 → -2147483648 ≤ q → q ≤ 2147483647 → ∀ (K : Int → Option Int), lcK p q K = K (if q < p then 1 else if p = q then 0 else -1) := by
    intro p q a1 a2 a3 a4 K
    unfold lcK
    rw [if_pos ⟨⟨by omega, by omega⟩, by omega, by omega⟩]
  unfold X10_in
  rw [hc x lo h1 h2 h3 h4, hc x hi h1 h2 h5 h6]
  by_cases h : lo ≤ x ∧ x ≤ hi
  · rw [if_pos h]
    have q1 : ¬ ((if lo < x then (1 : Int) else if x = lo then 0 else -1) < 0) := by split <;> (try split) <;> omega
    have q2 : (if hi < x then (1 : Int) else if x = hi then 0 else -1) ≤ 0 := by split <;> (try split) <;> omega
    rw [e_LT (by split <;> (try split) <;> omega) (by split <;> (try split) <;> omega) (by decide) (by decide), if_neg q1, e_LE (by split <;> (try split) <;> omega) (by split <;> (try split) <;> omega) (by decide) (by decide), if_pos q2]
  · rw [if_neg h, e_LT (by split <;> (try split) <;> omega) (by split <;> (try split) <;> omega) (by decide) (by decide), e_LE (by split <;> (try split) <;> omega) (by split <;> (try split) <;> omega) (by decide) (by decide)]
    by_cases h7 : x < lo
    · have q1 : (if lo < x then (1 : Int) else if x = lo then 0 else -1) < 0 := by split <;> (try split) <;> omega
      rw [if_pos q1]
    · have q1 : ¬ ((if lo < x then (1 : Int) else if x = lo then 0 else -1) < 0) := by split <;> (try split) <;> omega
      have q2 : ¬ ((if hi < x then (1 : Int) else if x = hi then 0 else -1) ≤ 0) := by split <;> (try split) <;> omega
      rw [if_neg q1, if_neg q2]
theorem X9_isOld_eq {x : Int} (h : Rg x) : X9_isOld x = some (if 0 ≤ x ∧ x ≤ 5 then 1 else 0) := by
  unfold X9_isOld
  rw [X9_within_eq h.1 h.2 (by decide) (by decide) (by decide) (by decide), Option.bind_some, e_bo]
theorem X9_isNew_eq {x : Int} (h : Rg x) : X9_isNew x = some (if 0 ≤ x ∧ x ≤ 5 then 1 else 0) := by
  unfold X9_isNew
  rw [X9_within_eq h.1 h.2 (by decide) (by decide) (by decide) (by decide), Option.bind_some, e_bo]
theorem X9_isTermPosition_eq {x : Int} (h : Rg x) : X9_isTermPosition x = some (if -1 ≤ x ∧ x ≤ 3 then 1 else 0) := by
  unfold X9_isTermPosition
  rw [X9_within_eq h.1 h.2 (by decide) (by decide) (by decide) (by decide), Option.bind_some, e_bo]
theorem X9_isEntryPosition_eq {x : Int} (h : Rg x) : X9_isEntryPosition x = some (if 0 ≤ x ∧ x ≤ 3 then 1 else 0) := by
  unfold X9_isEntryPosition
  rw [X9_within_eq h.1 h.2 (by decide) (by decide) (by decide) (by decide), Option.bind_some, e_bo]
theorem X9_isSource_eq {x : Int} (h : Rg x) : X9_isSource x = some (if 0 ≤ x ∧ x ≤ 2 then 1 else 0) := by
  unfold X9_isSource
  rw [X9_within_eq h.1 h.2 (by decide) (by decide) (by decide) (by decide), Option.bind_some, e_bo]
theorem X10_isFunction_eq {x : Int} (h : Rg x) : X10_isFunction x = some (if 0 ≤ x ∧ x ≤ 5 then 1 else 0) := by
  unfold X10_isFunction
  rw [e_lg h.1 h.2, X10_in_eq h.1 h.2 (by decide) (by decide) (by decide) (by decide), Option.bind_some, e_bo]
theorem X9_isCall_eq {x : Int} (h : Rg x) : X9_isCall x = some (if x = 2 ∨ x = 3 ∨ x = 4 then 1 else 0) := by
  unfold X9_isCall
  rw [e_EQ h.1 h.2 (by decide) (by decide), e_EQ h.1 h.2 (by decide) (by decide), e_EQ h.1 h.2 (by decide) (by decide)]
  by_cases h2 : x = 2
  · rw [if_pos h2, if_pos (Or.inl h2)]
  · rw [if_neg h2]
    by_cases h3 : x = 3
    · rw [if_pos h3, if_pos (Or.inr (Or.inl h3))]
    · rw [if_neg h3]
      by_cases h4 : x = 4
      · rw [if_pos h4, if_pos (Or.inr (Or.inr h4))]
      · rw [if_neg h4, if_neg (by omega)]
/-! function tables -/
theorem X1_arityOf_eq {c : Nat} (hc : c ≤ 1000) (T : FT) {x : Int} (h : Rg x) : X1_arityOf c T x = some (if 0 ≤ x ∧ x ≤ (c : Int) - 1 then T.1 x.toNat else 0) := by
  unfold X1_arityOf
  rw [X9_within_eq h.1 h.2 (by decide) (by decide) (by omega) (by omega), Option.bind_some, e_b10]
  by_cases h1 : 0 ≤ x ∧ x ≤ (c : Int) - 1
  · rw [if_pos h1, if_pos h1, e_rd h1.1 (by omega)]
  · rw [if_neg h1, if_neg h1]
theorem X1_effectOf_eq {c : Nat} (hc : c ≤ 1000) (T : FT) {x : Int} (h : Rg x) : X1_effectOf c T x = some (if 0 ≤ x ∧ x ≤ (c : Int) - 1 then T.2.1 x.toNat else 0) := by
  unfold X1_effectOf
  rw [X9_within_eq h.1 h.2 (by decide) (by decide) (by omega) (by omega), Option.bind_some, e_b10]
  by_cases h1 : 0 ≤ x ∧ x ≤ (c : Int) - 1
  · rw [if_pos h1, if_pos h1, e_rd h1.1 (by omega)]
  · rw [if_neg h1, if_neg h1]
theorem X1_term_eq {c : Nat} (hc : c ≤ 1000) (T : FT) {x p : Int} (h1 : 0 ≤ x) (h2 : x < (c : Int)) (h3 : -1 ≤ p) (h4 : p ≤ 3) : X1_term c T x p = some (T.2.2 (5 * x.toNat + (p + 1).toNat)) := by
  unfold X1_term X1_slotOf
  rw [Option.bind_some, X9_within_eq (by omega) (by omega) (by decide) (by decide) (by omega) (by omega), Option.bind_some, e_b10, if_pos (by omega), e_rd (by omega) (by omega)]
  refine congrArg some (congrArg _ ?_)
  omega
theorem X1_putShape_eq {c : Nat} (hc : c ≤ 1000) (T : FT) {x p q : Int} (h1 : 0 ≤ x) (h2 : x < (c : Int)) : X1_putShape c T x p q = some (upI T.1 x.toNat p, upI T.2.1 x.toNat q, T.2.2) := by
  unfold X1_putShape
  rw [X9_within_eq (by omega) (by omega) (by decide) (by decide) (by omega) (by omega), Option.bind_some, e_b10, if_pos (by omega), e_wr h1 h2, e_wr h1 h2]
theorem X1_putTerm_eq {c : Nat} (hc : c ≤ 1000) (T : FT) {x p q : Int} (h1 : 0 ≤ x) (h2 : x < (c : Int)) (h3 : -1 ≤ p) (h4 : p ≤ 3) : X1_putTerm c T x p q = some (T.1, T.2.1, upI T.2.2 (5 * x.toNat + (p + 1).toNat) q) := by
  unfold X1_putTerm X1_slotOf
  rw [Option.bind_some, X9_within_eq (by omega) (by omega) (by decide) (by decide) (by omega) (by omega), Option.bind_some, e_b10, if_pos (by omega), e_wr (by omega) (by omega)]
  congr 4
  omega
/-! mappings -/
theorem X4_targetOf_eq (P : Mp) {x : Int} (h1 : 0 ≤ x) (h2 : x ≤ 5) : X4_targetOf P x = some (P.1 x.toNat) := by
  unfold X4_targetOf
  rw [X9_within_eq (by omega) (by omega) (by decide) (by decide) (by decide) (by decide), Option.bind_some, e_b10, if_pos ⟨h1, h2⟩, e_rd h1 (by omega)]
theorem X4_putTarget_eq (P : Mp) {x q : Int} (h1 : 0 ≤ x) (h2 : x ≤ 5) : X4_putTarget P x q = some (upI P.1 x.toNat q, P.2.1, P.2.2) := by
  unfold X4_putTarget
  rw [X9_within_eq (by omega) (by omega) (by decide) (by decide) (by decide) (by decide), Option.bind_some, e_b10, if_pos ⟨h1, h2⟩, e_wr h1 (by omega)]
theorem X4_sourceAt_eq (P : Mp) {x p : Int} (h1 : 0 ≤ x) (h2 : x ≤ 5) (h3 : 0 ≤ p) (h4 : p ≤ 3) : X4_sourceAt P x p = some (P.2.1 (4 * x.toNat + p.toNat)) := by
  unfold X4_sourceAt
  rw [X9_within_eq (by omega) (by omega) (by decide) (by decide) (by decide) (by decide), Option.bind_some, e_b10, if_pos (by omega), e_rd (by omega) (by omega)]
  refine congrArg some (congrArg _ ?_)
  omega
theorem X4_constantAt_eq (P : Mp) {x p : Int} (h1 : 0 ≤ x) (h2 : x ≤ 5) (h3 : 0 ≤ p) (h4 : p ≤ 3) : X4_constantAt P x p = some (P.2.2 (4 * x.toNat + p.toNat)) := by
  unfold X4_constantAt
  rw [X9_within_eq (by omega) (by omega) (by decide) (by decide) (by decide) (by decide), Option.bind_some, e_b10, if_pos (by omega), e_rd (by omega) (by omega)]
  refine congrArg some (congrArg _ ?_)
  omega
theorem X4_putEntry_eq (P : Mp) {x p q r : Int} (h1 : 0 ≤ x) (h2 : x ≤ 5) (h3 : 0 ≤ p) (h4 : p ≤ 3) : X4_putEntry P x p q r = some (P.1, upI P.2.1 (4 * x.toNat + p.toNat) q, upI P.2.2 (4 * x.toNat + p.toNat) r) := by
  unfold X4_putEntry
  have e : (x * 4 + p).toNat = 4 * x.toNat + p.toNat := by omega
  rw [X9_within_eq (by omega) (by omega) (by decide) (by decide) (by decide) (by decide), Option.bind_some, e_b10, if_pos (by omega), e_wr (by omega) (by omega), e_wr (by omega) (by omega), e]
theorem X8_adapterNumber_eq (S : St) {x : Int} (h1 : 0 ≤ x) (h2 : x ≤ 5) : X8_adapterNumber S x = some (S.2.2.2.2.1 x.toNat) := by
  unfold X8_adapterNumber
  rw [X9_within_eq (by omega) (by omega) (by decide) (by decide) (by decide) (by decide), Option.bind_some, e_b10, if_pos ⟨h1, h2⟩, e_rd h1 (by omega)]
