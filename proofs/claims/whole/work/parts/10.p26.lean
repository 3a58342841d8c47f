/-! migrate: sizes, and the reason -/
section WK
variable {S : St} {A built parts : Arr} {x b q a f t u : Nat} {st : Nat → Nat}
theorem SiteP.top (h : SiteP S A built parts x b q a st) : st a ≤ 30 := by
  have := h.2.2.2.2.2.1
  have := h.2.1
  omega
theorem src_st (h : SiteP S A built parts x b q a st) (hf : f < 6) {p : Nat} (hp : p < 4) (hw : S.2.2.2.2.2.2.1.2.1 (4 * f + p) < (a : Int)) (hc : S.2.2.2.2.2.2.1.2.1 (4 * f + p) ≠ -1) : ∃ s : Nat, S.2.2.2.2.2.2.1.2.1 (4 * f + p) = (s : Int) ∧ s < a ∧ s ≤ 2 ∧ st s < st (s + 1) ∧ st (s + 1) ≤ st a ∧ x + 1 ≤ st s := by
  rcases ent_cases h.1 hf hp with ⟨d1, -⟩ | ⟨d1, d2, -⟩
  · exact absurd d1 hc
  · refine ⟨(S.2.2.2.2.2.2.1.2.1 (4 * f + p)).toNat, by omega, by omega, by omega, h.nxt (by omega), (h.mono _ (by omega)).2.1, (h.mono _ (by omega)).1⟩
theorem szs_bd (h : SiteP S A built parts x b q a st) (hf : f < 6) (hu : u ≤ 4) (hw : ∀ p : Nat, p < u → S.2.2.2.2.2.2.1.2.1 (4 * f + p) < (a : Int)) : ∀ n : Nat, n ≤ u → (n : Int) ≤ szs S f st n ∧ szs S f st n ≤ 30 * n := by
  intro n
  induction n with
  | zero => intro _; exact ⟨Int.le_refl _, Int.le_refl _⟩
  | succ n ih =>
    intro hn
    have i1 := ih (by omega)
    have hs : szs S f st (n + 1) = szs S f st n + (if S.2.2.2.2.2.2.1.2.1 (4 * f + n) = -1 then 1 else ((st ((S.2.2.2.2.2.2.1.2.1 (4 * f + n)).toNat + 1) : Nat) : Int) - ((st (S.2.2.2.2.2.2.1.2.1 (4 * f + n)).toNat : Nat) : Int)) := rfl
    have ht := h.top
    by_cases hc : S.2.2.2.2.2.2.1.2.1 (4 * f + n) = -1
    · rw [if_pos hc] at hs
      omega
    · rw [if_neg hc] at hs
      obtain ⟨s, s1, s2, s3, s4, s5, s6⟩ := src_st h hf (by omega) (hw n (by omega)) hc
      rw [s1] at hs
      simp only [Int.toNat_natCast] at hs
      omega
theorem sa_eq (h : SiteP S A built parts x b q a st) (hf : f < 6) (hu : u ≤ 4) (ha : a ≤ 3) (hw : ∀ p : Nat, p < u → S.2.2.2.2.2.2.1.2.1 (4 * f + p) < (a : Int)) (hac : S.2.2.2.2.2.2.2.1.2.2.2 x = (a : Int)) {V : Mv} (hV : ∀ i : Nat, i ≤ a → V.2.1 i = ((st i : Nat) : Int)) : X5_sizeAfterReplacing S V (x : Int) (f : Int) (u : Int) = some (S.2.2.2.2.2.2.2.1.1 - (((st a : Nat) : Int) - (x : Int)) + 1 + szs S f st u) := by
  have key : ∀ (k fuel y : Nat) (z : Int), y + k = u → k < fuel → X5_sizeAfterReplacing_L25 (fun w11 => some w11) S V (f : Int) (u : Int) fuel z (y : Int) = some (z + (szs S f st u - szs S f st y)) := by
    intro k
    induction k with
    | zero =>
      intro fuel y z h1 h2
      obtain ⟨n, rfl⟩ : ∃ n, fuel = n + 1 := ⟨fuel - 1, by omega⟩
      have : y = u := by omega
      subst this
      rw [X5_sizeAfterReplacing_L25, e_LT (by omega) (by omega) (by omega) (by omega), if_neg (by omega)]
      exact congrArg some (by omega)
    | succ k ih =>
      intro fuel y z h1 h2
      obtain ⟨n, rfl⟩ : ∃ n, fuel = n + 1 := ⟨fuel - 1, by omega⟩
      have e2 : (y : Int) + 1 = ((y + 1 : Nat) : Int) := by omega
      have hs : szs S f st (y + 1) = szs S f st y + (if S.2.2.2.2.2.2.1.2.1 (4 * f + y) = -1 then 1 else ((st ((S.2.2.2.2.2.2.1.2.1 (4 * f + y)).toNat + 1) : Nat) : Int) - ((st (S.2.2.2.2.2.2.1.2.1 (4 * f + y)).toNat : Nat) : Int)) := rfl
      rw [X5_sizeAfterReplacing_L25, e_LT (by omega) (by omega) (by omega) (by omega), if_pos (by omega), src_eq hf (by omega), Option.bind_some, e2]
      by_cases hc : S.2.2.2.2.2.2.1.2.1 (4 * f + y) = -1
      · rw [if_pos hc] at hs
        rw [X9_isSource_eq ⟨by omega, by omega⟩, Option.bind_some, e_lt, e_b10, if_neg (by omega)]
        dsimp only
        rw [ih n (y + 1) _ (by omega) (by omega)]
        exact congrArg some (by omega)
      · rw [if_neg hc] at hs
        obtain ⟨s, s1, s2, s3, s4, s5, s6⟩ := src_st h hf (by omega) (hw y (by omega)) hc
        rw [s1] at hs ⊢
        simp only [Int.toNat_natCast] at hs
        have e4 : ((s : Int) + 1).toNat = s + 1 := by omega
        have e5 : ((s : Int)).toNat = s := by omega
        rw [X9_isSource_eq ⟨by omega, by omega⟩, Option.bind_some, e_lt, e_b10, if_pos (by omega), e_rd (by omega) (by omega), e_rd (by omega) (by omega), e4, e5, hV _ (by omega), hV _ (by omega)]
        dsimp only
        rw [ih n (y + 1) _ (by omega) (by omega)]
        exact congrArg some (by omega)
  unfold X5_sizeAfterReplacing
  rw [endOf_eq (WE.call hac h.2.2.2.1 h.2.2.2.2.1) h.2.2.2.2.2.1 h.2.1 h.2.2.1, Option.bind_some]
  refine (key u FU 0 _ (by omega) (by rw [FU_eq]; omega)).trans ?_
  exact congrArg some (by show _ + (szs S f st u - 0) = _; omega)
theorem rs_eq (h : SiteP S A built parts x b q a st) : X10_size parts (q : Int) ((q + a : Nat) : Int) = some (((st a : Nat) : Int) - ((x : Int) + 1)) := by
  have p0 := h.2.2.2.2.2.2.1 0 (by omega)
  have p1 := h.2.2.2.2.2.2.1 a (by omega)
  have h0 := h.2.2.2.1
  have hq := h.2.2.2.2.2.2.2.1
  have m1 := h.mono a (Nat.le_refl _)
  simp only [Nat.add_zero] at p0
  unfold X10_size
  rw [e_rd (by omega) (by omega), e_rd (by omega) (by omega), show (((q + a : Nat) : Int)).toNat = q + a by omega, show ((q : Int)).toNat = q by omega, p0, p1]
  exact congrArg some (by omega)
theorem rt_eq (h : SiteP S A built parts x b q a st) (hf : f < 6) (hu : u ≤ 4) (hus : X10_used A (f : Int) = some (u : Int)) (ha : a ≤ 3) (hw : ∀ p : Nat, p < u → S.2.2.2.2.2.2.1.2.1 (4 * f + p) < (a : Int)) : X10_sizeThen A parts (f : Int) (q : Int) = some (szs S f st u) := by
  have key : ∀ (k fuel y : Nat) (z : Int), y + k = u → k < fuel → X10_sizeThen_L5 (fun w9 => some w9) A parts (f : Int) (q : Int) fuel z (y : Int) = some (z + (szs S f st u - szs S f st y)) := by
    intro k
    induction k with
    | zero =>
      intro fuel y z h1 h2
      obtain ⟨n, rfl⟩ : ∃ n, fuel = n + 1 := ⟨fuel - 1, by omega⟩
      have : y = u := by omega
      subst this
      rw [X10_sizeThen_L5, hus, Option.bind_some, e_LT (by omega) (by omega) (by omega) (by omega), if_neg (by omega)]
      exact congrArg some (by omega)
    | succ k ih =>
      intro fuel y z h1 h2
      obtain ⟨n, rfl⟩ : ∃ n, fuel = n + 1 := ⟨fuel - 1, by omega⟩
      have e2 : (y : Int) + 1 = ((y + 1 : Nat) : Int) := by omega
      have hs : szs S f st (y + 1) = szs S f st y + (if S.2.2.2.2.2.2.1.2.1 (4 * f + y) = -1 then 1 else ((st ((S.2.2.2.2.2.2.1.2.1 (4 * f + y)).toNat + 1) : Nat) : Int) - ((st (S.2.2.2.2.2.2.1.2.1 (4 * f + y)).toNat : Nat) : Int)) := rfl
      rw [X10_sizeThen_L5, hus, Option.bind_some, e_LT (by omega) (by omega) (by omega) (by omega), if_pos (by omega), e2]
      rcases ent_cases h.1 hf (p := y) (by omega) with ⟨c1, c2, c3, c4⟩ | ⟨c1, c2, c4⟩
      · rw [if_pos c1] at hs
        rw [c4, Option.bind_some, e_lt, e_LT (by omega) (by omega) (by decide) (by decide), if_neg (by omega)]
        dsimp only
        rw [ih n (y + 1) _ (by omega) (by omega)]
        exact congrArg some (by omega)
      · have hc : S.2.2.2.2.2.2.1.2.1 (4 * f + y) ≠ -1 := by omega
        rw [if_neg hc] at hs
        obtain ⟨s, s1, s2, s3, s4, s5, s6⟩ := src_st h hf (by omega) (hw y (by omega)) hc
        have hq := h.2.2.2.2.2.2.2.1
        have p0 := h.2.2.2.2.2.2.1 s (by omega)
        have p1 := h.2.2.2.2.2.2.1 (s + 1) (by omega)
        rw [s1] at hs c4
        simp only [Int.toNat_natCast] at hs
        have hsz : X10_size parts ((q : Int) + (s : Int)) ((q : Int) + (s : Int) + 1) = some (((st (s + 1) : Nat) : Int) - ((st s : Nat) : Int)) := by
          unfold X10_size
          rw [e_rd (by omega) (by omega), e_rd (by omega) (by omega), show ((q : Int) + (s : Int) + 1).toNat = q + (s + 1) by omega, show ((q : Int) + (s : Int)).toNat = q + s by omega, p0, p1]
          exact congrArg some (by omega)
        rw [c4, Option.bind_some, e_lt, e_LT (by omega) (by omega) (by decide) (by decide), if_pos (by omega), hsz, Option.bind_some]
        dsimp only
        rw [ih n (y + 1) _ (by omega) (by omega)]
        exact congrArg some (by omega)
  refine (key u FU 0 0 (by omega) (by rw [FU_eq]; omega)).trans ?_
  exact congrArg some (by show 0 + (szs S f st u - 0) = _; omega)
theorem why_both (h : SiteP S A built parts x b q a st) (hf : f < 6) (hu : u ≤ 4) (hus : X10_used A (f : Int) = some (u : Int)) {code : Int} (hcode : X10_arguments code = some (a : Int)) (hwhich : X10_which code = some (f : Int)) (ha : a ≤ 3) (hw : ∀ p : Nat, p < u → S.2.2.2.2.2.2.1.2.1 (4 * f + p) < (a : Int)) {V : Mv} (hV : ∀ i : Nat, i < a → V.2.2 i = eF A built parts q i) {total : Int} (t0 : 0 ≤ total) (t1 : total ≤ 30) : ∃ r : Int, 0 ≤ r ∧ r ≤ 6 ∧ X5_effectReason S.2.2.2.2.2.2.1 V (f : Int) (u : Int) (a : Int) = some r ∧ X10_reason A built parts ((q + a : Nat) : Int) total code = if r = 0 then (if total - (((st a : Nat) : Int) - ((x : Int) + 1)) + szs S f st u ≤ 30 then some 0 else some 7) else some r := by
  have hE : ∀ i : Nat, i < a → (eF A built parts q i = 0 ∨ eF A built parts q i = 1) ∧ X10_hasEffect A built parts ((q + i : Nat) : Int) = some (eF A built parts q i) := fun i hi => ⟨(h.effs hi).1, (h.effs hi).2.2⟩
  obtain ⟨t', l', i1, i2, i3, i4⟩ := flags_both h.1 hf hu hus hcode ((q + a : Nat) : Int) total ha hV hE a 0 0 0 (by omega) (Or.inl rfl) (Or.inl rfl)
  have hro := reord_both h.1 hf hu hus ((q + a : Nat) : Int) total ha hw hV hE u 0 (-1) (by omega) (by decide) (by decide)
  have hz := szs_bd h hf hu hw u (Nat.le_refl _)
  have htop := h.top
  have m1 := h.mono a (Nat.le_refl _)
  have e1 : ((q + a : Nat) : Int) - (a : Int) = (q : Int) := by omega
  have c1 := i3 FU (fun w17 w18 => brEQ w17 0 (brEQ w18 0 ((X5_reordersEffects S.2.2.2.2.2.2.1 V (f : Int) (u : Int)).bind (fun v19 => brEQ v19 0 (some 0) (some 6))) (some 5)) (some 4)) (by rw [FU_eq]; omega)
  have hR : X10_reason A built parts ((q + a : Nat) : Int) total code = brEQ t' 0 (brEQ l' 0 (X10_reason_L129 ((X10_size parts (q : Int) ((q + a : Nat) : Int)).bind (fun v37 => (X10_sizeThen A parts (f : Int) (q : Int)).bind (fun v39 => brLE ((total - v37) + v39) 30 (some 0) (some 7)))) A built parts ((q + a : Nat) : Int) total (f : Int) (q : Int) FU (-1) 0) (brEQ t' 0 (some 5) (some 4))) (brEQ t' 0 (some 5) (some 4)) := by
    unfold X10_reason X10_first
    rw [hwhich, Option.bind_some, hcode, Option.bind_some, Option.bind_some, e1]
    exact i4 FU _ (by rw [FU_eq]; omega)
  have hC : X5_effectReason S.2.2.2.2.2.2.1 V (f : Int) (u : Int) (a : Int) = brEQ t' 0 (brEQ l' 0 ((X5_reordersEffects S.2.2.2.2.2.2.1 V (f : Int) (u : Int)).bind (fun v19 => brEQ v19 0 (some 0) (some 6))) (some 5)) (some 4) := c1
  rw [hR, hC, rs_eq h, Option.bind_some, rt_eq h hf hu hus ha hw, Option.bind_some]
  rcases i1 with rfl | rfl
  · rcases i2 with rfl | rfl
    · simp only [e_b0]
      rcases hro with ⟨r1, r2⟩ | ⟨r1, r2⟩
      · have r1' : X5_reordersEffects S.2.2.2.2.2.2.1 V (f : Int) (u : Int) = some 1 := r1 FU (some 0) (by rw [FU_eq]; omega)
        refine ⟨6, by decide, by decide, ?_, ?_⟩
        · rw [r1', Option.bind_some, e_b1]
        · rw [if_neg (by decide)]
          exact r2 FU _ (by rw [FU_eq]; omega)
      · have r1' : X5_reordersEffects S.2.2.2.2.2.2.1 V (f : Int) (u : Int) = some 0 := r1 FU (some 0) (by rw [FU_eq]; omega)
        refine ⟨0, by decide, by decide, ?_, ?_⟩
        · rw [r1', Option.bind_some, e_b0]
        · rw [if_pos rfl]
          refine (r2 FU _ (by rw [FU_eq]; omega)).trans ?_
          rw [e_LE (by omega) (by omega) (by decide) (by decide)]
    · refine ⟨5, by decide, by decide, ?_, ?_⟩
      · rw [e_b0, e_b1]
      · rw [e_b0, e_b1, e_b0, if_neg (by decide)]
  · refine ⟨4, by decide, by decide, ?_, ?_⟩
    · rw [e_b1]
    · rw [e_b1, e_b1, if_neg (by decide)]
end WK
