/-! pure: the text of a program -/
def RT (V : Tx) (w : Arr) (o : Int) (t : Arr) (l : Int) : Prop := o = V.2.2.2 ∧ l = V.2.1 ∧ 0 ≤ V.2.1 ∧ 0 ≤ V.2.2.2 ∧ V.2.2.2 ≤ 30 ∧ (∀ j : Nat, j < V.2.1.toNat → t j = V.1 j ∧ 0 ≤ V.1 j ∧ V.1 j ≤ 200) ∧ ∀ j : Nat, j < V.2.2.2.toNat → w j = V.2.2.1 j ∧ 1 ≤ V.2.2.1 j ∧ V.2.2.1 j ≤ 4
def putT (V : Tx) (c : Int) : Tx := (upI V.1 V.2.1.toNat c, V.2.1 + 1, V.2.2.1, V.2.2.2)
theorem put_sim {V : Tx} {w t : Arr} {o l : Int} (h : RT V w o t l) (hl : V.2.1 < 120) {c : Int} (c0 : 0 ≤ c) (c1 : c ≤ 200) : X7_put V c = some (putT V c) ∧ X10_tells t l c = some (upI t l.toNat c, l + 1) ∧ RT (putT V c) w o (upI t l.toNat c) (l + 1) := by
  obtain ⟨h1, h2, h3, h4, h5, h6, h7⟩ := h
  subst h2
  refine ⟨?_, ?_, h1, rfl, by show 0 ≤ V.2.1 + 1; omega, h4, h5, fun j hj => ?_, h7⟩
  · unfold X7_put putT
    rw [e_LT (by omega) (by omega) (by decide) (by decide), if_pos hl, e_wr h3 (by omega)]
  · unfold X10_tells
    rw [e_wr h3 (by omega)]
  · have hj' : j < V.2.1.toNat + 1 := by
      have : j < (V.2.1 + 1).toNat := hj
      omega
    show upI t V.2.1.toNat c j = upI V.1 V.2.1.toNat c j ∧ 0 ≤ upI V.1 V.2.1.toNat c j ∧ upI V.1 V.2.1.toNat c j ≤ 200
    by_cases hq : j = V.2.1.toNat
    · subst hq
      rw [uI_same, uI_same]
      exact ⟨rfl, c0, c1⟩
    · rw [uI_ne hq, uI_ne hq]
      exact h6 j (by omega)
theorem fin_loop : ∀ (k : Nat) (V : Tx) (w t : Arr) (o l : Int), RT V w o t l → V.2.2.2 = (k : Int) → V.2.1 + 2 * (k : Int) + 1 ≤ 120 → ∃ (V' : Tx) (w' t' : Arr) (o' l' : Int), RT V' w' o' t' l' ∧ V'.2.1 + 2 * V'.2.2.2 ≤ V.2.1 + 2 * V.2.2.2 + 1 ∧ V'.2.2.2 ≤ V.2.2.2 ∧ (∀ fuel : Nat, k < fuel → X7_finishArgument_L0 (fun w6 => (X7_put w6 44).bind (fun v7 => some v7)) fuel V = some V') ∧ ∀ fuel : Nat, k + 1 < fuel → X10_tellsEnds_L13 (fun w18 w19 w20 w21 => some (w18, w19, w20, w21)) fuel (if o ≤ 0 then 0 else 1) w o t l = some (w', o', t', l') := by
  intro k
  induction k with
  | zero =>
    intro V w t o l h hk hb
    have ho : o = V.2.2.2 := h.1
    refine ⟨V, w, t, o, l, h, by omega, by omega, fun fuel hf => ?_, fun fuel hf => ?_⟩
    · obtain ⟨n, rfl⟩ : ∃ n, fuel = n + 1 := ⟨fuel - 1, by omega⟩
      rw [X7_finishArgument_L0, e_LE (by omega) (by omega) (by decide) (by decide), if_pos (by omega)]
    · obtain ⟨n, rfl⟩ : ∃ n, fuel = n + 1 := ⟨fuel - 1, by omega⟩
      rw [if_pos (by omega), X10_tellsEnds_L13, e_b0]
  | succ k ih =>
    intro V w t o l h hk hb
    obtain ⟨h1, h2, h3, h4, h5, h6, h7⟩ := id h
    obtain ⟨q1, q2, q3⟩ := h7 k (by omega)
    have ek : (V.2.2.2 - 1).toNat = k := by omega
    have eo : (o - 1).toNat = k := by omega
    have hfl : ¬ (o ≤ 0) := by omega
    -- the first steps of both sides
    have sC : ∀ n : Nat, X7_finishArgument_L0 (fun w6 => (X7_put w6 44).bind (fun v7 => some v7)) (n + 1) V = if V.2.2.1 k - 1 ≤ 0 then (X7_put (V.1, V.2.1, upI V.2.2.1 k (V.2.2.1 k - 1), V.2.2.2) 41).bind (fun v4 => X7_finishArgument_L0 (fun w6 => (X7_put w6 44).bind (fun v7 => some v7)) n (v4.1, v4.2.1, v4.2.2.1, (v4.2.2.2 - 1))) else (X7_put (V.1, V.2.1, upI V.2.2.1 k (V.2.2.1 k - 1), V.2.2.2) 44).bind (fun v7 => some v7) := by
      intro n
      rw [X7_finishArgument_L0, e_LE (by omega) (by omega) (by decide) (by decide), if_neg (by omega), e_rd (by omega) (by omega), e_wr (by omega) (by omega), e_rd (by omega) (by omega), ek, uI_same, e_LE (by omega) (by omega) (by decide) (by decide)]
    have sM : ∀ n : Nat, X10_tellsEnds_L13 (fun w18 w19 w20 w21 => some (w18, w19, w20, w21)) (n + 1) (if o ≤ 0 then 0 else 1) w o t l = if V.2.2.1 k - 1 = 0 then (X10_tells t l 41).bind (fun w10 => X10_tellsEnds_L13 (fun w18 w19 w20 w21 => some (w18, w19, w20, w21)) n (if o - 1 ≤ 0 then 0 else 1) (upI w k (w k - 1)) (o - 1) w10.1 w10.2) else (X10_tells t l 44).bind (fun w10 => X10_tellsEnds_L13 (fun w18 w19 w20 w21 => some (w18, w19, w20, w21)) n 0 (upI w k (w k - 1)) (o - 0) w10.1 w10.2) := by
      intro n
      rw [if_neg hfl, X10_tellsEnds_L13, e_b1, e_rd (by omega) (by omega), e_wr (by omega) (by omega), e_rd (by omega) (by omega), eo, uI_same, q1]
      simp only [e_lt]
      rw [e_EQ (by omega) (by omega) (by decide) (by decide)]
      by_cases hz : V.2.2.1 k - 1 = 0
      · rw [if_pos hz, if_pos hz]
        simp only [e_b1]
        congr 1
        funext w10
        rw [e_LE (by omega) (by omega) (by decide) (by decide)]
        by_cases hz2 : o - 1 ≤ 0
        · rw [if_pos hz2, if_pos hz2]
        · rw [if_neg hz2, if_neg hz2]
      · rw [if_neg hz, if_neg hz]
        simp only [e_b0]
    by_cases hz : V.2.2.1 k - 1 = 0
    · -- the call ends
      have hRT : RT (V.1, V.2.1, upI V.2.2.1 k (V.2.2.1 k - 1), V.2.2.2 - 1) (upI w k (w k - 1)) (o - 1) t l := by
        refine ⟨by show o - 1 = V.2.2.2 - 1; omega, h2, h3, by show 0 ≤ V.2.2.2 - 1; omega, by show V.2.2.2 - 1 ≤ 30; omega, h6, fun j hj => ?_⟩
        have hj' : j < k := by
          have : j < (V.2.2.2 - 1).toNat := hj
          omega
        show upI w k (w k - 1) j = upI V.2.2.1 k (V.2.2.1 k - 1) j ∧ 1 ≤ upI V.2.2.1 k (V.2.2.1 k - 1) j ∧ upI V.2.2.1 k (V.2.2.1 k - 1) j ≤ 4
        rw [uI_ne (by omega), uI_ne (by omega)]
        exact h7 j (by omega)
      obtain ⟨-, p2, p3⟩ := put_sim hRT (by show V.2.1 < 120; omega) (c := 41) (by decide) (by decide)
      obtain ⟨V', w', t', o', l', r1, r2, r3, r4, r5⟩ := ih _ _ _ _ _ p3 (by show V.2.2.2 - 1 = (k : Int); omega) (by show V.2.1 + 1 + 2 * (k : Int) + 1 ≤ 120; omega)
      have r2' : V'.2.1 + 2 * V'.2.2.2 ≤ V.2.1 + 1 + 2 * (V.2.2.2 - 1) + 1 := r2
      have r3' : V'.2.2.2 ≤ V.2.2.2 - 1 := r3
      have pC : X7_put (V.1, V.2.1, upI V.2.2.1 k (V.2.2.1 k - 1), V.2.2.2) 41 = some (putT (V.1, V.2.1, upI V.2.2.1 k (V.2.2.1 k - 1), V.2.2.2) 41) := by
        unfold X7_put putT
        rw [e_LT (by show -2147483648 ≤ V.2.1; omega) (by show V.2.1 ≤ 2147483647; omega) (by decide) (by decide), if_pos (by show V.2.1 < 120; omega), e_wr h3 (by show V.2.1 < 120; omega)]
      refine ⟨V', w', t', o', l', r1, by omega, by omega, fun fuel hf => ?_, fun fuel hf => ?_⟩
      · obtain ⟨n, rfl⟩ : ∃ n, fuel = n + 1 := ⟨fuel - 1, by omega⟩
        rw [sC, if_pos (by omega), pC, Option.bind_some]
        exact r4 n (by omega)
      · obtain ⟨n, rfl⟩ : ∃ n, fuel = n + 1 := ⟨fuel - 1, by omega⟩
        rw [sM, if_pos hz, p2, Option.bind_some]
        exact r5 n (by omega)
    · -- another argument follows
      have hRT : RT (V.1, V.2.1, upI V.2.2.1 k (V.2.2.1 k - 1), V.2.2.2) (upI w k (w k - 1)) o t l := by
        refine ⟨h1, h2, h3, h4, h5, h6, fun j hj => ?_⟩
        show upI w k (w k - 1) j = upI V.2.2.1 k (V.2.2.1 k - 1) j ∧ 1 ≤ upI V.2.2.1 k (V.2.2.1 k - 1) j ∧ upI V.2.2.1 k (V.2.2.1 k - 1) j ≤ 4
        by_cases hq : j = k
        · subst hq
          rw [uI_same, uI_same, q1]
          exact ⟨rfl, by omega, by omega⟩
        · rw [uI_ne hq, uI_ne hq]
          exact h7 j hj
      obtain ⟨p1, p2, p3⟩ := put_sim hRT (by show V.2.1 < 120; omega) (c := 44) (by decide) (by decide)
      refine ⟨_, _, _, _, _, p3, by show V.2.1 + 1 + 2 * V.2.2.2 ≤ V.2.1 + 2 * V.2.2.2 + 1; omega, by show V.2.2.2 ≤ V.2.2.2; omega, fun fuel hf => ?_, fun fuel hf => ?_⟩
      · obtain ⟨n, rfl⟩ : ∃ n, fuel = n + 1 := ⟨fuel - 1, by omega⟩
        rw [sC, if_neg (by omega), p1, Option.bind_some]
      · obtain ⟨n, rfl⟩ : ∃ n, fuel = n + 1 + 1 := ⟨fuel - 2, by omega⟩
        rw [sM, if_neg hz, p2, Option.bind_some, X10_tellsEnds_L13, e_b0, Int.sub_zero]
theorem fin_sim {V : Tx} {w t : Arr} {o l : Int} (h : RT V w o t l) (hb : V.2.1 + 2 * V.2.2.2 + 1 ≤ 120) : ∃ (V' : Tx) (w' t' : Arr) (o' l' : Int), RT V' w' o' t' l' ∧ V'.2.1 + 2 * V'.2.2.2 ≤ V.2.1 + 2 * V.2.2.2 + 1 ∧ V'.2.2.2 ≤ V.2.2.2 ∧ X7_finishArgument V = some V' ∧ X10_tellsEnds w o t l = some (w', o', t', l') := by
  obtain ⟨h1, h2, h3, h4, h5, h6, h7⟩ := id h
  obtain ⟨V', w', t', o', l', r1, r2, r3, r4, r5⟩ := fin_loop V.2.2.2.toNat V w t o l h (by omega) (by omega)
  refine ⟨V', w', t', o', l', r1, r2, r3, r4 FU (by rw [FU_eq]; omega), ?_⟩
  unfold X10_tellsEnds
  rw [e_lt, e_LE (by omega) (by omega) (by decide) (by decide)]
  have := r5 FU (by rw [FU_eq]; omega)
  by_cases hz : o ≤ 0
  · rw [if_pos hz] at this ⊢
    exact this
  · rw [if_neg hz] at this ⊢
    exact this
/-- a node's own bytes: a number, a variable, or a call's letter and bracket -/
theorem node_sim {m kd nm ac a : Int} (hm : m ≤ 4) (hN : nodeOK m kd nm ac a) {V : Tx} {w t : Arr} {o l : Int} (h : RT V w o t l) (hb : V.2.1 + 2 ≤ 120) : ∃ (V' : Tx) (t' : Arr) (l' : Int), RT V' w o t' l' ∧ V'.2.1 ≤ V.2.1 + 2 ∧ V'.2.2 = V.2.2 ∧ X10_tellsNode t l a = some (t', l') ∧ (¬ (kd = 2 ∨ kd = 3 ∨ kd = 4) → X7_writeLeaf V kd nm = some V') ∧ ((kd = 2 ∨ kd = 3 ∨ kd = 4) → (X7_firstLetterOf kd).bind (fun v1 => (X7_put V (v1 + nm)).bind (fun v3 => X7_put v3 40)) = some V') := by
  obtain ⟨n0, n1, n2, n3, n4, n5, n6, n7, n8⟩ := hN.facts hm
  have kd_eq : X10_kind a = some (a / 10000) := X10_kind_eq n0 (by omega)
  have wh_eq : X10_which a = some (a / 10 % 1000) := X10_which_eq n0 (by omega)
  rcases hN with ⟨a1, a2, a3, a4, a5⟩ | ⟨a1, a2, a3, a4⟩ | ⟨a1, a2, a3, a4, a5, a6⟩ | ⟨a1, a2, a3, a4, a5, a6⟩ | ⟨a1, a2, a3, a4, a5, a6⟩
  · have b1 : a / 10000 = 0 := by omega
    have b2 : a / 10 % 1000 = nm := by omega
    by_cases hq : nm ≤ 9
    · have em : nm.tmod 10 = nm := Int.tmod_eq_of_lt a2 (by omega)
      obtain ⟨p1, p2, p3⟩ := put_sim h (by omega) (c := 48 + nm) (by omega) (by omega)
      refine ⟨_, _, _, p3, by show V.2.1 + 1 ≤ _; omega, rfl, ?_, fun _ => ?_, fun hx => absurd hx (by omega)⟩
      · unfold X10_tellsNode sw3
        rw [wh_eq, Option.bind_some, kd_eq, Option.bind_some, b1, b2, if_pos (by decide), if_pos rfl, e_LE (by omega) (by omega) (by decide) (by decide), if_pos hq, e_rm (by omega) (by omega), em, p2]
        rfl
      · unfold X7_writeLeaf
        rw [e_EQ (by omega) (by omega) (by decide) (by decide), if_neg (by omega), e_LT (by omega) (by omega) (by decide) (by decide), if_pos (by omega), e_rm (by omega) (by omega), em, p1]
        rfl
    · have ed : nm.tdiv 10 = nm / 10 := Int.tdiv_eq_ediv_of_nonneg a2
      have em : nm.tmod 10 = nm % 10 := Int.tmod_eq_emod_of_nonneg a2
      obtain ⟨p1, p2, p3⟩ := put_sim h (by omega) (c := 48 + nm / 10) (by omega) (by omega)
      obtain ⟨r1, r2, r3⟩ := put_sim p3 (by show V.2.1 + 1 < 120; omega) (c := 48 + nm % 10) (by omega) (by omega)
      refine ⟨_, _, _, r3, by show V.2.1 + 1 + 1 ≤ _; omega, rfl, ?_, fun _ => ?_, fun hx => absurd hx (by omega)⟩
      · unfold X10_tellsNode sw3
        rw [wh_eq, Option.bind_some, kd_eq, Option.bind_some, b1, b2, if_pos (by decide), if_pos rfl, e_LE (by omega) (by omega) (by decide) (by decide), if_neg hq, e_dv (by omega) (by omega), ed, p2, Option.bind_some, e_rm (by omega) (by omega), em, r2]
        rfl
      · unfold X7_writeLeaf
        rw [e_EQ (by omega) (by omega) (by decide) (by decide), if_neg (by omega), e_LT (by omega) (by omega) (by decide) (by decide), if_neg (by omega), e_dv (by omega) (by omega), ed, p1, Option.bind_some, e_rm (by omega) (by omega), em, r1]
        rfl
  · obtain ⟨p1, p2, p3⟩ := put_sim h (by omega) (c := 120 + nm) (by omega) (by omega)
    refine ⟨_, _, _, p3, by show V.2.1 + 1 ≤ _; omega, rfl, ?_, fun _ => ?_, fun hx => absurd hx (by omega)⟩
    · unfold X10_tellsNode sw3
      rw [wh_eq, Option.bind_some, kd_eq, Option.bind_some]
      rcases a2 with b | b
      · rw [show a / 10000 = 1 by omega, if_pos (by decide), if_neg (by decide), if_pos rfl]
        rw [b] at p2
        rw [show (120 : Int) = 120 + 0 from rfl, p2, b]
        rfl
      · rw [show a / 10000 = 2 by omega, if_pos (by decide), if_neg (by decide), if_neg (by decide), if_pos rfl]
        rw [b] at p2
        rw [show (121 : Int) = 120 + 1 from rfl, p2, b]
        rfl
    · unfold X7_writeLeaf
      rw [e_EQ (by omega) (by omega) (by decide) (by decide), if_pos a1, p1]
      rfl
  · have b1 : a / 10000 = 3 := by omega
    have b2 : a / 10 % 1000 = nm := by omega
    obtain ⟨p1, p2, p3⟩ := put_sim h (by omega) (c := 97 + nm) (by omega) (by omega)
    obtain ⟨r1, r2, r3⟩ := put_sim p3 (by show V.2.1 + 1 < 120; omega) (c := 40) (by decide) (by decide)
    refine ⟨_, _, _, r3, by show V.2.1 + 1 + 1 ≤ _; omega, rfl, ?_, fun hx => absurd (Or.inl a1) hx, fun _ => ?_⟩
    · unfold X10_tellsNode sw3
      rw [wh_eq, Option.bind_some, kd_eq, Option.bind_some, b1, b2, if_pos (by decide), if_neg (by decide), if_neg (by decide), if_neg (by decide), Option.bind_some, e_EQ (by decide) (by decide) (by decide) (by decide), if_pos rfl, p2, Option.bind_some, r2]
      rfl
    · unfold X7_firstLetterOf
      rw [e_EQ (by omega) (by omega) (by decide) (by decide), if_pos a1, Option.bind_some, p1, Option.bind_some, r1]
  · have b1 : a / 10000 = 4 := by omega
    have b2 : a / 10 % 1000 = nm := by omega
    obtain ⟨p1, p2, p3⟩ := put_sim h (by omega) (c := 65 + nm) (by omega) (by omega)
    obtain ⟨r1, r2, r3⟩ := put_sim p3 (by show V.2.1 + 1 < 120; omega) (c := 40) (by decide) (by decide)
    refine ⟨_, _, _, r3, by show V.2.1 + 1 + 1 ≤ _; omega, rfl, ?_, fun hx => absurd (Or.inr (Or.inl a1)) hx, fun _ => ?_⟩
    · unfold X10_tellsNode sw3
      rw [wh_eq, Option.bind_some, kd_eq, Option.bind_some, b1, b2, if_pos (by decide), if_neg (by decide), if_neg (by decide), if_neg (by decide), Option.bind_some, e_EQ (by decide) (by decide) (by decide) (by decide), if_neg (by decide), Option.bind_some, e_EQ (by decide) (by decide) (by decide) (by decide), if_pos rfl, p2, Option.bind_some, r2]
      rfl
    · unfold X7_firstLetterOf
      rw [e_EQ (by omega) (by omega) (by decide) (by decide), if_neg (by omega), e_EQ (by omega) (by omega) (by decide) (by decide), if_pos a1, Option.bind_some, p1, Option.bind_some, r1]
  · have b1 : a / 10000 = 5 := by omega
    have b2 : a / 10 % 1000 = nm := by omega
    obtain ⟨p1, p2, p3⟩ := put_sim h (by omega) (c := 112 + nm) (by omega) (by omega)
    obtain ⟨r1, r2, r3⟩ := put_sim p3 (by show V.2.1 + 1 < 120; omega) (c := 40) (by decide) (by decide)
    refine ⟨_, _, _, r3, by show V.2.1 + 1 + 1 ≤ _; omega, rfl, ?_, fun hx => absurd (Or.inr (Or.inr a1)) hx, fun _ => ?_⟩
    · unfold X10_tellsNode sw3
      rw [wh_eq, Option.bind_some, kd_eq, Option.bind_some, b1, b2, if_pos (by decide), if_neg (by decide), if_neg (by decide), if_neg (by decide), Option.bind_some, e_EQ (by decide) (by decide) (by decide) (by decide), if_neg (by decide), Option.bind_some, e_EQ (by decide) (by decide) (by decide) (by decide), if_neg (by decide), p2, Option.bind_some, r2]
      rfl
    · unfold X7_firstLetterOf
      rw [e_EQ (by omega) (by omega) (by decide) (by decide), if_neg (by omega), e_EQ (by omega) (by omega) (by decide) (by decide), if_neg (by omega), Option.bind_some, p1, Option.bind_some, r1]
