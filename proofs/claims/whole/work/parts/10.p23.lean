/-! migrate: a site whose arguments are treated -/
def eF (A built parts : Arr) (q i : Nat) : Int := (X10_hasEffect A built parts ((q + i : Nat) : Int)).getD 0
def SiteP (S : St) (A built parts : Arr) (x b q a : Nat) (st : Nat → Nat) : Prop :=
  RQ S A ∧ S.2.2.2.2.2.2.2.1.1 ≤ 30 ∧ (∀ i : Nat, (i : Int) < S.2.2.2.2.2.2.2.1.1 → 0 ≤ S.2.2.2.2.2.2.2.1.2.2.2 i ∧ S.2.2.2.2.2.2.2.1.2.2.2 i ≤ 4) ∧ st 0 = x + 1 ∧ (∀ i : Nat, i < a → WE S.2.2.2.2.2.2.2.1.2.2.2 (st i) (st (i + 1))) ∧ ((st a : Nat) : Int) ≤ S.2.2.2.2.2.2.2.1.1 ∧ (∀ i : Nat, i ≤ a → parts (q + i) = ((b + (st i - (x + 1)) : Nat) : Int)) ∧ q + a ≤ 30 ∧ b + (st a - (x + 1)) < 30 ∧ ∀ j : Nat, j < st a - (x + 1) → nodeOK S.2.2.2.1 (S.2.2.2.2.2.2.2.1.2.1 (x + 1 + j)) (S.2.2.2.2.2.2.2.1.2.2.1 (x + 1 + j)) (S.2.2.2.2.2.2.2.1.2.2.2 (x + 1 + j)) (built (b + j))
section SI
variable {S : St} {A built parts : Arr} {x b q a : Nat} {st : Nat → Nat}
theorem SiteP.mono (h : SiteP S A built parts x b q a st) : ∀ i : Nat, i ≤ a → x + 1 ≤ st i ∧ st i ≤ st a ∧ st i + (a - i) ≤ st a := by
  obtain ⟨-, -, -, h0, hW, -⟩ := h
  have up : ∀ i : Nat, i ≤ a → x + 1 ≤ st i := by
    intro i
    induction i with
    | zero => intro _; omega
    | succ i ih => intro hi; have := ih (by omega); have := (hW i (by omega)).1; omega
  have dn : ∀ k : Nat, k ≤ a → st (a - k) + k ≤ st a := by
    intro k
    induction k with
    | zero => intro _; exact Nat.le_refl _
    | succ k ih =>
      intro hk
      have := ih (by omega)
      have h1 := (hW (a - (k + 1)) (by omega)).1
      have e : a - (k + 1) + 1 = a - k := by omega
      rw [e] at h1
      omega
  intro i hi
  have h1 := dn (a - i) (by omega)
  have e : a - (a - i) = i := by omega
  rw [e] at h1
  exact ⟨up i hi, by omega, h1⟩
theorem SiteP.nxt (h : SiteP S A built parts x b q a st) {i : Nat} (hi : i < a) : st i < st (i + 1) := (h.2.2.2.2.1 i hi).1
theorem SiteP.effs (h : SiteP S A built parts x b q a st) {i : Nat} (hi : i < a) : (eF A built parts q i = 0 ∨ eF A built parts q i = 1) ∧ X8_hasEffect S ((st i : Nat) : Int) ((st (i + 1) : Nat) : Int) = some (eF A built parts q i) ∧ X10_hasEffect A built parts ((q + i : Nat) : Int) = some (eF A built parts q i) := by
  have m1 := h.mono i (by omega)
  have m2 := h.mono (i + 1) (by omega)
  have hn := h.nxt hi
  obtain ⟨hQ, h30, hac, h0, hW, hsz, hpt, hqa, hb, hN⟩ := h
  have p1 := hpt i (by omega)
  have p2 := hpt (i + 1) (by omega)
  have e1 : st i + (st (i + 1) - st i) = st (i + 1) := by omega
  have e2 : b + (st i - (x + 1)) + (st (i + 1) - st i) = b + (st (i + 1) - (x + 1)) := by omega
  have e3 : q + (i + 1) = q + i + 1 := by omega
  obtain ⟨e, g1, g2, g3⟩ := eff_both hQ h30 (built := built) (parts := parts) (s := st i) (t := b + (st i - (x + 1))) (len := st (i + 1) - st i) (i := q + i) (by rw [e1]; omega) (by rw [e2]; omega) (by omega) p1 (by rw [e2, ← e3]; exact p2) (by
    intro j hj
    have := hN (st i - (x + 1) + j) (by omega)
    have f1 : x + 1 + (st i - (x + 1) + j) = st i + j := by omega
    have f2 : b + (st i - (x + 1) + j) = b + (st i - (x + 1)) + j := by omega
    rw [f1, f2] at this
    exact this)
  rw [e1] at g2
  have he : eF A built parts q i = e := by unfold eF; rw [g3]; rfl
  rw [he]
  exact ⟨g1, g2, g3⟩
theorem fa_loop (h : SiteP S A built parts x b q a st) (ha : a ≤ 3) : ∀ (k fuel y : Nat) (V : Mv), y + k = a → k < fuel → (∀ i : Nat, i ≤ y → V.2.1 i = ((st i : Nat) : Int)) → (∀ i : Nat, i < y → V.2.2 i = eF A built parts q i) → ∃ V' : Mv, X5_findArguments_L26 (fun w13 => some w13) S (a : Int) fuel (y : Int) V = some V' ∧ (∀ i : Nat, i ≤ a → V'.2.1 i = ((st i : Nat) : Int)) ∧ ∀ i : Nat, i < a → V'.2.2 i = eF A built parts q i := by
  intro k
  induction k with
  | zero =>
    intro fuel y V h1 h2 h3 h4
    obtain ⟨n, rfl⟩ : ∃ n, fuel = n + 1 := ⟨fuel - 1, by omega⟩
    have : y = a := by omega
    subst this
    refine ⟨V, ?_, h3, h4⟩
    rw [X5_findArguments_L26, e_LT (by omega) (by omega) (by omega) (by omega), if_neg (by omega)]
  | succ k ih =>
    intro fuel y V h1 h2 h3 h4
    obtain ⟨n, rfl⟩ : ∃ n, fuel = n + 1 := ⟨fuel - 1, by omega⟩
    have hy : y < a := by omega
    have m2 := h.mono (y + 1) (by omega)
    obtain ⟨f1, f2, f3⟩ := h.effs hy
    have hend : X6_endOf S.2.2.2.2.2.2.2.1 ((st y : Nat) : Int) = some ((st (y + 1) : Nat) : Int) := endOf_eq (h.2.2.2.2.1 y hy) (by have := h.2.2.2.2.2.1; omega) h.2.1 h.2.2.1
    have e1 : ((y : Int)).toNat = y := by omega
    have e2 : (y : Int) + 1 = ((y + 1 : Nat) : Int) := by omega
    have e3 : (((y + 1 : Nat) : Int)).toNat = y + 1 := by omega
    obtain ⟨V', g1, g2⟩ := ih n (y + 1) (V.1, upI V.2.1 (y + 1) ((st (y + 1) : Nat) : Int), upI V.2.2 y (eF A built parts q y)) (by omega) (by omega) (by
      intro i hi
      show upI V.2.1 (y + 1) _ i = _
      by_cases e : i = y + 1
      · subst e; exact uI_same _
      · rw [uI_ne e]; exact h3 i (by omega)) (by
      intro i hi
      show upI V.2.2 y _ i = _
      by_cases e : i = y
      · subst e; exact uI_same _
      · rw [uI_ne e]; exact h4 i (by omega))
    refine ⟨V', ?_, g2⟩
    rw [X5_findArguments_L26, e_LT (by omega) (by omega) (by omega) (by omega), if_pos (by omega), e_rd (by omega) (by omega), e1, h3 y (Nat.le_refl _), hend, Option.bind_some, e2, e_wr (by omega) (by omega), e3, e_rd (by omega) (by omega), e1, uI_ne (by omega), h3 y (Nat.le_refl _), e_rd (by omega) (by omega), e3, uI_same, f2, Option.bind_some, e_bo' f1, e_wr (by omega) (by omega), e1]
    exact g1
theorem fa_eq (h : SiteP S A built parts x b q a st) (ha : a ≤ 3) (hx : (x : Int) < S.2.2.2.2.2.2.2.1.1) (hac : S.2.2.2.2.2.2.2.1.2.2.2 x = (a : Int)) (V : Mv) : ∃ V' : Mv, X5_findArguments S V (x : Int) = some V' ∧ (∀ i : Nat, i ≤ a → V'.2.1 i = ((st i : Nat) : Int)) ∧ ∀ i : Nat, i < a → V'.2.2 i = eF A built parts q i := by
  have h30 := h.2.1
  have h0 := h.2.2.2.1
  obtain ⟨V', g1, g2⟩ := fa_loop h ha a FU 0 (V.1, upI V.2.1 0 ((x : Int) + 1), V.2.2) (by omega) (by rw [FU_eq]; omega) (by
      intro i hi
      have : i = 0 := by omega
      subst this
      show upI V.2.1 0 ((x : Int) + 1) 0 = _
      rw [uI_same, h0]
      omega) (fun i hi => absurd hi (by omega))
  refine ⟨V', ?_, g2⟩
  unfold X5_findArguments mnK
  rw [e_rd (by omega) (by omega), show ((x : Int)).toNat = x by omega, hac, if_pos ⟨⟨by omega, by omega⟩, by decide⟩, if_neg (by omega)]
  dsimp only
  rw [e_wr (by decide) (by decide)]
  exact g1
end SI
