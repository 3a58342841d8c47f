/-! migrate: the new call takes the site's place -/
section WN
variable {S : St} {A built parts : Arr} {x b q a f t u : Nat} {st : Nat → Nat}
def setP (S : St) (P : Pg) : St := (S.1, S.2.1, S.2.2.1, S.2.2.2.1, S.2.2.2.2.1, S.2.2.2.2.2.1, S.2.2.2.2.2.2.1, P, S.2.2.2.2.2.2.2.2)
theorem new_both (h : SiteP S A built parts x b q a st) (hf : f < 6) (ht : t < 6) (hft : S.2.2.2.2.2.2.1.1 f = (t : Int)) (hut : S.2.1.1 t = (u : Int)) (hu : u ≤ 4) (ha : a ≤ 3) (hw : ∀ p : Nat, p < u → S.2.2.2.2.2.2.1.2.1 (4 * f + p) < (a : Int)) (hx : (x : Int) < S.2.2.2.2.2.2.2.1.1) (hbx : b ≤ x) (hqb : q ≤ b) (hac : S.2.2.2.2.2.2.2.1.2.2.2 x = (a : Int)) (hz : S.2.2.2.2.2.2.2.1.1 - (((st a : Nat) : Int) - ((x : Int) + 1)) + szs S f st u ≤ 30) {V : Mv} (hV : ∀ i : Nat, i ≤ a → V.2.1 i = ((st i : Nat) : Int)) {code : Int} (hcode : X10_arguments code = some (a : Int)) (hwhich : X10_which code = some (f : Int)) (taken : Arr) (bm : Int) : ∃ (n len : Nat) (P' : Pg) (V' : Mv) (built' taken' : Arr), S.2.2.2.2.2.2.2.1.1 = ((st a + len : Nat) : Int) ∧ (n : Int) = 1 + szs S f st u ∧ X5_replaceSite S V (x : Int) (f : Int) (u : Int) = some (setP S P', V') ∧ X10_becomesNew A built bm parts ((q + a : Nat) : Int) taken S.2.2.2.2.2.2.2.1.1 code = some (built', ((b + n : Nat) : Int), upI parts (q + 1) ((b + n : Nat) : Int), ((q + 1 : Nat) : Int), taken', P'.1) ∧ P'.1 = ((x + n + len : Nat) : Int) ∧ x + n + len ≤ 30 ∧ 1 ≤ n ∧ (∀ j : Nat, j < b → built' j = built j) ∧ (∀ j : Nat, j < n → nodeOK S.2.2.2.1 (P'.2.1 (x + j)) (P'.2.2.1 (x + j)) (P'.2.2.2 (x + j)) (built' (b + j))) ∧ WE P'.2.2.2 x (x + n) ∧ (∀ j : Nat, j < x → P'.2.1 j = S.2.2.2.2.2.2.2.1.2.1 j ∧ P'.2.2.1 j = S.2.2.2.2.2.2.2.1.2.2.1 j ∧ P'.2.2.2 j = S.2.2.2.2.2.2.2.1.2.2.2 j) ∧ ∀ j : Nat, j < len → P'.2.1 (x + n + j) = S.2.2.2.2.2.2.2.1.2.1 (st a + j) ∧ P'.2.2.1 (x + n + j) = S.2.2.2.2.2.2.2.1.2.2.1 (st a + j) ∧ P'.2.2.2 (x + n + j) = S.2.2.2.2.2.2.2.1.2.2.2 (st a + j) := by
  have hQ := h.1
  have h30 := h.2.1
  have htop := h.top
  have hsz := h.2.2.2.2.2.1
  have hpt := h.2.2.2.2.2.2.1
  have hq := h.2.2.2.2.2.2.2.1
  have m1 := h.mono a (Nat.le_refl _)
  have zb := szs_bd h hf hu hw u (Nat.le_refl _)
  have hus : X10_used A (f : Int) = some (u : Int) := by rw [q_X10_used_eq hQ hf ht hft, hut]
  have p0 := hpt 0 (by omega)
  have h0 := h.2.2.2.1
  simp only [Nat.add_zero] at p0
  have p0' : parts q = (b : Int) := by rw [p0, h0]; omega
  obtain ⟨len, hlen⟩ : ∃ len : Nat, S.2.2.2.2.2.2.2.1.1 = ((st a + len : Nat) : Int) := ⟨S.2.2.2.2.2.2.2.1.1.toNat - st a, by omega⟩
  have hq1 : q + 1 ≤ 30 := by omega
  obtain ⟨R', T', i1, i2, i3⟩ := new_loop h hf hu hus ha hw hx (by omega) hV bm ((q + a : Nat) : Int) (S.2.2.2.2.2.2.2.1.1 + (szs S f st u - (((st a : Nat) : Int) - ((x : Int) + 1)))) u 0 (adP (0, V.1.2.1, V.1.2.2.1, V.1.2.2.2) 3 (t : Int) (u : Int)) (upI taken 0 (10000 * 4 + 10 * (t : Int) + (u : Int))) (by omega) (by
    refine ⟨by show (0 : Int) + 1 = 1 + 0; rfl, ?_, ?_, ?_⟩
    · intro j hj
      have hj' : j < ((0 : Int) + 1).toNat := hj
      have : j = 0 := by omega
      subst this
      show nodeOK _ (upI V.1.2.1 0 3 0) (upI V.1.2.2.1 0 (t : Int) 0) (upI V.1.2.2.2 0 (u : Int) 0) (upI taken 0 _ 0)
      rw [uI_same, uI_same, uI_same, uI_same]
      exact Or.inr (Or.inr (Or.inr (Or.inl ⟨rfl, by omega, by omega, by omega, by omega, by omega⟩)))
    · intro j hj
      have hj' : j < ((0 : Int) + 1).toNat := hj
      have : j = 0 := by omega
      subst this
      exact Int.le_refl _
    · show (1 : Int) - 1 + upI V.1.2.2.2 0 (u : Int) 0 = _
      rw [uI_same]; omega)
  obtain ⟨n1, n2, n3, n4⟩ := i1
  obtain ⟨n, hn⟩ : ∃ n : Nat, R'.1 = (n : Int) := ⟨R'.1.toNat, by omega⟩
  have hnn : R'.1.toNat = n := by omega
  rw [hnn] at n2 n3 n4
  obtain ⟨g', d1, d2, d3⟩ := cp182 (A := A) (parts := parts) (fun w36 => wrK 31 parts ((q : Int) + 1) ((b : Int) + (n : Int)) (fun f37 => some (w36, ((b : Int) + (n : Int)), f37, ((q : Int) + 1), T', S.2.2.2.2.2.2.2.1.1 + (szs S f st u - (((st a : Nat) : Int) - ((x : Int) + 1)))))) bm ((q + a : Nat) : Int) (S.2.2.2.2.2.2.2.1.1 + (szs S f st u - (((st a : Nat) : Int) - ((x : Int) + 1)))) (q : Int) T' (n := n) (b := b) (by omega) n FU 0 built (by omega) (by rw [FU_eq]; omega)
  refine ⟨n, len, (((x + n + len : Nat) : Int), rpl S.2.2.2.2.2.2.2.1.2.1 R'.2.1 x (st a) n len, rpl S.2.2.2.2.2.2.2.1.2.2.1 R'.2.2.1 x (st a) n len, rpl S.2.2.2.2.2.2.2.1.2.2.2 R'.2.2.2 x (st a) n len), (R', V.2.1, V.2.2), g', T', hlen, by omega, ?_, ?_, rfl, by omega, by omega, fun j hj => d2 j (by omega), ?_, ?_, fun j hj => ⟨rpl_lo hj, rpl_lo hj, rpl_lo hj⟩, fun j hj => ⟨rpl_hi hj, rpl_hi hj, rpl_hi hj⟩⟩
  · unfold X5_replaceSite
    rw [X4_targetOf_eq _ (by omega) (by omega), Option.bind_some, show ((f : Int)).toNat = f by omega, hft, add_ad (0, V.1.2.1, V.1.2.2.1, V.1.2.2.2) _ _ _ (by show (0 : Int) ≤ 0; decide) (by show (0 : Int) < 30; decide), Option.bind_some]
    refine (i2 FU _ (by rw [FU_eq]; omega)).trans ?_
    rw [endOf_eq (WE.call hac h.2.2.2.1 h.2.2.2.2.1) h.2.2.2.2.2.1 h.2.1 h.2.2.1, Option.bind_some]
    show (X6_replace S.2.2.2.2.2.2.2.1 R' (x : Int) ((st a : Nat) : Int)).bind _ = _
    rw [repl_eq hlen hn (by omega) (by omega) (by omega), Option.bind_some]
    rfl
  · unfold X10_becomesNew X10_first X10_node
    have hnew : X10_newOf A (f : Int) = some (t : Int) := by rw [X10_newOf_eq A hf, (hQ.2.2.2.2.1 f hf).1, hft]
    have e1 : ((q + a : Nat) : Int) - (a : Int) = (q : Int) := by omega
    rw [hwhich, Option.bind_some, hcode, Option.bind_some, Option.bind_some, e1, hnew, Option.bind_some, hus, Option.bind_some, Option.bind_some, e_wr (by decide) (by decide), rt_eq h hf hu hus ha hw, Option.bind_some, rs_eq h, Option.bind_some]
    refine (i3 FU _ (by rw [FU_eq]; omega)).trans ?_
    rw [e_rd (by omega) (by omega), show ((q : Int)).toNat = q by omega, p0', hn]
    refine d1.trans ?_
    rw [e_wr (by omega) (by omega), show ((q : Int) + 1).toNat = q + 1 by omega]
    have e2 : (b : Int) + (n : Int) = ((b + n : Nat) : Int) := by omega
    have e3 : (q : Int) + 1 = ((q + 1 : Nat) : Int) := by omega
    have e4 : S.2.2.2.2.2.2.2.1.1 + (szs S f st u - (((st a : Nat) : Int) - ((x : Int) + 1))) = ((x + n + len : Nat) : Int) := by omega
    rw [e2, e3, e4]
  · intro j hj
    show nodeOK _ (rpl _ _ x (st a) n len (x + j)) (rpl _ _ x (st a) n len (x + j)) (rpl _ _ x (st a) n len (x + j)) _
    rw [rpl_mid hj, rpl_mid hj, rpl_mid hj, d3 j (Nat.zero_le _) hj]
    exact n2 j hj
  · have w0 : WE R'.2.2.2 0 (0 + n) := by
      rw [Nat.zero_add]
      refine ⟨by omega, fun i _ hi => ?_, ?_⟩
      · have := n3 i hi
        show (1 : Int) ≤ _
        exact this
      · rw [n4]
        show (u : Int) - u = 1 - 1
        omega
    refine w0.shift (fun j hj => ?_)
    show rpl _ _ x (st a) n len (x + j) = _
    rw [rpl_mid hj, Nat.zero_add]
end WN
