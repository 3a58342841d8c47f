/-! migrate: effects of a stretch -/
theorem fn_eq {a : Int} (a0 : 30000 ≤ a) (a1 : a ≤ 60000) : X10_function a = some (fnAt a) := by
  unfold X10_function fnAt
  rw [X10_kind_eq (by omega) (by omega), X10_which_eq (by omega) (by omega)]
  simp only [Option.bind_some]
  rw [e_EQ (by omega) (by omega) (by decide) (by decide), e_EQ (by omega) (by omega) (by decide) (by decide)]
  split
  · exact congrArg some (by omega)
  · split <;> rfl
def ef (S : St) (kd nm : Int) : Int := if kd = 2 then S.1.2.1 nm.toNat else if kd = 3 then S.2.1.2.1 nm.toNat else if kd = 4 then S.2.2.1.2.1 nm.toNat else 0
theorem ef_node {S : St} {A : Arr} (hQ : RQ S A) {kd nm ac code : Int} (h : nodeOK S.2.2.2.1 kd nm ac code) : (0 ≤ kd ∧ kd ≤ 1 ∧ 0 ≤ code ∧ code < 30000 ∧ ef S kd nm = 0) ∨ (2 ≤ kd ∧ kd ≤ 4 ∧ 30000 ≤ code ∧ code ≤ 60000 ∧ 0 ≤ fnAt code ∧ fnAt code + 1 < 186 ∧ A (fnAt code + 1).toNat = ef S kd nm ∧ (ef S kd nm = 0 ∨ ef S kd nm = 1)) := by
  have hm := hQ.2.2.1
  have m0 := hm.1
  have m1 := hm.2.1
  rcases h with ⟨a1, a2, a3, a4, a5⟩ | ⟨a1, a2, a3, a4⟩ | ⟨a1, a2, a3, a4, a5, a6⟩ | ⟨a1, a2, a3, a4, a5, a6⟩ | ⟨a1, a2, a3, a4, a5, a6⟩
  · exact Or.inl ⟨by omega, by omega, by omega, by omega, by unfold ef; rw [if_neg (by omega), if_neg (by omega), if_neg (by omega)]⟩
  · exact Or.inl ⟨by omega, by omega, by omega, by omega, by unfold ef; rw [if_neg (by omega), if_neg (by omega), if_neg (by omega)]⟩
  · have hfn : fnAt code = 7 * nm := by unfold fnAt; rw [if_pos (by omega)]; omega
    obtain ⟨-, -, -, t4, t5, -⟩ := hQ.1 nm.toNat (by omega)
    have he : ef S kd nm = S.1.2.1 nm.toNat := by unfold ef; rw [if_pos a1]
    rw [he, hfn]
    exact Or.inr ⟨by omega, by omega, by omega, by omega, by omega, by omega, by rw [← t4]; exact congrArg A (by omega), t5⟩
  · have hfn : fnAt code = 42 + 7 * nm := by unfold fnAt; rw [if_neg (by omega), if_pos (by omega)]; omega
    obtain ⟨-, -, -, t4, t5, -⟩ := hQ.2.1 nm.toNat (by omega)
    have he : ef S kd nm = S.2.1.2.1 nm.toNat := by unfold ef; rw [if_neg (by omega), if_pos a1]
    rw [he, hfn]
    exact Or.inr ⟨by omega, by omega, by omega, by omega, by omega, by omega, by rw [← t4]; exact congrArg A (by omega), t5⟩
  · have hfn : fnAt code = 84 + 8 * nm := by unfold fnAt; rw [if_neg (by omega), if_neg (by omega)]; omega
    obtain ⟨-, -, -, t4, t5, -⟩ := hm.2.2.2.1 nm.toNat (by omega)
    have he : ef S kd nm = S.2.2.1.2.1 nm.toNat := by unfold ef; rw [if_neg (by omega), if_neg (by omega), if_pos a1]
    rw [he, hfn]
    exact Or.inr ⟨by omega, by omega, by omega, by omega, by omega, by omega, by rw [← t4]; exact congrArg A (by omega), t5⟩
theorem ec_step {S : St} {A : Arr} (hQ : RQ S A) {y x2 : Nat} {code : Int} (hy : y < x2) (hx2 : x2 ≤ 30) (hs : (y : Int) < S.2.2.2.2.2.2.2.1.1) (h30 : S.2.2.2.2.2.2.2.1.1 ≤ 30) (h : nodeOK S.2.2.2.1 (S.2.2.2.2.2.2.2.1.2.1 y) (S.2.2.2.2.2.2.2.1.2.2.1 y) (S.2.2.2.2.2.2.2.1.2.2.2 y) code) (kx : Option Int) (n : Nat) : X8_hasEffect_L6 kx S (x2 : Int) (n + 1) (y : Int) = if ef S (S.2.2.2.2.2.2.2.1.2.1 y) (S.2.2.2.2.2.2.2.1.2.2.1 y) = 1 then kx else X8_hasEffect_L6 kx S (x2 : Int) n ((y + 1 : Nat) : Int) := by
  have hf := ef_node hQ h
  have hm := hQ.2.2.1
  have m0 := hm.1
  have m1 := hm.2.1
  have e1 : ((y : Int)).toNat = y := by omega
  have e2 : (y : Int) + 1 = ((y + 1 : Nat) : Int) := by omega
  have hnm : (S.2.2.2.2.2.2.2.1.2.1 y = 2 ∨ S.2.2.2.2.2.2.2.1.2.1 y = 3 → 0 ≤ S.2.2.2.2.2.2.2.1.2.2.1 y ∧ S.2.2.2.2.2.2.2.1.2.2.1 y ≤ 5) ∧ (S.2.2.2.2.2.2.2.1.2.1 y = 4 → 0 ≤ S.2.2.2.2.2.2.2.1.2.2.1 y ∧ S.2.2.2.2.2.2.2.1.2.2.1 y ≤ 3) := by
    rcases h with ⟨a1, a2, a3, a4, a5⟩ | ⟨a1, a2, a3, a4⟩ | ⟨a1, a2, a3, a4, a5, a6⟩ | ⟨a1, a2, a3, a4, a5, a6⟩ | ⟨a1, a2, a3, a4, a5, a6⟩ <;> omega
  rw [X8_hasEffect_L6, e_LT (by omega) (by omega) (by omega) (by omega), if_pos (by omega), e_LT (by omega) (by omega) (by omega) (by omega), if_pos hs, e_rd (by omega) (by omega), e1, e2]
  generalize hkd : S.2.2.2.2.2.2.2.1.2.1 y = kd at *
  generalize hnmv : S.2.2.2.2.2.2.2.1.2.2.1 y = nm at *
  rw [X9_isCall_eq ⟨by omega, by omega⟩, Option.bind_some, e_lt, e_b10]
  by_cases hk : kd = 2 ∨ kd = 3 ∨ kd = 4
  · rw [if_pos hk, X8_tableOf_eq S ⟨by omega, by omega⟩, Option.bind_some]
    unfold ef
    by_cases k2 : kd = 2
    · obtain ⟨-, -, -, t4, t5, -⟩ := hQ.1 nm.toNat (by omega)
      rw [if_pos k2, sel3_0, e_rd (by omega) (by omega), e1, hnmv, X1_effectOf_eq (by decide) _ ⟨by omega, by omega⟩, Option.bind_some, if_pos (by omega), if_pos k2, e_EQ (by omega) (by omega) (by decide) (by decide)]
    · by_cases k3 : kd = 3
      · obtain ⟨-, -, -, t4, t5, -⟩ := hQ.2.1 nm.toNat (by omega)
        rw [if_neg k2, if_pos k3, sel3_1, e_rd (by omega) (by omega), e1, hnmv, X1_effectOf_eq (by decide) _ ⟨by omega, by omega⟩, Option.bind_some, if_pos (by omega), if_neg k2, if_pos k3, e_EQ (by omega) (by omega) (by decide) (by decide)]
      · have k4 : kd = 4 := by omega
        have hlt : nm.toNat < S.2.2.2.1.toNat := by
          rcases h with ⟨a1, a2, a3, a4, a5⟩ | ⟨a1, a2, a3, a4⟩ | ⟨a1, a2, a3, a4, a5, a6⟩ | ⟨a1, a2, a3, a4, a5, a6⟩ | ⟨a1, a2, a3, a4, a5, a6⟩ <;> omega
        obtain ⟨-, -, -, t4, t5, -⟩ := hm.2.2.2.1 nm.toNat hlt
        rw [if_neg k2, if_neg k3, sel3_2, e_rd (by omega) (by omega), e1, hnmv, X1_effectOf_eq (by decide) _ ⟨by omega, by omega⟩, Option.bind_some, if_pos (by omega), if_neg k2, if_neg k3, if_pos k4, e_EQ (by omega) (by omega) (by decide) (by decide)]
  · rw [if_neg hk]
    unfold ef
    rw [if_neg (c := kd = 2) (by omega), if_neg (c := kd = 3) (by omega), if_neg (c := kd = 4) (by omega), if_neg (by decide)]
theorem er_step {S : St} {A : Arr} (hQ : RQ S A) {kd nm ac code : Int} (h : nodeOK S.2.2.2.1 kd nm ac code) {built parts : Arr} {i y e : Nat} (hi : i < 30) (hp : parts (i + 1) = (e : Int)) (hy : y < e) (he : e ≤ 30) (hb : built y = code) (kx : Int → Option Int) (n : Nat) : X10_hasEffect_L9 kx A built parts (i : Int) (n + 1) 0 (y : Int) = (if ef S kd nm = 1 then X10_hasEffect_L9 kx A built parts (i : Int) n 1 ((y + 1 : Nat) : Int) else X10_hasEffect_L9 kx A built parts (i : Int) n 0 ((y + 1 : Nat) : Int)) ∧ X10_hasEffect_L9 kx A built parts (i : Int) (n + 1) 1 (y : Int) = X10_hasEffect_L9 kx A built parts (i : Int) n 1 ((y + 1 : Nat) : Int) := by
  have hf := ef_node hQ h
  have e1 : ((y : Int)).toNat = y := by omega
  have e2 : (y : Int) + 1 = ((y + 1 : Nat) : Int) := by omega
  have e3 : ((i : Int) + 1).toNat = i + 1 := by omega
  constructor
  · rw [X10_hasEffect_L9, e_rd (by omega) (by omega), e3, hp, e_LT (by omega) (by omega) (by omega) (by omega), if_pos (by omega), e_lt, e_lt, e_b0, e_rd (by omega) (by omega), e1, hb, e2]
    rcases hf with ⟨f1, f2, f3, f4, f5⟩ | ⟨f1, f2, f3, f4, f5, f6, f7, f8⟩
    · rw [X10_kind_eq f3 (by omega), Option.bind_some, e_lt, e_LE (by omega) (by omega) (by decide) (by decide), if_pos (by omega), f5, if_neg (by decide)]
    · rw [X10_kind_eq (by omega) (by omega), Option.bind_some, e_lt, e_LE (by omega) (by omega) (by decide) (by decide), if_neg (by omega), e_rd (by omega) (by omega), e1, hb, fn_eq f3 f4, Option.bind_some, e_rd (by omega) (by omega), f7, e_EQ (by omega) (by omega) (by decide) (by decide)]
  · rw [X10_hasEffect_L9, e_rd (by omega) (by omega), e3, hp, e_LT (by omega) (by omega) (by omega) (by omega), if_pos (by omega), e_lt, e_lt, e_b1, e2]
theorem eff_both {S : St} {A : Arr} (hQ : RQ S A) (h30 : S.2.2.2.2.2.2.2.1.1 ≤ 30) {built parts : Arr} {s t len i : Nat} (hs : ((s + len : Nat) : Int) ≤ S.2.2.2.2.2.2.2.1.1) (ht : t + len ≤ 30) (hi : i < 30) (hp : parts i = (t : Int)) (hp1 : parts (i + 1) = ((t + len : Nat) : Int)) (hN : ∀ j : Nat, j < len → nodeOK S.2.2.2.1 (S.2.2.2.2.2.2.2.1.2.1 (s + j)) (S.2.2.2.2.2.2.2.1.2.2.1 (s + j)) (S.2.2.2.2.2.2.2.1.2.2.2 (s + j)) (built (t + j))) : ∃ e : Int, (e = 0 ∨ e = 1) ∧ X8_hasEffect S (s : Int) ((s + len : Nat) : Int) = some e ∧ X10_hasEffect A built parts (i : Int) = some e := by
  have one : ∀ (m fuel j : Nat), j + m = len → m < fuel → X10_hasEffect_L9 (fun w16 => boK w16 (some w16)) A built parts (i : Int) fuel 1 ((t + j : Nat) : Int) = some 1 := by
    intro m
    induction m with
    | zero =>
      intro fuel j h1 h2
      obtain ⟨k, rfl⟩ : ∃ k, fuel = k + 1 := ⟨fuel - 1, by omega⟩
      have e3 : ((i : Int) + 1).toNat = i + 1 := by omega
      rw [X10_hasEffect_L9, e_rd (by omega) (by omega), e3, hp1, e_LT (by omega) (by omega) (by omega) (by omega), if_neg (by omega), e_bo' (Or.inr rfl)]
    | succ m ih =>
      intro fuel j h1 h2
      obtain ⟨k, rfl⟩ : ∃ k, fuel = k + 1 := ⟨fuel - 1, by omega⟩
      rw [(er_step hQ (hN j (by omega)) hi hp1 (by omega) ht rfl _ k).2]
      exact ih k (j + 1) (by omega) (by omega)
  have key : ∀ (m : Nat) (j : Nat), j + m = len → ∃ e : Int, (e = 0 ∨ e = 1) ∧ (∀ fuel : Nat, m < fuel → X8_hasEffect_L6 (some 1) S ((s + len : Nat) : Int) fuel ((s + j : Nat) : Int) = some e) ∧ ∀ fuel : Nat, m < fuel → X10_hasEffect_L9 (fun w16 => boK w16 (some w16)) A built parts (i : Int) fuel 0 ((t + j : Nat) : Int) = some e := by
    intro m
    induction m with
    | zero =>
      intro j h1
      refine ⟨0, Or.inl rfl, fun fuel h2 => ?_, fun fuel h2 => ?_⟩
      · obtain ⟨k, rfl⟩ : ∃ k, fuel = k + 1 := ⟨fuel - 1, by omega⟩
        rw [X8_hasEffect_L6, e_LT (by omega) (by omega) (by omega) (by omega), if_neg (by omega)]
      · obtain ⟨k, rfl⟩ : ∃ k, fuel = k + 1 := ⟨fuel - 1, by omega⟩
        have e3 : ((i : Int) + 1).toNat = i + 1 := by omega
        rw [X10_hasEffect_L9, e_rd (by omega) (by omega), e3, hp1, e_LT (by omega) (by omega) (by omega) (by omega), if_neg (by omega), e_bo' (Or.inl rfl)]
    | succ m ih =>
      intro j h1
      obtain ⟨e, g1, g2, g3⟩ := ih (j + 1) (by omega)
      have hn := hN j (by omega)
      by_cases he : ef S (S.2.2.2.2.2.2.2.1.2.1 (s + j)) (S.2.2.2.2.2.2.2.1.2.2.1 (s + j)) = 1
      · refine ⟨1, Or.inr rfl, fun fuel h2 => ?_, fun fuel h2 => ?_⟩
        · obtain ⟨k, rfl⟩ : ∃ k, fuel = k + 1 := ⟨fuel - 1, by omega⟩
          rw [ec_step hQ (by omega) (by omega) (by omega) h30 hn, if_pos he]
        · obtain ⟨k, rfl⟩ : ∃ k, fuel = k + 1 := ⟨fuel - 1, by omega⟩
          rw [(er_step hQ hn hi hp1 (by omega) ht rfl _ k).1, if_pos he]
          exact one m k (j + 1) (by omega) (by omega)
      · refine ⟨e, g1, fun fuel h2 => ?_, fun fuel h2 => ?_⟩
        · obtain ⟨k, rfl⟩ : ∃ k, fuel = k + 1 := ⟨fuel - 1, by omega⟩
          rw [ec_step hQ (by omega) (by omega) (by omega) h30 hn, if_neg he]
          exact g2 k (by omega)
        · obtain ⟨k, rfl⟩ : ∃ k, fuel = k + 1 := ⟨fuel - 1, by omega⟩
          rw [(er_step hQ hn hi hp1 (by omega) ht rfl _ k).1, if_neg he]
          exact g3 k (by omega)
  obtain ⟨e, g1, g2, g3⟩ := key len 0 (by omega)
  refine ⟨e, g1, ?_, ?_⟩
  · unfold X8_hasEffect mxK
    rw [if_pos ⟨⟨by omega, by omega⟩, by decide⟩, if_neg (by omega)]
    exact g2 FU (by rw [FU_eq]; omega)
  · unfold X10_hasEffect
    rw [e_rd (by omega) (by omega), show ((i : Int)).toNat = i by omega, hp]
    exact g3 FU (by rw [FU_eq]; omega)
