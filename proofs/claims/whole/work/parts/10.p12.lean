/-! pure: digest -/
def hfo (A : Arr) (b : Nat) : Nat → Int → Int
  | 0, h => h
  | n + 1, h => 31 * hfo A b n h + A (b + n)
theorem hfo_congr {A B : Arr} {a b : Nat} : ∀ {n : Nat} {h : Int}, (∀ j : Nat, j < n → A (a + j) = B (b + j)) → hfo A a n h = hfo B b n h
  | 0, _, _ => rfl
  | n + 1, h, hj => by
    show 31 * hfo A a n h + A (a + n) = 31 * hfo B b n h + B (b + n)
    rw [hfo_congr (fun j q => hj j (by omega)), hj n (by omega)]
theorem hfo_add (A : Arr) (a : Nat) (h : Int) (n : Nat) : ∀ m : Nat, hfo A (a + n) m (hfo A a n h) = hfo A a (n + m) h
  | 0 => rfl
  | m + 1 => by
    show 31 * hfo A (a + n) m (hfo A a n h) + A (a + n + m) = 31 * hfo A a (n + m) h + A (a + (n + m))
    rw [hfo_add A a h n m, Nat.add_assoc]
theorem X9_mix_eq {h v : Int} (h1 : -2147483648 ≤ v) (h2 : v ≤ 2147483647) : X9_mix h v = some (31 * h + v) := by
  unfold X9_mix
  rw [e_lg h1 h2]

theorem dg6 (kx : Int → Option (Int × Arr × Int × Arr × Int)) (all : Arr) (savedMany : Int) (errors : Arr) (textLong : Int) (waits : Arr) (opn : Int) (told : Arr) (toldLong : Int) (h0 : Int) {N : Nat} (hN : N ≤ 200) (h4 : N = 4) (hb : ∀ j : Nat, j < N → -2147483648 ≤ errors (0 + j) ∧ errors (0 + j) ≤ 2147483647) : ∀ (m fuel y : Nat), y + m = N → m < fuel → X10_digest_L6 kx all savedMany errors textLong waits opn told toldLong fuel (hfo errors 0 y h0) (y : Int) = kx (hfo errors 0 N h0) := by
  intro m
  induction m with
  | zero =>
    intro fuel y h1 h2
    obtain ⟨k, rfl⟩ : ∃ k, fuel = k + 1 := ⟨fuel - 1, by omega⟩
    rw [X10_digest_L6, e_LT (by omega) (by omega) (by omega) (by omega), if_neg (by omega), show y = N by omega]
  | succ m ih =>
    intro fuel y h1 h2
    obtain ⟨k, rfl⟩ : ∃ k, fuel = k + 1 := ⟨fuel - 1, by omega⟩
    have q := hb y (by omega)
    rw [X10_digest_L6, e_LT (by omega) (by omega) (by omega) (by omega), if_pos (by omega), e_rd (by omega) (by omega), show ((y : Int)).toNat = 0 + y by omega, e_lg q.1 q.2, show (y : Int) + 1 = ((y + 1 : Nat) : Int) by omega]
    exact ih k (y + 1) (by omega) (by omega)
theorem dg45 (kx : Int → Option (Int × Arr × Int × Arr × Int)) (all : Arr) (savedMany : Int) (errors : Arr) (textLong : Int) (waits : Arr) (opn : Int) (told : Arr) (toldLong : Int) (h0 : Int) {N : Nat} (hN : N ≤ 200) (h4 : N = 84) (hb : ∀ j : Nat, j < N → -2147483648 ≤ all (0 + j) ∧ all (0 + j) ≤ 2147483647) : ∀ (m fuel y : Nat), y + m = N → m < fuel → X10_digest_L45 kx all savedMany errors textLong waits opn told toldLong fuel (hfo all 0 y h0) (y : Int) = kx (hfo all 0 N h0) := by
  intro m
  induction m with
  | zero =>
    intro fuel y h1 h2
    obtain ⟨k, rfl⟩ : ∃ k, fuel = k + 1 := ⟨fuel - 1, by omega⟩
    rw [X10_digest_L45, e_LT (by omega) (by omega) (by omega) (by omega), if_neg (by omega), show y = N by omega]
  | succ m ih =>
    intro fuel y h1 h2
    obtain ⟨k, rfl⟩ : ∃ k, fuel = k + 1 := ⟨fuel - 1, by omega⟩
    have q := hb y (by omega)
    rw [X10_digest_L45, e_LT (by omega) (by omega) (by omega) (by omega), if_pos (by omega), e_rd (by omega) (by omega), show ((y : Int)).toNat = 0 + y by omega, e_lg q.1 q.2, show (y : Int) + 1 = ((y + 1 : Nat) : Int) by omega]
    exact ih k (y + 1) (by omega) (by omega)
theorem dg148 (kx : Int → Option (Int × Arr × Int × Arr × Int)) (all : Arr) (savedMany : Int) (errors : Arr) (textLong : Int) (waits : Arr) (opn : Int) (told : Arr) (toldLong : Int) (h0 : Int) {N : Nat} (hN : N ≤ 200) (h4 : toldLong = (N : Int)) (hb : ∀ j : Nat, j < N → -2147483648 ≤ told (0 + j) ∧ told (0 + j) ≤ 2147483647) : ∀ (m fuel y : Nat), y + m = N → m < fuel → X10_digest_L148 kx all savedMany errors textLong waits opn told toldLong fuel (hfo told 0 y h0) (y : Int) = kx (hfo told 0 N h0) := by
  intro m
  induction m with
  | zero =>
    intro fuel y h1 h2
    obtain ⟨k, rfl⟩ : ∃ k, fuel = k + 1 := ⟨fuel - 1, by omega⟩
    rw [X10_digest_L148, e_LT (by omega) (by omega) (by omega) (by omega), if_neg (by omega), show y = N by omega]
  | succ m ih =>
    intro fuel y h1 h2
    obtain ⟨k, rfl⟩ : ∃ k, fuel = k + 1 := ⟨fuel - 1, by omega⟩
    have q := hb y (by omega)
    rw [X10_digest_L148, e_LT (by omega) (by omega) (by omega) (by omega), if_pos (by omega), e_rd (by omega) (by omega), show ((y : Int)).toNat = 0 + y by omega, e_lg q.1 q.2, show (y : Int) + 1 = ((y + 1 : Nat) : Int) by omega]
    exact ih k (y + 1) (by omega) (by omega)
theorem dg190 (kx : Int → Option (Int × Arr × Int × Arr × Int)) (all : Arr) (savedMany : Int) (errors : Arr) (textLong : Int) (waits : Arr) (opn : Int) (told : Arr) (toldLong : Int) (h0 : Int) {N : Nat} (hN : N ≤ 200) (h4 : N = 7) (hb : ∀ j : Nat, j < N → -2147483648 ≤ all (179 + j) ∧ all (179 + j) ≤ 2147483647) : ∀ (m fuel y : Nat), y + m = N → m < fuel → X10_digest_L190 kx all savedMany errors textLong waits opn told toldLong fuel (hfo all 179 y h0) (y : Int) = kx (hfo all 179 N h0) := by
  intro m
  induction m with
  | zero =>
    intro fuel y h1 h2
    obtain ⟨k, rfl⟩ : ∃ k, fuel = k + 1 := ⟨fuel - 1, by omega⟩
    rw [X10_digest_L190, e_LT (by omega) (by omega) (by omega) (by omega), if_neg (by omega), show y = N by omega]
  | succ m ih =>
    intro fuel y h1 h2
    obtain ⟨k, rfl⟩ : ∃ k, fuel = k + 1 := ⟨fuel - 1, by omega⟩
    have q := hb y (by omega)
    rw [X10_digest_L190, e_LT (by omega) (by omega) (by omega) (by omega), if_pos (by omega), e_rd (by omega) (by omega), show (179 + (y : Int)).toNat = 179 + y by omega, e_lg q.1 q.2, show (y : Int) + 1 = ((y + 1 : Nat) : Int) by omega]
    exact ih k (y + 1) (by omega) (by omega)
theorem cdg6 (kx : Int → Option (Int × CM)) (C : CM) (h0 : Int) (hb : ∀ j : Nat, j < 4 → -2147483648 ≤ C.2.2.2.2.2.2.2 j ∧ C.2.2.2.2.2.2.2 j ≤ 2147483647) : ∀ (m fuel y : Nat), y + m = 4 → m < fuel → X9_digest_L6 kx C fuel (hfo C.2.2.2.2.2.2.2 0 y h0) (y : Int) = kx (hfo C.2.2.2.2.2.2.2 0 4 h0) := by
  intro m
  induction m with
  | zero =>
    intro fuel y h1 h2
    obtain ⟨k, rfl⟩ : ∃ k, fuel = k + 1 := ⟨fuel - 1, by omega⟩
    rw [X9_digest_L6, e_LT (by omega) (by omega) (by decide) (by decide), if_neg (by omega), show y = 4 by omega]
  | succ m ih =>
    intro fuel y h1 h2
    obtain ⟨k, rfl⟩ : ∃ k, fuel = k + 1 := ⟨fuel - 1, by omega⟩
    have q := hb y (by omega)
    rw [X9_digest_L6, e_LT (by omega) (by omega) (by decide) (by decide), if_pos (by omega), e_rd (by omega) (by omega), show ((y : Int)).toNat = y by omega, X9_mix_eq q.1 q.2, Option.bind_some, show (y : Int) + 1 = ((y + 1 : Nat) : Int) by omega]
    have e : 31 * hfo C.2.2.2.2.2.2.2 0 y h0 + C.2.2.2.2.2.2.2 y = hfo C.2.2.2.2.2.2.2 0 (y + 1) h0 := by
      show _ = 31 * hfo C.2.2.2.2.2.2.2 0 y h0 + C.2.2.2.2.2.2.2 (0 + y)
      rw [Nat.zero_add]
    rw [e]
    exact ih k (y + 1) (by omega) (by omega)
theorem cdg94 (kx : Int → Option (Int × CM)) (C : CM) (h0 : Int) (hb : ∀ j : Nat, j < 7 → -2147483648 ≤ C.1.2.2.2.2.2.2.2.2 (1 + j) ∧ C.1.2.2.2.2.2.2.2.2 (1 + j) ≤ 2147483647) : ∀ (m fuel y : Nat), y + m = 7 → m < fuel → X9_digest_L94 kx C fuel (hfo C.1.2.2.2.2.2.2.2.2 1 y h0) ((1 + y : Nat) : Int) = kx (hfo C.1.2.2.2.2.2.2.2.2 1 7 h0) := by
  intro m
  induction m with
  | zero =>
    intro fuel y h1 h2
    obtain ⟨k, rfl⟩ : ∃ k, fuel = k + 1 := ⟨fuel - 1, by omega⟩
    rw [X9_digest_L94, e_LE (by omega) (by omega) (by decide) (by decide), if_neg (by omega), show y = 7 by omega]
  | succ m ih =>
    intro fuel y h1 h2
    obtain ⟨k, rfl⟩ : ∃ k, fuel = k + 1 := ⟨fuel - 1, by omega⟩
    have q := hb y (by omega)
    rw [X9_digest_L94, e_LE (by omega) (by omega) (by decide) (by decide), if_pos (by omega), e_rd (by omega) (by omega), show (((1 + y : Nat) : Int)).toNat = 1 + y by omega, X9_mix_eq q.1 q.2, Option.bind_some, show ((1 + y : Nat) : Int) + 1 = ((1 + (y + 1) : Nat) : Int) by omega]
    exact ih k (y + 1) (by omega) (by omega)
theorem cdg19 (kx : Int → Option (Int × CM)) (C : CM) (h0 : Int) {N : Nat} (hN : N ≤ 120) (hl : C.2.2.2.2.1.2.1 = (N : Int)) (hb : ∀ j : Nat, j < N → -2147483648 ≤ C.2.2.2.2.1.1 (0 + j) ∧ C.2.2.2.2.1.1 (0 + j) ≤ 2147483647) : ∀ (m fuel y : Nat), y + m = N → m < fuel → X9_mixProgram_L19 kx C fuel (hfo C.2.2.2.2.1.1 0 y h0) (y : Int) = kx (hfo C.2.2.2.2.1.1 0 N h0) := by
  intro m
  induction m with
  | zero =>
    intro fuel y h1 h2
    obtain ⟨k, rfl⟩ : ∃ k, fuel = k + 1 := ⟨fuel - 1, by omega⟩
    rw [X9_mixProgram_L19, e_LT (by omega) (by omega) (by omega) (by omega), if_neg (by omega), show y = N by omega]
  | succ m ih =>
    intro fuel y h1 h2
    obtain ⟨k, rfl⟩ : ∃ k, fuel = k + 1 := ⟨fuel - 1, by omega⟩
    have q := hb y (by omega)
    rw [X9_mixProgram_L19, e_LT (by omega) (by omega) (by omega) (by omega), if_pos (by omega), e_rd (by omega) (by omega), show ((y : Int)).toNat = 0 + y by omega, X9_mix_eq q.1 q.2, Option.bind_some, show (y : Int) + 1 = ((y + 1 : Nat) : Int) by omega]
    exact ih k (y + 1) (by omega) (by omega)
/-- the functions of a table, as their row in the reference -/
theorem mixF_inner {T : FT} {A : Arr} {base : Nat} {mx : Int} (h : RF T A base 7 6 mx) {f : Nat} (hf : f < 6) (kx : Int → Option Int) (h0 : Int) : ∀ (m fuel y : Nat), y + m = 5 → m < fuel → X9_mixFunctions_L39 kx 6 T (f : Int) fuel (hfo A base (7 * f + 2 + y) h0) ((y : Int) - 1) = kx (hfo A base (7 * f + 7) h0) := by
  obtain ⟨g1, g2, g3, g4, g5, g6⟩ := h f hf
  intro m
  induction m with
  | zero =>
    intro fuel y h1 h2
    obtain ⟨k, rfl⟩ : ∃ k, fuel = k + 1 := ⟨fuel - 1, by omega⟩
    rw [X9_mixFunctions_L39, e_LT (by omega) (by omega) (by decide) (by decide), if_neg (by omega), show 7 * f + 2 + y = 7 * f + 7 by omega]
  | succ m ih =>
    intro fuel y h1 h2
    obtain ⟨k, rfl⟩ : ∃ k, fuel = k + 1 := ⟨fuel - 1, by omega⟩
    obtain ⟨q0, q1, q2⟩ := g6 y (by omega)
    have e : 31 * hfo A base (7 * f + 2 + y) h0 + T.2.2 (5 * f + y) = hfo A base (7 * f + 2 + (y + 1)) h0 := by
      show _ = 31 * hfo A base (7 * f + 2 + y) h0 + A (base + (7 * f + 2 + y))
      rw [← q0, show base + (7 * f + 2 + y) = base + 7 * f + 2 + y by omega]
    rw [X9_mixFunctions_L39, e_LT (by omega) (by omega) (by decide) (by decide), if_pos (by omega), X1_term_eq (by decide) _ (by omega) (by omega) (by omega) (by omega), Option.bind_some, show 5 * ((f : Int)).toNat + ((y : Int) - 1 + 1).toNat = 5 * f + y by omega, X9_mix_eq (by omega) (by omega), Option.bind_some, e, show (y : Int) - 1 + 1 = ((y + 1 : Nat) : Int) - 1 by omega]
    exact ih k (y + 1) (by omega) (by omega)
theorem mixF_loop {T : FT} {A : Arr} {base : Nat} {mx : Int} (hmx : mx ≤ 10) (h : RF T A base 7 6 mx) (kx : Int → Option Int) (h0 : Int) : ∀ (m fuel f : Nat), f + m = 6 → m < fuel → X9_mixFunctions_L5 kx 6 T fuel (hfo A base (7 * f) h0) (f : Int) = kx (hfo A base 42 h0) := by
  intro m
  induction m with
  | zero =>
    intro fuel f h1 h2
    obtain ⟨k, rfl⟩ : ∃ k, fuel = k + 1 := ⟨fuel - 1, by omega⟩
    rw [X9_mixFunctions_L5, e_LT (by omega) (by omega) (by decide) (by decide), if_neg (by omega), show 7 * f = 42 by omega]
  | succ m ih =>
    intro fuel f h1 h2
    obtain ⟨k, rfl⟩ : ∃ k, fuel = k + 1 := ⟨fuel - 1, by omega⟩
    obtain ⟨g1, g2, g3, g4, g5, g6⟩ := h f (by omega)
    have e1 : 31 * hfo A base (7 * f) h0 + T.1 f = hfo A base (7 * f + 1) h0 := by
      show _ = 31 * hfo A base (7 * f) h0 + A (base + 7 * f)
      rw [g1]
    have e2 : 31 * hfo A base (7 * f + 1) h0 + T.2.1 f = hfo A base (7 * f + 2 + 0) h0 := by
      show _ = 31 * hfo A base (7 * f + 1) h0 + A (base + (7 * f + 1))
      rw [← g4, Nat.add_assoc]
    have ef : ((f : Int)).toNat = f := by omega
    rw [X9_mixFunctions_L5, e_LT (by omega) (by omega) (by decide) (by decide), if_pos (by omega), X1_arityOf_eq (by decide) _ ⟨by omega, by omega⟩, if_pos (by omega), Option.bind_some, ef, X9_mix_eq (by omega) (by omega), Option.bind_some, e1, X1_effectOf_eq (by decide) _ ⟨by omega, by omega⟩, if_pos (by omega), Option.bind_some, ef, X9_mix_eq (by omega) (by omega), Option.bind_some, e2]
    refine (mixF_inner h (by omega) _ h0 5 FU 0 (by omega) (by rw [FU_eq]; omega)).trans ?_
    rw [show (f : Int) + 1 = ((f + 1 : Nat) : Int) by omega, show 7 * f + 7 = 7 * (f + 1) by omega]
    exact ih k (f + 1) (by omega) (by omega)
theorem mixM_loop {S : St} {A : Arr} (hS : RS S A) (C : CM) (hC : C.1 = S) (savedMany : Int) (errors : Arr) (textLong : Int) (waits : Arr) (opn : Int) (told : Arr) (toldLong : Int) : ∀ (m f : Nat) (h : Int), f + m = 6 → ∃ h' : Int, (∀ (fuel : Nat) (kx : Int → Option Int), m < fuel → X9_mixMappings_L5 kx C fuel h (f : Int) = kx h') ∧ ∀ (fuel : Nat) (kx : Int → Option (Int × Arr × Int × Arr × Int)), m < fuel → X10_digest_L73 kx A savedMany errors textLong waits opn told toldLong fuel h (f : Int) = kx h' := by
  subst hC
  intro m
  induction m with
  | zero =>
    intro f h h1
    refine ⟨h, fun fuel kx hf => ?_, fun fuel kx hf => ?_⟩
    · obtain ⟨k, rfl⟩ : ∃ k, fuel = k + 1 := ⟨fuel - 1, by omega⟩
      rw [X9_mixMappings_L5, e_LT (by omega) (by omega) (by decide) (by decide), if_neg (by omega)]
    · obtain ⟨k, rfl⟩ : ∃ k, fuel = k + 1 := ⟨fuel - 1, by omega⟩
      rw [X10_digest_L73, e_LT (by omega) (by omega) (by decide) (by decide), if_neg (by omega)]
  | succ m ih =>
    intro f h h1
    have hf : f < 6 := by omega
    obtain ⟨t0, t1, t2⟩ := tgt_bd hS hf
    have ab := adn_bd hS hf
    have ef : ((f : Int)).toNat = f := by omega
    have e3 : (f : Int) + 1 = ((f + 1 : Nat) : Int) := by omega
    -- what is mixed for the mapping
    obtain ⟨v, v0, v1, vC, vM⟩ : ∃ v : Int, 0 ≤ v ∧ v ≤ 2 ∧ (∀ G : Int → Option Int, (brEQ (C.1.2.2.2.2.2.2.1.1 f) (-1) (brEQ 0 0 (G 0) ((X9_faithfulness C (f : Int)).bind (fun v13 => G (1 + v13)))) (brEQ 1 0 (G 0) ((X9_faithfulness C (f : Int)).bind (fun v13 => G (1 + v13))))) = G v) ∧ ∀ G : Int → Option (Int × Arr × Int × Arr × Int), brEQ (C.1.2.2.2.2.2.2.1.1 f) (-1) (G 0) ((X10_faithful A (f : Int)).bind (fun v11 => G (1 + v11))) = G v := by
      by_cases c2 : C.1.2.2.2.2.2.2.1.1 f = -1
      · refine ⟨0, by decide, by decide, fun G => ?_, fun G => ?_⟩
        · rw [e_EQ (by omega) (by omega) (by decide) (by decide), if_pos c2, e_b0]
        · rw [e_EQ (by omega) (by omega) (by decide) (by decide), if_pos c2]
      · obtain ⟨t, ht⟩ : ∃ t : Nat, C.1.2.2.2.2.2.2.1.1 f = (t : Int) := ⟨(C.1.2.2.2.2.2.2.1.1 f).toNat, by omega⟩
        obtain ⟨r, r1, r2, r3⟩ := faith_both hS hf (t := t) (by omega) ht
        have r2' : X9_faithfulness C (f : Int) = some r := r2
        refine ⟨1 + r, by omega, by omega, fun G => ?_, fun G => ?_⟩
        · rw [e_EQ (by omega) (by omega) (by decide) (by decide), if_neg c2, e_b1, r2', Option.bind_some]
        · rw [e_EQ (by omega) (by omega) (by decide) (by decide), if_neg c2, r3, Option.bind_some]
    obtain ⟨h', i1, i2⟩ := ih (f + 1) (31 * (31 * h + v) + C.1.2.2.2.2.1 f) (by omega)
    refine ⟨h', fun fuel kx hfu => ?_, fun fuel kx hfu => ?_⟩
    · obtain ⟨k, rfl⟩ : ∃ k, fuel = k + 1 := ⟨fuel - 1, by omega⟩
      rw [X9_mixMappings_L5, e_LT (by omega) (by omega) (by decide) (by decide), if_pos (by omega), X4_targetOf_eq _ (by omega) (by omega), Option.bind_some, ef, e_lt]
      refine (vC (fun q5 => (X9_mix h q5).bind (fun v7 => (X8_adapterNumber C.1 (f : Int)).bind (fun v9 => (X9_mix v7 v9).bind (fun v11 => X9_mixMappings_L5 kx C k v11 ((f : Int) + 1)))))).trans ?_
      rw [X9_mix_eq (by omega) (by omega), Option.bind_some, X8_adapterNumber_eq _ (by omega) (by omega), Option.bind_some, ef, X9_mix_eq (by omega) (by omega), Option.bind_some, e3]
      exact i1 k kx (by omega)
    · obtain ⟨k, rfl⟩ : ∃ k, fuel = k + 1 := ⟨fuel - 1, by omega⟩
      rw [X10_digest_L73, e_LT (by omega) (by omega) (by decide) (by decide), if_pos (by omega), X10_newOf_eq _ hf, Option.bind_some, t0, e_lt]
      refine (vM (fun q7 => lgK q7 ((X10_adapter A (f : Int)).bind (fun v9 => lgK v9 (X10_digest_L73 kx A savedMany errors textLong waits opn told toldLong k ((31 * ((31 * h) + q7)) + v9) ((f : Int) + 1)))))).trans ?_
      rw [e_lg (by omega) (by omega), X10_adapter_eq hS hf, Option.bind_some, e_lg (by omega) (by omega), e3]
      exact i2 k kx (by omega)
