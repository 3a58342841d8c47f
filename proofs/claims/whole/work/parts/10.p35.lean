/-! migrate: the reference's loop, its two states -/
abbrev MRes : Type := Int × Arr × Arr × Int × Arr × Int × Arr × Int × Arr × Arr × Arr × Int × Int
abbrev TRes : Type := Int × Arr × Arr × Int × Arr × Int × Arr × Arr × Int × Int
abbrev KO : Int → Arr → Arr → Int → Arr → Int → Arr → Arr → Int → Int → Option TRes := fun w13 w14 w15 w16 w17 w18 w19 w20 w21 w22 => some (w13, w14, w15, w16, w17, w18, w19, w20, w21, w22)
theorem to_fuel (calls : Arr) : ∀ (n m : Nat) (acc y2 : Int) (A built : Arr) (bm : Int) (parts : Arr) (pm : Int) (taken lacks : Arr) (c total : Int), 0 ≤ c → c ≤ 30 → (y2 = 0 ∨ y2 = 1 ∧ 1 ≤ c) → c.toNat + 1 < n → c.toNat + 1 < m → X10_treatsOpen_L15 KO calls n acc y2 A built bm parts pm taken lacks c total = X10_treatsOpen_L15 KO calls m acc y2 A built bm parts pm taken lacks c total := by
  intro n
  induction n with
  | zero => intro m acc y2 A built bm parts pm taken lacks c total _ _ _ h; omega
  | succ n ih =>
    intro m acc y2 A built bm parts pm taken lacks c total h0 h1 h2 h3 h4
    obtain ⟨m, rfl⟩ : ∃ k, m = k + 1 := ⟨m - 1, by omega⟩
    rcases h2 with rfl | ⟨rfl, hc⟩
    · rw [X10_treatsOpen_L15, X10_treatsOpen_L15, e_b0, e_b0]
    · obtain ⟨n', rfl⟩ : ∃ k, n = k + 1 := ⟨n - 1, by omega⟩
      obtain ⟨m', rfl⟩ : ∃ k, m = k + 1 := ⟨m - 1, by omega⟩
      have e0 : ∀ (acc : Int) (A built : Arr) (bm : Int) (parts : Arr) (pm : Int) (taken lacks : Arr) (c total : Int), X10_treatsOpen_L15 KO calls (n' + 1) acc 0 A built bm parts pm taken lacks c total = X10_treatsOpen_L15 KO calls (m' + 1) acc 0 A built bm parts pm taken lacks c total := by
        intro acc A built bm parts pm taken lacks c total
        rw [X10_treatsOpen_L15, X10_treatsOpen_L15, e_b0, e_b0]
      have e1 : ∀ (X : Option TRes) (acc : Int) (A built : Arr) (bm : Int) (parts : Arr) (pm : Int) (taken lacks : Arr) (total : Int), brLE (c - 1) 0 X (X10_treatsOpen_L15 KO calls (n' + 1) acc 1 A built bm parts pm taken lacks (c - 1) total) = brLE (c - 1) 0 X (X10_treatsOpen_L15 KO calls (m' + 1) acc 1 A built bm parts pm taken lacks (c - 1) total) := by
        intro X acc A built bm parts pm taken lacks total
        rw [e_LE (by omega) (by omega) (by decide) (by decide), e_LE (by omega) (by omega) (by decide) (by decide)]
        by_cases hc1 : c - 1 ≤ 0
        · rw [if_pos hc1, if_pos hc1]
        · rw [if_neg hc1, if_neg hc1]
          exact ih (m' + 1) acc 1 A built bm parts pm taken lacks (c - 1) total (by omega) (by omega) (Or.inr ⟨rfl, by omega⟩) (by omega) (by omega)
      rw [X10_treatsOpen_L15, e_b1]
      conv => rhs; rw [X10_treatsOpen_L15, e_b1]
      simp only [e_lt, e_b0, e_b1, e0, e1]
section LM
variable (kx : Int → Arr → Arr → Int → Arr → Int → Arr → Arr → Arr → Int → Int → Option MRes) (saved : Arr) (sm : Int)
def LM (done : Int) (k : Nat) (A built : Arr) (bm : Int) (parts : Arr) (pm : Int) (taken calls lacks : Arr) (c : Nat) (total : Int) : Option MRes := X10_migrate_L67 kx saved sm (1000 - k) done (k : Int) A built bm parts pm taken calls lacks (c : Int) total
def KM (done acc : Int) (k : Nat) (A built : Arr) (bm : Int) (parts : Arr) (pm : Int) (taken calls lacks : Arr) (c : Nat) (total : Int) : Option MRes := (X10_treatsOpen_L15 KO calls FU acc (if c = 0 then 0 else 1) A built bm parts pm taken lacks (c : Int) total).bind (fun w15 => X10_migrate_L67 kx saved sm (1000 - k) (done + w15.1) (k : Int) w15.2.1 w15.2.2.1 w15.2.2.2.1 w15.2.2.2.2.1 w15.2.2.2.2.2.1 w15.2.2.2.2.2.2.1 calls w15.2.2.2.2.2.2.2.1 w15.2.2.2.2.2.2.2.2.1 w15.2.2.2.2.2.2.2.2.2)
variable {done acc bm pm total : Int} {k c N : Nat} {A built parts taken calls lacks og : Arr}
theorem km_zero : KM kx saved sm done acc k A built bm parts pm taken calls lacks 0 total = LM kx saved sm (done + acc) k A built bm parts pm taken calls lacks 0 total := by
  unfold KM LM
  rw [FU_eq, if_pos rfl, X10_treatsOpen_L15, e_b0, Option.bind_some]
theorem km_more (hc : c < 30) {v : Int} (hv : lacks c = v) (v0 : 2 ≤ v) (v1 : v ≤ 9) : KM kx saved sm done acc k A built bm parts pm taken calls lacks (c + 1) total = LM kx saved sm (done + acc) k A built bm parts pm taken calls (upI lacks c (v - 1)) (c + 1) total := by
  unfold KM LM
  have e1 : (((c + 1 : Nat) : Int) - 1).toNat = c := by omega
  rw [FU_eq, if_neg (by omega), X10_treatsOpen_L15, e_b1, e_rd (by omega) (by omega), e1, hv, e_wr (by omega) (by omega), e1, e_rd (by omega) (by omega), e1, uI_same, e_lt, e_EQ (by omega) (by omega) (by decide) (by decide), if_neg (by omega)]
  dsimp only
  rw [e_b0, X10_treatsOpen_L15, e_b0, Option.bind_some]
theorem km_last (hc : c < 30) (hv : lacks c = 1) {w : Int × Arr × Arr × Int × Arr × Int × Arr × Int} (hw : X10_treats A built bm parts pm taken total (calls c) = some w) : KM kx saved sm done acc k A built bm parts pm taken calls lacks (c + 1) total = KM kx saved sm done (acc + w.1) k w.2.1 w.2.2.1 w.2.2.2.1 w.2.2.2.2.1 w.2.2.2.2.2.1 w.2.2.2.2.2.2.1 calls (upI lacks c 0) c w.2.2.2.2.2.2.2 := by
  unfold KM
  have e1 : (((c + 1 : Nat) : Int) - 1).toNat = c := by omega
  have e2 : ((c + 1 : Nat) : Int) - 1 = (c : Int) := by omega
  rw [FU_eq, if_neg (by omega), X10_treatsOpen_L15, e_b1, e_rd (by omega) (by omega), e1, hv, e_wr (by omega) (by omega), e1, e_rd (by omega) (by omega), e1, uI_same, e_lt, e_EQ (by decide) (by decide) (by decide) (by decide), if_pos (by decide)]
  dsimp only
  rw [e_b1, e_rd (by omega) (by omega), e1, hw, Option.bind_some, e_lt, e2, e_LE (by omega) (by omega) (by decide) (by decide)]
  have e3 : (1 : Int) - 1 = 0 := rfl
  rw [e3]
  by_cases h0 : c = 0
  · subst h0
    rw [if_pos (by decide), if_pos rfl]
    dsimp only
    rw [to_fuel calls 999 1000 _ 0 _ _ _ _ _ _ _ _ _ (by decide) (by decide) (Or.inl rfl) (by decide) (by decide)]
  · rw [if_neg (by omega), if_neg h0]
    dsimp only
    rw [to_fuel calls 999 1000 _ 1 _ _ _ _ _ _ _ _ _ (by omega) (by omega) (Or.inr ⟨rfl, by omega⟩) (by omega) (by omega)]
theorem lm_end (hN : OGP N og A) (hk : k = N) (hk30 : k ≤ 30) : LM kx saved sm done k A built bm parts pm taken calls lacks c total = kx done A built bm parts pm taken calls lacks (c : Int) total := by
  unfold LM
  have e : 1000 - k = (999 - k) + 1 := by omega
  rw [e, X10_migrate_L67, e_rd (by decide) (by decide), show ((148 : Int)).toNat = 148 from rfl, hN.1, e_LT (by omega) (by omega) (by omega) (by omega), if_neg (by omega)]
theorem lm_leaf (hN : OGP N og A) (hk : k < N) (hk30 : N ≤ 30) (g0 : 0 ≤ og k) (g1 : og k ≤ 60000) (ha : og k % 10 = 0) (hc : c ≤ 30) {w : Int × Arr × Arr × Int × Arr × Int × Arr × Int} (hw : X10_treats A built bm parts pm taken total (og k) = some w) : LM kx saved sm done k A built bm parts pm taken calls lacks c total = KM kx saved sm (done + w.1) 0 (k + 1) w.2.1 w.2.2.1 w.2.2.2.1 w.2.2.2.2.1 w.2.2.2.2.2.1 w.2.2.2.2.2.2.1 calls lacks c w.2.2.2.2.2.2.2 := by
  unfold LM KM
  have e : 1000 - k = (1000 - (k + 1)) + 1 := by omega
  have e2 : (149 + (k : Int)).toNat = 149 + k := by omega
  have e3 : (k : Int) + 1 = ((k + 1 : Nat) : Int) := by omega
  rw [e, X10_migrate_L67, e_rd (by decide) (by decide), show ((148 : Int)).toNat = 148 from rfl, hN.1, e_LT (by omega) (by omega) (by omega) (by omega), if_pos (by omega), e_rd (by omega) (by omega), e2, hN.2 k hk, X10_arguments_eq g0 (by omega), Option.bind_some, e_lt, e_LE (by omega) (by omega) (by decide) (by decide), if_pos (by omega)]
  unfold X10_treatsLeaf X10_treatsOpen
  rw [hw, Option.bind_some, Option.bind_some, e_lt, e_LE (by omega) (by omega) (by decide) (by decide), e3]
  by_cases h0 : c = 0
  · subst h0
    rw [if_pos (by decide), if_pos rfl]
  · rw [if_neg (by omega), if_neg h0]
theorem lm_call (hN : OGP N og A) (hk : k < N) (hk30 : N ≤ 30) (g0 : 0 ≤ og k) (g1 : og k ≤ 60000) {a : Int} (ha : og k % 10 = a) (a0 : 1 ≤ a) (hc : c < 30) : LM kx saved sm done k A built bm parts pm taken calls lacks c total = LM kx saved sm done (k + 1) A built bm parts pm taken (upI calls c (og k)) (upI lacks c a) (c + 1) total := by
  unfold LM
  have e : 1000 - k = (1000 - (k + 1)) + 1 := by omega
  have e2 : (149 + (k : Int)).toNat = 149 + k := by omega
  have e3 : (k : Int) + 1 = ((k + 1 : Nat) : Int) := by omega
  have e4 : (c : Int) + 1 = ((c + 1 : Nat) : Int) := by omega
  rw [e, X10_migrate_L67, e_rd (by decide) (by decide), show ((148 : Int)).toNat = 148 from rfl, hN.1, e_LT (by omega) (by omega) (by omega) (by omega), if_pos (by omega), e_rd (by omega) (by omega), e2, hN.2 k hk, X10_arguments_eq g0 (by omega), Option.bind_some, e_lt, e_LE (by omega) (by omega) (by decide) (by decide), if_neg (by omega), e_wr (by omega) (by omega), Option.bind_some, e_wr (by omega) (by omega), show ((c : Int)).toNat = c by omega, e3, e4, ha]
end LM
