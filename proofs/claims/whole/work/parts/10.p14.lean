/-! parse: the two readers' pieces -/
abbrev PRes : Type := Int × Arr × Arr × Int × Arr × Int × Arr × Int × Int
def hr (f : Arr) (L p : Int) : Int := if p < L then f p.toNat else -1
def PX (S : St) (A f text : Arr) (L : Int) : Prop := RS S A ∧ 0 ≤ L ∧ L ≤ 120 ∧ ∀ i : Nat, i < L.toNat → text i = f i ∧ 0 ≤ f i ∧ f i ≤ 127
section PS
variable {S : St} {A f text : Arr} {L p : Int}
theorem hr_bd (h : PX S A f text L) (h0 : 0 ≤ p) : -1 ≤ hr f L p ∧ hr f L p ≤ 127 := by
  unfold hr
  split
  · have := h.2.2.2 p.toNat (by omega)
    omega
  · omega
theorem hr_lt {c : Int} (h : hr f L p = c) (hc : 0 ≤ c) : p < L := by
  unfold hr at h
  split at h
  · assumption
  · omega
theorem here_eq (h : PX S A f text L) (h0 : 0 ≤ p) (h1 : p ≤ L) : X10_here text L p = some (hr f L p) := by
  unfold X10_here hr
  have := h.2.1
  have := h.2.2.1
  rw [e_LT (by omega) (by omega) (by omega) (by omega)]
  by_cases hp : p < L
  · rw [if_pos hp, if_pos hp, e_rd h0 (by omega), (h.2.2.2 p.toNat (by omega)).1]
  · rw [if_neg hp, if_neg hp]
theorem take_eq (h : PX S A f text L) (h0 : 0 ≤ p) (h1 : p ≤ L) {c : Int} (c0 : 0 ≤ c) (c1 : c ≤ 200) : X3_take (f, L, p) c = some (if hr f L p = c then (1, (f, L, p + 1)) else (0, (f, L, p))) := by
  unfold X3_take hr
  have := h.2.1
  have := h.2.2.1
  show brLT p L _ _ = _
  rw [e_LT (by omega) (by omega) (by omega) (by omega)]
  by_cases hp : p < L
  · have hb := h.2.2.2 p.toNat (by omega)
    rw [if_pos hp, if_pos hp]
    show rdK 120 f p _ = _
    rw [e_rd h0 (by omega), e_EQ (by omega) (by omega) (by omega) (by omega)]
    split <;> rfl
  · rw [if_neg hp, if_neg hp, if_neg (by omega)]
theorem isDigit_eq {c : Int} (h : Rg c) : X10_isDigit c = some (if 48 ≤ c ∧ c ≤ 57 then 1 else 0) := by
  unfold X10_isDigit
  rw [lg9 h, in10 h (by decide) (by decide) (by decide) (by decide), Option.bind_some, e_bo]
def nodeC (m c : Int) : Int := if c = 120 then 10000 else if c = 121 then 20000 else if 97 ≤ c ∧ c ≤ 102 then 30000 + 10 * (c - 97) else if 65 ≤ c ∧ c ≤ 70 then 40000 + 10 * (c - 65) else if 112 ≤ c ∧ c ≤ 111 + m then 50000 + 10 * (c - 112) else -1
theorem nodeOf_eq (h : RS S A) {c : Int} (c0 : -1 ≤ c) (c1 : c ≤ 127) : X10_nodeOf A c = some (nodeC S.2.2.2.1 c) := by
  have hg : Rg c := ⟨by omega, by omega⟩
  have hm := h.2.2.1
  have m0 := hm.1
  have m1 := hm.2.1
  have m2 := hm.2.2.1
  unfold X10_nodeOf nodeC X10_node
  simp only [Option.bind_some]
  rw [e_EQ hg.1 hg.2 (by decide) (by decide), e_EQ hg.1 hg.2 (by decide) (by decide), e_EQ hg.1 hg.2 (by decide) (by decide)]
  by_cases h1 : c = 120
  · rw [if_pos h1, if_pos h1, if_pos h1]; rfl
  · rw [if_neg h1, if_neg h1]
    by_cases h2 : c = 121
    · rw [if_pos h2, if_pos h2, if_neg h1]; rfl
    · rw [if_neg h2, if_neg h2, lg9 hg, in10 hg (by decide) (by decide) (by decide) (by decide), Option.bind_some, e_b10]
      by_cases h3 : 97 ≤ c ∧ c ≤ 102
      · rw [if_pos h3, if_pos h3]; exact congrArg some (by omega)
      · rw [if_neg h3, if_neg h3, lg9 hg, in10 hg (by decide) (by decide) (by decide) (by decide), Option.bind_some, e_b10]
        by_cases h4 : 65 ≤ c ∧ c ≤ 70
        · rw [if_pos h4, if_pos h4]; exact congrArg some (by omega)
        · rw [if_neg h4, if_neg h4, lg9 hg, e_rd (by decide) (by decide)]
          have e : A (116 : Int).toNat = S.2.2.2.1 := m2
          rw [e, lg9 ⟨by omega, by omega⟩, in10 hg (by decide) (by decide) (by omega) (by omega), Option.bind_some, e_b10]
          by_cases h5 : 112 ≤ c ∧ c ≤ 111 + S.2.2.2.1
          · rw [if_pos h5, if_pos (c := 112 ≤ c ∧ c ≤ 112 + S.2.2.2.1 - 1) (by omega), if_neg h1]; exact congrArg some (by omega)
          · rw [if_neg h5, if_neg (c := 112 ≤ c ∧ c ≤ 112 + S.2.2.2.1 - 1) (by omega), if_neg h1]
end PS
/-! closing -/
section CL
variable {S : St} {A f text : Arr} {L p : Int}
theorem cl_fuel (text : Arr) (L : Int) (kx : Arr → Int → Int → Option (Int × Arr × Int × Int)) : ∀ (n m : Nat) (w : Arr) (o p : Int), 0 ≤ o → o ≤ 30 → o.toNat < n → o.toNat < m → X10_closes_L0 kx text L n w o p = X10_closes_L0 kx text L m w o p := by
  intro n
  induction n with
  | zero => intro m w o p _ _ h; omega
  | succ n ih =>
    intro m w o p h0 h1 h2 h3
    obtain ⟨m, rfl⟩ : ∃ k, m = k + 1 := ⟨m - 1, by omega⟩
    rw [X10_closes_L0, X10_closes_L0]
    by_cases ho : o ≤ 0
    · rw [e_LE (by omega) (by omega) (by decide) (by decide), if_pos ho, e_LE (by omega) (by omega) (by decide) (by decide), if_pos ho]
    · have : ∀ (g : Arr) (q : Int), X10_closes_L0 kx text L n g (o - 1) q = X10_closes_L0 kx text L m g (o - 1) q := fun g q => ih m g (o - 1) q (by omega) (by omega) (by omega) (by omega)
      simp only [this]
theorem cl_zero (text : Arr) (L : Int) (w : Arr) (p : Int) : X10_closes text L w 0 p = some (1, w, 0, p) := by
  unfold X10_closes
  rw [FU_eq, X10_closes_L0, e_LE (by decide) (by decide) (by decide) (by decide), if_pos (by decide)]
theorem cl_step (h : PX S A f text L) (h0 : 0 ≤ p) (h1 : p ≤ L) {w : Arr} {o v : Int} (o0 : 0 ≤ o) (o1 : o < 30) (hv : w o.toNat = v) (v0 : 1 ≤ v) (v1 : v ≤ 4) : X10_closes text L w (o + 1) p = if hr f L p = (if 2 ≤ v then 44 else 41) then (if 2 ≤ v then some (1, upI w o.toNat (v - 1), o + 1, p + 1) else X10_closes text L (upI w o.toNat (v - 1)) o (p + 1)) else some (0, upI w o.toNat (v - 1), o + 1, p) := by
  have hb := hr_bd h h0
  have e1 : o + 1 - 1 = o := by omega
  unfold X10_closes
  rw [FU_eq, X10_closes_L0, e_LE (by omega) (by omega) (by decide) (by decide), if_neg (by omega), e1, e_rd o0 (by omega), hv, e_wr o0 (by omega), here_eq h h0 h1, Option.bind_some, e_rd o0 (by omega), uI_same, e_lt, e_LE (by omega) (by omega) (by decide) (by decide)]
  by_cases hv2 : 2 ≤ v
  · rw [if_neg (by omega), if_pos hv2, if_pos hv2]
    dsimp only
    rw [e_rd o0 (by omega), uI_same, e_LE (by omega) (by omega) (by decide) (by decide), if_neg (by omega), e_EQ (by omega) (by omega) (by decide) (by decide)]
  · rw [if_pos (by omega), if_neg hv2, if_neg hv2]
    dsimp only
    rw [e_rd o0 (by omega), uI_same, e_LE (by omega) (by omega) (by decide) (by decide), if_pos (by omega), cl_fuel text L _ 999 1000 _ o _ (by omega) (by omega) (by omega) (by omega), e_EQ (by omega) (by omega) (by decide) (by decide)]
end CL
