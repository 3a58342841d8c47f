/-! parse: the reference's node, case by case -/
section RN
variable {S : St} {A f text : Arr} {L p : Int}
def nodeV (m c : Int) : Int := if 48 ≤ c ∧ c ≤ 57 then 10 * (c - 48) else nodeC m c
def CB (rdd : Arr) (rm : Int) (r : Option (Int × Arr × Int × Int)) : Option (Int × Arr × Int × Arr × Int × Int) := r.bind (fun v => boK v.1 (some (v.1, rdd, rm, v.2.1, v.2.2.1, v.2.2.2)))
theorem nodeC_bd {m c : Int} (m0 : 0 ≤ m) (m1 : m ≤ 4) (c0 : -1 ≤ c) (c1 : c ≤ 127) : -1 ≤ nodeC m c ∧ nodeC m c ≤ 60000 := by
  unfold nodeC
  repeat' split
  all_goals omega
def RQ9 (A text : Arr) (L : Int) (rdd : Arr) (rm : Int) (w : Arr) (o : Int) (q9 : Int × Int) : Option (Int × Arr × Int × Arr × Int × Int) := (X10_kind q9.1).bind (fun v11 => ltK (fun q13 : Int × Int => wrK 30 rdd rm (q9.1 + q13.1) (fun f15 => brLE q13.1 0 ((X10_kind q9.1).bind (fun v16 => brLE v16 2 (CB f15 (rm + 1) (X10_closes text L w o q13.2)) ((X10_here text L q13.2).bind (fun v21 => brEQ v21 41 (CB f15 (rm + 1) (X10_closes text L w o (q13.2 + 1))) (some (0, f15, (rm + 1), w, o, q13.2)))))) (wrK 30 w o q13.1 (fun f26 => some (1, f15, (rm + 1), f26, (o + 1), q13.2))))) (fun j14 => brLE v11 2 (j14 (0, q9.2)) ((X10_function q9.1).bind (fun v27 => rdK 186 A (v27 + 0) (fun v29 => (X10_here text L q9.2).bind (fun v30 => brEQ v30 40 (j14 (v29, (q9.2 + 1))) (some (0, rdd, rm, w, o, q9.2))))))))
theorem rn_start (h : PX S A f text L) (h0 : 0 ≤ p) (h1 : p ≤ L) {rdd w : Arr} {rm o : Int} (r0 : 0 ≤ rm) (r1 : rm ≤ 30) : X10_readsNode A text L rdd rm w o p = if nodeV S.2.2.2.1 (hr f L p) = -1 then some (0, rdd, rm, w, o, p) else if rm = 30 then some (0, rdd, rm, w, o, p) else if 48 ≤ hr f L p ∧ hr f L p ≤ 57 then (if 48 ≤ hr f L (p + 1) ∧ hr f L (p + 1) ≤ 57 then RQ9 A text L rdd rm w o (10 * (10 * (hr f L p - 48) + hr f L (p + 1) - 48), p + 2) else RQ9 A text L rdd rm w o (10 * (hr f L p - 48), p + 1)) else RQ9 A text L rdd rm w o (nodeC S.2.2.2.1 (hr f L p), p + 1) := by
  have hb := hr_bd h h0
  have hm := h.1.2.2.1
  have hn := nodeC_bd hm.1 hm.2.1 hb.1 hb.2
  unfold X10_readsNode
  rw [here_eq h h0 h1, Option.bind_some, isDigit_eq ⟨by omega, by omega⟩, Option.bind_some, e_lt, e_b10]
  unfold nodeV
  by_cases hd : 48 ≤ hr f L p ∧ hr f L p ≤ 57
  · have hpl : p < L := hr_lt (f := f) rfl (by omega)
    have hb2 := hr_bd (p := p + 1) h (by omega)
    rw [if_pos hd, if_pos hd, if_pos hd]
    unfold X10_node
    rw [Option.bind_some]
    dsimp only
    rw [e_EQ (by omega) (by omega) (by decide) (by decide), if_neg (by omega), if_neg (by omega), e_EQ (by omega) (by omega) (by decide) (by decide)]
    by_cases h30 : rm = 30
    · rw [if_pos h30, if_pos h30]
    · rw [if_neg h30, if_neg h30, Option.bind_some, if_pos hd, e_lt, e_b1, here_eq h (by omega) (by omega), Option.bind_some, isDigit_eq ⟨by omega, by omega⟩, Option.bind_some, e_b10]
      by_cases hd2 : 48 ≤ hr f L (p + 1) ∧ hr f L (p + 1) ≤ 57
      · rw [if_pos hd2, if_pos hd2, Option.bind_some, Option.bind_some]
        have e1 : 10000 * 0 + 10 * (10 * (hr f L p - 48) + hr f L (p + 1) - 48) + 0 = 10 * (10 * (hr f L p - 48) + hr f L (p + 1) - 48) := by omega
        have e2 : p + 1 + 1 = p + 2 := by omega
        rw [e1, e2]
        rfl
      · rw [if_neg hd2, if_neg hd2]
        have e1 : 10000 * 0 + 10 * (hr f L p - 48) + 0 = 10 * (hr f L p - 48) := by omega
        rw [e1]
        rfl
  · rw [if_neg hd, if_neg hd, if_neg hd, nodeOf_eq h.1 hb.1 hb.2, Option.bind_some]
    dsimp only
    rw [e_EQ (by omega) (by omega) (by decide) (by decide), e_EQ (by omega) (by omega) (by decide) (by decide)]
    by_cases hn1 : nodeC S.2.2.2.1 (hr f L p) = -1
    · rw [if_pos hn1, if_pos hn1]
    · rw [if_neg hn1, if_neg hn1]
      by_cases h30 : rm = 30
      · rw [if_pos h30, if_pos h30]
      · rw [if_neg h30, if_neg h30, Option.bind_some, if_neg hd, e_lt, e_b0]
        rfl
theorem rq_leaf {rdd w : Arr} {rm o a q : Int} (r0 : 0 ≤ rm) (r1 : rm < 30) (a0 : 0 ≤ a) (a1 : a < 30000) : RQ9 A text L rdd rm w o (a, q) = CB (upI rdd rm.toNat a) (rm + 1) (X10_closes text L w o q) := by
  unfold RQ9
  dsimp only
  rw [X10_kind_eq a0 (by omega), Option.bind_some, e_lt, e_LE (by omega) (by omega) (by decide) (by decide), if_pos (by omega)]
  dsimp only
  rw [e_wr r0 (by omega), e_LE (by decide) (by decide) (by decide) (by decide), if_pos (by decide), Option.bind_some, e_LE (by omega) (by omega) (by decide) (by decide), if_pos (by omega), Int.add_zero]
/-- where a call's function lies -/
def fnAt (a : Int) : Int := if a / 10000 = 3 then 7 * (a / 10 % 1000) else if a / 10000 = 4 then 42 + 7 * (a / 10 % 1000) else 84 + 8 * (a / 10 % 1000)
theorem rq_call (h : PX S A f text L) {q : Int} (h0 : 0 ≤ q) (h1 : q ≤ L) {rdd w : Arr} {rm o a n : Int} (r0 : 0 ≤ rm) (r1 : rm < 30) (o0 : 0 ≤ o) (o1 : o < 30) (a0 : 30000 ≤ a) (a1 : a ≤ 60000) (f0 : 0 ≤ fnAt a) (f1 : fnAt a < 186) (hn : A (fnAt a).toNat = n) (n0 : 0 ≤ n) (n1 : n ≤ 4) : RQ9 A text L rdd rm w o (a, q) = if hr f L q = 40 then (if n ≤ 0 then (if hr f L (q + 1) = 41 then CB (upI rdd rm.toNat (a + n)) (rm + 1) (X10_closes text L w o (q + 2)) else some (0, upI rdd rm.toNat (a + n), rm + 1, w, o, q + 1)) else some (1, upI rdd rm.toNat (a + n), rm + 1, upI w o.toNat n, o + 1, q + 1)) else some (0, rdd, rm, w, o, q) := by
  have hb := hr_bd h h0
  have hb1 := hr_bd (p := q + 1) h (by omega)
  have hfn : X10_function a = some (fnAt a) := by
    unfold X10_function fnAt
    rw [X10_kind_eq (by omega) (by omega), X10_which_eq (by omega) (by omega)]
    simp only [Option.bind_some]
    rw [e_EQ (by omega) (by omega) (by decide) (by decide), e_EQ (by omega) (by omega) (by decide) (by decide)]
    split
    · exact congrArg some (by omega)
    · split <;> rfl
  unfold RQ9
  dsimp only
  rw [X10_kind_eq (by omega) (by omega), Option.bind_some, e_lt, e_LE (by omega) (by omega) (by decide) (by decide), if_neg (by omega), hfn, Option.bind_some, e_rd (by omega) (by omega), Int.add_zero, hn, here_eq h h0 h1, Option.bind_some, e_EQ (by omega) (by omega) (by decide) (by decide)]
  by_cases hc : hr f L q = 40
  · have hl := hr_lt hc (by decide)
    have e2 : q + 1 + 1 = q + 2 := by omega
    rw [if_pos hc, if_pos hc]
    dsimp only
    rw [e_wr r0 (by omega), e_LE (by omega) (by omega) (by decide) (by decide)]
    by_cases hn0 : n ≤ 0
    · rw [if_pos hn0, if_pos hn0, Option.bind_some, e_LE (by omega) (by omega) (by decide) (by decide), if_neg (by omega), here_eq h (by omega) (by omega), Option.bind_some, e_EQ (by omega) (by omega) (by decide) (by decide), e2]
    · rw [if_neg hn0, if_neg hn0, e_wr o0 (by omega)]
  · rw [if_neg hc, if_neg hc]
end RN
