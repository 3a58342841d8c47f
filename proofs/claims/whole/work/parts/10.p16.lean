/-! parse: pieces, and the loop's two states -/
section CP
variable {S : St} {A f text : Arr} {L p : Int}
theorem dig_eq (h : PX S A f text L) (h0 : 0 ≤ p) (h1 : p ≤ L) : X3_digitFollows (f, L, p) = some (if 48 ≤ hr f L p ∧ hr f L p ≤ 57 then 1 else 0) := by
  have := h.2.1
  have := h.2.2.1
  unfold X3_digitFollows hr
  show brLT p L _ _ = _
  rw [e_LT (by omega) (by omega) (by omega) (by omega)]
  by_cases hp : p < L
  · have hb := h.2.2.2 p.toNat (by omega)
    rw [if_pos hp, if_pos hp]
    show rdK 120 f p _ = _
    rw [e_rd h0 (by omega), wi9 ⟨by omega, by omega⟩ (by decide) (by decide) (by decide) (by decide), Option.bind_some, e_b10]
    split <;> rfl
  · rw [if_neg hp, if_neg hp, if_neg (by omega)]
def adP (P : Pg) (a b c : Int) : Pg := (P.1 + 1, upI P.2.1 P.1.toNat a, upI P.2.2.1 P.1.toNat b, upI P.2.2.2 P.1.toNat c)
theorem add_ad (P : Pg) (a b c : Int) (h0 : 0 ≤ P.1) (h1 : P.1 < 30) : X6_add P a b c = some (1, adP P a b c) := X6_add_eq P a b c h0 h1
theorem num_eq (h : PX S A f text L) (h0 : 0 ≤ p) (h1 : p ≤ L) (hd : 48 ≤ hr f L p ∧ hr f L p ≤ 57) (P : Pg) (q0 : 0 ≤ P.1) (q1 : P.1 < 30) : X3_readNumber (f, L, p) P = if 48 ≤ hr f L (p + 1) ∧ hr f L (p + 1) ≤ 57 then some (1, (f, L, p + 2), adP P 0 (10 * (hr f L p - 48) + hr f L (p + 1) - 48) 0) else some (1, (f, L, p + 1), adP P 0 (hr f L p - 48) 0) := by
  have := h.2.1
  have := h.2.2.1
  have hl : p < L := hr_lt (f := f) rfl (by omega)
  have hf : f p.toNat = hr f L p := by unfold hr; rw [if_pos hl]
  unfold X3_readNumber
  rw [FU_eq, X3_readNumber_L4, e_LT (by decide) (by decide) (by decide) (by decide), if_pos (by decide), dig_eq h h0 h1, Option.bind_some, e_b10, if_pos hd]
  show rdK 120 f p _ = _
  rw [e_rd h0 (by omega), hf, X3_readNumber_L4, e_LT (by decide) (by decide) (by decide) (by decide), if_pos (by decide)]
  show (X3_digitFollows (f, L, p + 1)).bind _ = _
  rw [dig_eq h (by omega) (by omega), Option.bind_some, e_b10]
  by_cases hd2 : 48 ≤ hr f L (p + 1) ∧ hr f L (p + 1) ≤ 57
  · have hl2 : p + 1 < L := hr_lt (f := f) rfl (by omega)
    have hf2 : f (p + 1).toNat = hr f L (p + 1) := by unfold hr; rw [if_pos hl2]
    rw [if_pos hd2, if_pos hd2]
    show rdK 120 f (p + 1) _ = _
    rw [e_rd (by omega) (by omega), hf2, X3_readNumber_L4, e_LT (by decide) (by decide) (by decide) (by decide), if_neg (by decide), add_ad _ _ _ _ q0 q1, Option.bind_some, e_bo' (Or.inr rfl)]
    have e1 : (0 * 10 + hr f L p - 48) * 10 + hr f L (p + 1) - 48 = 10 * (hr f L p - 48) + hr f L (p + 1) - 48 := by omega
    have e2 : p + 1 + 1 = p + 2 := by omega
    rw [e1, e2]
  · rw [if_neg hd2, if_neg hd2, add_ad _ _ _ _ q0 q1, Option.bind_some, e_bo' (Or.inr rfl)]
    have e1 : 0 * 10 + hr f L p - 48 = hr f L p - 48 := by omega
    rw [e1]
/-- a call's body, whichever table its function is of -/
def CBody (RE : St → In → Pg → Option (Int × In × Pg)) (V0 : St) (V1 : In) (V2 : Pg) (p3 p4 v3 : Int) : Option (Int × In × Pg) := (X3_take (V1.1, V1.2.1, (V1.2.2 + 1)) 40).bind (fun w5 => brEQ w5.1 0 (some (0, w5.2, V2)) ((X6_add V2 p3 p4 v3).bind (fun w7 => brEQ w7.1 0 (some (0, w5.2, w7.2)) (X3_readCall_L48 (fun w15 w16 => (X3_take w15 41).bind (fun w17 => boK w17.1 (some (w17.1, w17.2, w16)))) RE V0 v3 FU 0 w5.2 w7.2))))
theorem call2_eq (RE : St → In → Pg → Option (Int × In × Pg)) (V1 : In) (V2 : Pg) {nm : Int} (n0 : 0 ≤ nm) (n1 : nm ≤ 5) : X3_readCall RE S V1 V2 2 nm = CBody RE S V1 V2 2 nm (S.1.1 nm.toNat) := by
  unfold X3_readCall
  rw [X8_tableOf_eq S ⟨by decide, by decide⟩, Option.bind_some, if_pos rfl, sel3_0, X1_arityOf_eq (by decide) _ ⟨by omega, by omega⟩, Option.bind_some, if_pos (by omega)]
  rfl
theorem call3_eq (RE : St → In → Pg → Option (Int × In × Pg)) (V1 : In) (V2 : Pg) {nm : Int} (n0 : 0 ≤ nm) (n1 : nm ≤ 5) : X3_readCall RE S V1 V2 3 nm = CBody RE S V1 V2 3 nm (S.2.1.1 nm.toNat) := by
  unfold X3_readCall
  rw [X8_tableOf_eq S ⟨by decide, by decide⟩, Option.bind_some, if_neg (by decide), if_pos rfl, sel3_1, X1_arityOf_eq (by decide) _ ⟨by omega, by omega⟩, Option.bind_some, if_pos (by omega)]
  rfl
theorem call4_eq (RE : St → In → Pg → Option (Int × In × Pg)) (V1 : In) (V2 : Pg) {nm : Int} (n0 : 0 ≤ nm) (n1 : nm ≤ 3) : X3_readCall RE S V1 V2 4 nm = CBody RE S V1 V2 4 nm (S.2.2.1.1 nm.toNat) := by
  unfold X3_readCall
  rw [X8_tableOf_eq S ⟨by decide, by decide⟩, Option.bind_some, if_neg (by decide), if_neg (by decide), sel3_2, X1_arityOf_eq (by decide) _ ⟨by omega, by omega⟩, Option.bind_some, if_pos (by omega)]
  rfl
end CP
section LK
variable (kx : Arr → Int → Arr → Int → Int → Option PRes) (A saved text : Arr) (sm L : Int)
def NX (n : Nat) (w1 : Int × Arr × Int × Arr × Int × Int) : Option PRes := brEQ w1.1 0 (some (((-10) - w1.2.2.2.2.2), A, saved, sm, w1.2.1, w1.2.2.1, w1.2.2.2.1, w1.2.2.2.2.1, w1.2.2.2.2.2)) (brLE w1.2.2.2.2.1 0 (kx w1.2.1 w1.2.2.1 w1.2.2.2.1 w1.2.2.2.2.1 w1.2.2.2.2.2) (X10_parse_L15 kx A saved sm text L n w1.2.1 w1.2.2.1 w1.2.2.2.1 w1.2.2.2.2.1 w1.2.2.2.2.2))
def LPq (rdd : Arr) (rm : Int) (w : Arr) (o p : Int) : Option PRes := X10_parse_L15 kx A saved sm text L (1000 - rm.toNat) rdd rm w o p
def KK (rdd : Arr) (rm : Int) (w : Arr) (o p : Int) : Option PRes := (CB rdd rm (X10_closes text L w o p)).bind (NX kx A saved text sm L (1000 - rm.toNat))
theorem lp_unf {rdd w : Arr} {rm o p : Int} (r0 : 0 ≤ rm) (r1 : rm ≤ 30) : LPq kx A saved text sm L rdd rm w o p = (X10_readsNode A text L rdd rm w o p).bind (NX kx A saved text sm L (1000 - (rm + 1).toNat)) := by
  unfold LPq
  have e : 1000 - rm.toNat = (1000 - (rm + 1).toNat) + 1 := by omega
  rw [e, X10_parse_L15]
  rfl
theorem nx_fail (n : Nat) (rdd w : Arr) (rm o p : Int) : NX kx A saved text sm L n (0, rdd, rm, w, o, p) = some (-10 - p, A, saved, sm, rdd, rm, w, o, p) := by
  unfold NX
  rw [e_b0]
theorem nx_go (n : Nat) (rdd w : Arr) (rm p : Int) {o : Int} (o0 : 0 ≤ o) (o1 : o ≤ 30) : NX kx A saved text sm L n (1, rdd, rm, w, o, p) = if o ≤ 0 then kx rdd rm w o p else X10_parse_L15 kx A saved sm text L n rdd rm w o p := by
  unfold NX
  rw [e_b1, e_LE (by show -2147483648 ≤ o; omega) (by show o ≤ 2147483647; omega) (by decide) (by decide)]
theorem kk_zero (rdd w : Arr) (rm p : Int) : KK kx A saved text sm L rdd rm w 0 p = kx rdd rm w 0 p := by
  unfold KK CB
  rw [cl_zero, Option.bind_some, e_bo' (Or.inr rfl), Option.bind_some, nx_go kx A saved text sm L _ _ _ _ _ (by show (0:Int) ≤ 0; decide) (by show (0:Int) ≤ 30; decide), if_pos (by show (0:Int) ≤ 0; decide)]
variable {S : St} {f : Arr}
theorem kk_step (h : PX S A f text L) {rdd w : Arr} {rm o v p : Int} (h0 : 0 ≤ p) (h1 : p ≤ L) (o0 : 0 ≤ o) (o1 : o < 30) (hv : w o.toNat = v) (v0 : 1 ≤ v) (v1 : v ≤ 4) : KK kx A saved text sm L rdd rm w (o + 1) p = if hr f L p = (if 2 ≤ v then 44 else 41) then (if 2 ≤ v then LPq kx A saved text sm L rdd rm (upI w o.toNat (v - 1)) (o + 1) (p + 1) else KK kx A saved text sm L rdd rm (upI w o.toNat (v - 1)) o (p + 1)) else some (-10 - p, A, saved, sm, rdd, rm, upI w o.toNat (v - 1), o + 1, p) := by
  unfold KK CB
  rw [cl_step h h0 h1 o0 o1 hv v0 v1]
  by_cases hc : hr f L p = (if 2 ≤ v then 44 else 41)
  · rw [if_pos hc, if_pos hc]
    by_cases hv2 : 2 ≤ v
    · rw [if_pos hv2, if_pos hv2, Option.bind_some, e_bo' (Or.inr rfl), Option.bind_some, nx_go kx A saved text sm L _ _ _ _ _ (by show 0 ≤ o + 1; omega) (by show o + 1 ≤ 30; omega), if_neg (by show ¬ (o + 1 ≤ 0); omega)]
      rfl
    · rw [if_neg hv2, if_neg hv2]
  · rw [if_neg hc, if_neg hc, Option.bind_some, e_bo' (Or.inl rfl), Option.bind_some, nx_fail]
theorem kk_two (h : PX S A f text L) {rdd w : Arr} {rm o v p : Int} (h0 : 0 ≤ p) (h1 : p ≤ L) (o0 : 0 ≤ o) (o1 : o < 30) (hv : w o.toNat = v) (v0 : 2 ≤ v) (v1 : v ≤ 4) : KK kx A saved text sm L rdd rm w (o + 1) p = if hr f L p = 44 then LPq kx A saved text sm L rdd rm (upI w o.toNat (v - 1)) (o + 1) (p + 1) else some (-10 - p, A, saved, sm, rdd, rm, upI w o.toNat (v - 1), o + 1, p) := by
  rw [kk_step kx A saved text sm L h h0 h1 o0 o1 hv (by omega) v1]
  simp only [if_pos v0]
theorem kk_one (h : PX S A f text L) {rdd w : Arr} {rm o p : Int} (h0 : 0 ≤ p) (h1 : p ≤ L) (o0 : 0 ≤ o) (o1 : o < 30) (hv : w o.toNat = 1) : KK kx A saved text sm L rdd rm w (o + 1) p = if hr f L p = 41 then KK kx A saved text sm L rdd rm (upI w o.toNat 0) o (p + 1) else some (-10 - p, A, saved, sm, rdd, rm, upI w o.toNat 0, o + 1, p) := by
  rw [kk_step kx A saved text sm L h h0 h1 o0 o1 hv (by decide) (by decide)]
  rfl
end LK
