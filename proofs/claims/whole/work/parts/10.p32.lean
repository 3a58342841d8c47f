/-! migrate: a site, both sides -/
def siteC (S : St) (V : Mv) (x : Int) : Option (Int × St × Mv) := rdK 30 S.2.2.2.2.2.2.2.1.2.1 x (fun v3 => brEQ v3 2 ((X5_replaceOrReason S V x).bind (fun w4 => rdK 8 w4.2.1.2.2.2.2.2.2.2.2 w4.1 (fun v6 => wrK 8 w4.2.1.2.2.2.2.2.2.2.2 w4.1 (v6 + 1) (fun f7 => (X6_endOf w4.2.1.2.2.2.2.2.2.2.1 x).bind (fun v8 => some (v8, (w4.2.1.1, w4.2.1.2.1, w4.2.1.2.2.1, w4.2.1.2.2.2.1, w4.2.1.2.2.2.2.1, w4.2.1.2.2.2.2.2.1, w4.2.1.2.2.2.2.2.2.1, w4.2.1.2.2.2.2.2.2.2.1, f7), w4.2.2)))))) ((X6_endOf S.2.2.2.2.2.2.2.1 x).bind (fun v10 => some (v10, S, V))))
def SOut (N len k1 : Nat) (og : Arr) (B : Int) (S : St) (built parts : Arr) (x b q : Nat) (cls : Option (Int × St × Mv)) (ref : Option (Int × Arr × Arr × Int × Arr × Int × Arr × Int)) : Prop := ∃ (S' : St) (V' : Mv) (x' : Nat) (A' built' taken' : Arr) (dn : Int), cls = some ((x' : Int), S', V') ∧ ref = some (dn, A', built', ((b + (x' - x) : Nat) : Int), upI parts (q + 1) ((b + (x' - x) : Nat) : Int), ((q + 1 : Nat) : Int), taken', S'.2.2.2.2.2.2.2.1.1) ∧ SF N len k1 og B S S' A' built built' x b x' dn
/-- the reference's way of leaving a site -/
def JL (built : Arr) (bm : Int) (parts : Arr) (pm : Int) (taken : Arr) (total code : Int) (q8 : Int × Arr) : Option (Int × Arr × Arr × Int × Arr × Int × Arr × Int) := rdK 186 q8.2 ((179 + q8.1) - 1) (fun v10 => wrK 186 q8.2 ((179 + q8.1) - 1) (v10 + 1) (fun f11 => (X10_putsCall built bm parts pm code).bind (fun w12 => some (0, f11, w12.1, w12.2.1, w12.2.2.1, w12.2.2.2, taken, total))))
def JA (A built : Arr) (bm : Int) (parts : Arr) (pm : Int) (taken : Arr) (total code v1 na q16 : Int) : Option (Int × Arr × Arr × Int × Arr × Int × Arr × Int) := (X10_adapterFor A v1).bind (fun w20 => brEQ w20.1 (-1) (ltK (fun q22 : Int => JL built bm parts pm taken total code (q22, w20.2)) (fun j23 => brEQ q16 0 (j23 2) (j23 3))) ((some na).bind (fun v24 => (X10_node 5 w20.1 v24).bind (fun v26 => (X10_putsCall built bm parts pm v26).bind (fun w28 => some (1, w20.2, w28.1, w28.2.1, w28.2.2.1, w28.2.2.2, taken, total))))))
section TR
variable {S : St} {A built parts og : Arr} {x b q a N len k1 : Nat} {st : Nat → Nat} {B : Int}
theorem tr_non {bm pm total code : Int} {taken : Arr} (h0 : 0 ≤ code) (h1 : code ≤ 60000) (hk : code / 10000 ≠ 3) : X10_treats A built bm parts pm taken total code = (X10_putsCall built bm parts pm code).bind (fun w36 => some (0, A, w36.1, w36.2.1, w36.2.2.1, w36.2.2.2, taken, total)) := by
  unfold X10_treats
  rw [X10_which_eq h0 (by omega), Option.bind_some, X10_kind_eq h0 (by omega), Option.bind_some, e_EQ (by omega) (by omega) (by decide) (by decide), if_neg hk]
theorem tr_old {f : Nat} (hf : f < 6) {bm pm total ar tg : Int} {taken : Arr} (hA : A (7 * f) = ar) (ar0 : 0 ≤ ar) (ar1 : ar ≤ 3) (ha : a ≤ 9) (htg : A (117 + 5 * f) = tg) (tg0 : -1 ≤ tg) (tg1 : tg ≤ 5) : X10_treats A built bm parts pm taken total (30000 + 10 * (f : Int) + (a : Int)) = if (a : Int) = ar then (if tg = -1 then JA A built bm parts pm taken total (30000 + 10 * (f : Int) + (a : Int)) (f : Int) (a : Int) 0 else (X10_isTrue A (f : Int)).bind (fun v30 => brEQ v30 0 (JA A built bm parts pm taken total (30000 + 10 * (f : Int) + (a : Int)) (f : Int) (a : Int) 1) ((X10_reason A built parts pm total (30000 + 10 * (f : Int) + (a : Int))).bind (fun v32 => brEQ v32 0 ((X10_becomesNew A built bm parts pm taken total (30000 + 10 * (f : Int) + (a : Int))).bind (fun w34 => some (1, A, w34.1, w34.2.1, w34.2.2.1, w34.2.2.2.1, w34.2.2.2.2.1, w34.2.2.2.2.2))) (JL built bm parts pm taken total (30000 + 10 * (f : Int) + (a : Int)) (v32, A)))))) else JL built bm parts pm taken total (30000 + 10 * (f : Int) + (a : Int)) (1, A) := by
  unfold X10_treats
  have e1 : (30000 + 10 * (f : Int) + (a : Int)) / 10 % 1000 = (f : Int) := by omega
  have e2 : (30000 + 10 * (f : Int) + (a : Int)) / 10000 = 3 := by omega
  have e3 : (30000 + 10 * (f : Int) + (a : Int)) % 10 = (a : Int) := by omega
  have e4 : (0 + 7 * (f : Int) + 0).toNat = 7 * f := by omega
  rw [X10_which_eq (by omega) (by omega), e1, Option.bind_some, X10_kind_eq (by omega) (by omega), e2, Option.bind_some, e_EQ (by decide) (by decide) (by decide) (by decide), if_pos rfl, X10_arguments_eq (by omega) (by omega), e3, Option.bind_some, e_rd (by omega) (by omega), e4, hA, e_lt, e_EQ (by omega) (by omega) (by omega) (by omega)]
  by_cases hc : (a : Int) = ar
  · rw [if_pos hc, if_pos hc, X10_newOf_eq A hf, htg, Option.bind_some, e_lt, e_EQ (by omega) (by omega) (by decide) (by decide)]
    by_cases ht : tg = -1
    · rw [if_pos ht, if_pos ht]
      dsimp only
      rw [e_lt, e_b0]
      rfl
    · rw [if_neg ht, if_neg ht]
      dsimp only
      rw [e_lt, e_b1]
      rfl
  · rw [if_neg hc, if_neg hc]
    rfl
end TR
