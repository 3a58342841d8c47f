/-! migrate: the three ends of a site -/
section SE
variable {S : St} {A built parts og : Arr} {x b q a N len k1 : Nat} {st : Nat → Nat} {B : Int}
def SH (N len k1 : Nat) (og : Arr) (B : Int) (S : St) (A built parts : Arr) (x b q a : Nat) (st : Nat → Nat) : Prop := SiteP S A built parts x b q a st ∧ (x : Int) < S.2.2.2.2.2.2.2.1.1 ∧ q ≤ b ∧ b ≤ x ∧ S.2.2.2.2.2.2.2.1.2.2.2 x = (a : Int) ∧ S.2.2.2.2.2.2.2.1.1 = ((st a + len : Nat) : Int) ∧ (∀ j : Nat, j < len → nodeOK S.2.2.2.1 (S.2.2.2.2.2.2.2.1.2.1 (st a + j)) (S.2.2.2.2.2.2.2.1.2.2.1 (st a + j)) (S.2.2.2.2.2.2.2.1.2.2.2 (st a + j)) (og (k1 + j))) ∧ OGP N og A ∧ RO S.2.2.2.2.2.2.2.2 A B ∧ N ≤ 30
theorem OGP.congr {A B : Arr} (h : OGP N og A) (hN : N ≤ 30) (hB : ∀ j : Nat, 148 ≤ j → j ≤ 178 → B j = A j) : OGP N og B := ⟨(hB 148 (by omega) (by omega)).trans h.1, fun j hj => (hB (149 + j) (by omega) (by omega)).trans (h.2 j hj)⟩
theorem site_left (h : SH N len k1 og B S A built parts x b q a st) (hkd : S.2.2.2.2.2.2.2.1.2.1 x = 2) {code : Int} (hcode : nodeOK S.2.2.2.1 (S.2.2.2.2.2.2.2.1.2.1 x) (S.2.2.2.2.2.2.2.1.2.2.1 x) (a : Int) code) {w : Nat} (w0 : 1 ≤ w) (w1 : w ≤ 7) {V V2 : Mv} (hcls : X5_replaceOrReason S V (x : Int) = some ((w : Int), S, V2)) (taken : Arr) : SOut N len k1 og (B + 1) S built parts x b q (siteC S V (x : Int)) (JL built ((b + (st a - (x + 1)) : Nat) : Int) parts ((q + a : Nat) : Int) taken S.2.2.2.2.2.2.2.1.1 code ((w : Int), A)) := by
  obtain ⟨hS, hx, hqb, hbx, hac, hlen, hsuf, hO, hR, hN30⟩ := h
  have h30 := hS.2.1
  have hQ := hS.1
  have hQ' : RQ (setO S (upI S.2.2.2.2.2.2.2.2 w (S.2.2.2.2.2.2.2.2 w + 1))) (upI A (178 + w) (A (178 + w) + 1)) := hQ.congrLo (fun j hj => uI_ne (by omega)) rfl rfl rfl rfl (hQ.2.2.1.congrA (fun j j0 j1 => uI_ne (by omega)))
  obtain ⟨built', g1, g2, g3⟩ := site_puts (S' := setO S (upI S.2.2.2.2.2.2.2.2 w (S.2.2.2.2.2.2.2.2 w + 1))) (A' := upI A (178 + w) (A (178 + w) + 1)) (og := og) (N := N) (len := len) (k1 := k1) (B := B + 1) (dn := 0) hS hx hqb hbx hac hlen hsuf hQ' (Int.le_refl _) rfl rfl (fun j _ => ⟨rfl, rfl⟩) hcode (hO.congr hN30 (fun j j0 j1 => uI_ne (by omega))) ⟨hR.bump w0 w1, by
    show upI S.2.2.2.2.2.2.2.2 w _ 0 = _
    rw [uI_ne (by omega)]; omega⟩
  refine ⟨_, V2, st a, _, built', taken, 0, ?_, ?_, g3⟩
  · unfold siteC
    rw [e_rd (by omega) (by omega), show ((x : Int)).toNat = x by omega, hkd, e_EQ (by decide) (by decide) (by decide) (by decide), if_pos rfl, hcls, Option.bind_some]
    show rdK 8 S.2.2.2.2.2.2.2.2 (w : Int) _ = _
    rw [e_rd (by omega) (by omega), e_wr (by omega) (by omega), show ((w : Int)).toNat = w by omega]
    have g1' : X6_endOf S.2.2.2.2.2.2.2.1 (x : Int) = some ((st a : Nat) : Int) := g1
    show (X6_endOf S.2.2.2.2.2.2.2.1 (x : Int)).bind _ = _
    rw [g1']
    rfl
  · unfold JL
    dsimp only
    rw [e_rd (by omega) (by omega), e_wr (by omega) (by omega), show (179 + (w : Int) - 1).toNat = 178 + w by omega, g2, Option.bind_some]
    rfl
theorem site_adapt (h : SH N len k1 og B S A built parts x b q a st) (hkd : S.2.2.2.2.2.2.2.1.2.1 x = 2) {f : Nat} (hf : f < 6) (ha : a ≤ 3) {S1 : St} {A1 : Arr} {n : Nat} (h1 : X10_adapterFor A (f : Int) = some ((n : Int), A1)) (h2 : X8_provideAdapter (setP S (S.2.2.2.2.2.2.2.1.1, upI S.2.2.2.2.2.2.2.1.2.1 x 4, S.2.2.2.2.2.2.2.1.2.2.1, S.2.2.2.2.2.2.2.1.2.2.2)) (f : Int) = some ((n : Int), S1)) (h3 : (n : Int) < S1.2.2.2.1) (h4 : S.2.2.2.1 ≤ S1.2.2.2.1) (h5 : RQ S1 A1) (h6 : S1.2.2.2.2.2.2.2 = ((S.2.2.2.2.2.2.2.1.1, upI S.2.2.2.2.2.2.2.1.2.1 x 4, S.2.2.2.2.2.2.2.1.2.2.1, S.2.2.2.2.2.2.2.1.2.2.2), S.2.2.2.2.2.2.2.2)) (h7 : ∀ j : Nat, 116 < j → A1 j = A j) {V : Mv} (hcls : X5_replaceOrReason S V (x : Int) = (X5_adaptOrReason S V (x : Int) (f : Int)).bind (fun w7 => some (w7.1, w7.2, V))) (hcan : X8_canUseAdapter S (f : Int) = some 1) (taken : Arr) (code q16 : Int) : SOut N len k1 og (B + 1) S built parts x b q (siteC S V (x : Int)) (JA A built ((b + (st a - (x + 1)) : Nat) : Int) parts ((q + a : Nat) : Int) taken S.2.2.2.2.2.2.2.1.1 code (f : Int) (a : Int) q16) := by
  obtain ⟨hS, hx, hqb, hbx, hac, hlen, hsuf, hO, hR, hN30⟩ := h
  have h30 := hS.2.1
  have hQ := hS.1
  have ex : ((x : Int)).toNat = x := by omega
  have hcls2 : X5_adaptOrReason S V (x : Int) (f : Int) = some (0, (S1.1, S1.2.1, S1.2.2.1, S1.2.2.2.1, S1.2.2.2.2.1, S1.2.2.2.2.2.1, S1.2.2.2.2.2.2.1, (S.2.2.2.2.2.2.2.1.1, upI S.2.2.2.2.2.2.2.1.2.1 x 4, upI S.2.2.2.2.2.2.2.1.2.2.1 x (n : Int), S.2.2.2.2.2.2.2.1.2.2.2), S.2.2.2.2.2.2.2.2)) := by
    unfold X5_adaptOrReason
    rw [hcan, Option.bind_some, e_b1, e_wr (by omega) (by omega), ex]
    have h2' : X8_provideAdapter (S.1, S.2.1, S.2.2.1, S.2.2.2.1, S.2.2.2.2.1, S.2.2.2.2.2.1, S.2.2.2.2.2.2.1, (S.2.2.2.2.2.2.2.1.1, upI S.2.2.2.2.2.2.2.1.2.1 x 4, S.2.2.2.2.2.2.2.1.2.2.1, S.2.2.2.2.2.2.2.1.2.2.2), S.2.2.2.2.2.2.2.2) (f : Int) = _ := h2
    rw [h2', Option.bind_some]
    dsimp only
    rw [h6]
    dsimp only
    rw [e_wr (by omega) (by omega), ex]
  have m4 := h5.2.2.1.2.1
  obtain ⟨built', g1, g2, g3⟩ := site_puts (S' := (S1.1, S1.2.1, S1.2.2.1, S1.2.2.2.1, S1.2.2.2.2.1, S1.2.2.2.2.2.1, S1.2.2.2.2.2.2.1, (S.2.2.2.2.2.2.2.1.1, upI S.2.2.2.2.2.2.2.1.2.1 x 4, upI S.2.2.2.2.2.2.2.1.2.2.1 x (n : Int), S.2.2.2.2.2.2.2.1.2.2.2), upI S.2.2.2.2.2.2.2.2 0 (S.2.2.2.2.2.2.2.2 0 + 1))) (A' := A1) (og := og) (N := N) (len := len) (k1 := k1) (B := B + 1) (dn := 1) (code := 10000 * 5 + 10 * (n : Int) + (a : Int)) hS hx hqb hbx hac hlen hsuf h5 h4 rfl rfl (fun j hj => ⟨uI_ne hj, uI_ne hj⟩) (by
    show nodeOK S1.2.2.2.1 (upI S.2.2.2.2.2.2.2.1.2.1 x 4 x) (upI S.2.2.2.2.2.2.2.1.2.2.1 x (n : Int) x) (a : Int) _
    rw [uI_same, uI_same]
    exact Or.inr (Or.inr (Or.inr (Or.inr ⟨rfl, by omega, h3, by omega, by omega, by omega⟩)))) (hO.congr hN30 (fun j j0 j1 => h7 j (by omega))) ⟨by
    have hz := hR.zero
    exact ⟨fun r r0 r1 => (h7 (178 + r) (by omega)).trans (hz.1 r r0 r1), hz.2⟩, uI_same (f := S.2.2.2.2.2.2.2.2) (v := S.2.2.2.2.2.2.2.2 0 + 1) 0⟩
  refine ⟨_, V, st a, _, built', taken, 1, ?_, ?_, g3⟩
  · unfold siteC
    rw [e_rd (by omega) (by omega), ex, hkd, e_EQ (by decide) (by decide) (by decide) (by decide), if_pos rfl, hcls, hcls2, Option.bind_some, Option.bind_some]
    show rdK 8 S.2.2.2.2.2.2.2.2 0 _ = _
    rw [e_rd (by decide) (by decide)]
    show wrK 8 S.2.2.2.2.2.2.2.2 0 (S.2.2.2.2.2.2.2.2 0 + 1) _ = _
    rw [e_wr (by decide) (by decide)]
    have g1' : X6_endOf (S.2.2.2.2.2.2.2.1.1, upI S.2.2.2.2.2.2.2.1.2.1 x 4, upI S.2.2.2.2.2.2.2.1.2.2.1 x (n : Int), S.2.2.2.2.2.2.2.1.2.2.2) (x : Int) = some ((st a : Nat) : Int) := g1
    show (X6_endOf (S.2.2.2.2.2.2.2.1.1, upI S.2.2.2.2.2.2.2.1.2.1 x 4, upI S.2.2.2.2.2.2.2.1.2.2.1 x (n : Int), S.2.2.2.2.2.2.2.1.2.2.2) (x : Int)).bind _ = _
    rw [g1']
    rfl
  · unfold JA X10_node
    rw [h1, Option.bind_some]
    dsimp only
    rw [e_EQ (by omega) (by omega) (by decide) (by decide), if_neg (by omega), Option.bind_some, Option.bind_some, g2, Option.bind_some]
theorem site_new (h : SH N len k1 og B S A built parts x b q a st) (hkd : S.2.2.2.2.2.2.2.1.2.1 x = 2) {f t u : Nat} (hf : f < 6) (ht : t < 6) (hft : S.2.2.2.2.2.2.1.1 f = (t : Int)) (hut : S.2.1.1 t = (u : Int)) (hu : u ≤ 4) (ha : a ≤ 3) (hw : ∀ p : Nat, p < u → S.2.2.2.2.2.2.1.2.1 (4 * f + p) < (a : Int)) (hz : S.2.2.2.2.2.2.2.1.1 - (((st a : Nat) : Int) - ((x : Int) + 1)) + szs S f st u ≤ 30) {V V2 : Mv} (hV : ∀ i : Nat, i ≤ a → V2.2.1 i = ((st i : Nat) : Int)) {code : Int} (hcode : X10_arguments code = some (a : Int)) (hwhich : X10_which code = some (f : Int)) (hcls : X5_replaceOrReason S V (x : Int) = (X5_replaceSite S V2 (x : Int) (f : Int) (u : Int)).bind (fun w18 => some (0, w18.1, w18.2))) (taken : Arr) (bm : Int) : SOut N len k1 og (B + 1) S built parts x b q (siteC S V (x : Int)) ((X10_becomesNew A built bm parts ((q + a : Nat) : Int) taken S.2.2.2.2.2.2.2.1.1 code).bind (fun w34 => some (1, A, w34.1, w34.2.1, w34.2.2.1, w34.2.2.2.1, w34.2.2.2.2.1, w34.2.2.2.2.2))) := by
  obtain ⟨hS, hx, hqb, hbx, hac, hlen, hsuf, hO, hR, hN30⟩ := h
  have h30 := hS.2.1
  have hQ := hS.1
  have hm4 := hQ.2.2.1.2.1
  have ex : ((x : Int)).toNat = x := by omega
  obtain ⟨n, len', P', V', built', taken', k1', k2, k3, k4, k5, k6, k7, k8, k9, k10, k11, k12⟩ := new_both hS hf ht hft hut hu ha hw hx hbx hqb hac hz hV hcode hwhich taken bm
  have hll : len' = len := by omega
  subst hll
  have hend : X6_endOf P' (x : Int) = some ((x + n : Nat) : Int) := by
    refine endOf_eq k10 (by rw [k5]; omega) (by rw [k5]; omega) (fun i hi => ?_)
    rw [k5] at hi
    by_cases c1 : i < x
    · rw [(k11 i c1).2.2]
      exact hS.2.2.1 i (by omega)
    · by_cases c2 : i < x + n
      · obtain ⟨j, rfl⟩ : ∃ j, i = x + j := ⟨i - x, by omega⟩
        have := (k9 j (by omega)).facts hm4
        omega
      · obtain ⟨j, rfl⟩ : ∃ j, i = x + n + j := ⟨i - (x + n), by omega⟩
        rw [(k12 j (by omega)).2.2]
        exact hS.2.2.1 (st a + j) (by omega)
  have exn : x + n - x = n := by omega
  refine ⟨setO (setP S P') (upI S.2.2.2.2.2.2.2.2 0 (S.2.2.2.2.2.2.2.2 0 + 1)), V', x + n, A, built', taken', 1, ?_, ?_, by omega, hQ, Int.le_refl _, by show P'.1 ≤ 30; omega, k5, fun j hj => ?_, hO, ⟨hR.zero, uI_same (f := S.2.2.2.2.2.2.2.2) (v := S.2.2.2.2.2.2.2.2 0 + 1) 0⟩, k11, fun j hj => k9 j (by omega), k8, k10⟩
  · unfold siteC
    rw [e_rd (by omega) (by omega), ex, hkd, e_EQ (by decide) (by decide) (by decide) (by decide), if_pos rfl, hcls, k3, Option.bind_some, Option.bind_some]
    show rdK 8 S.2.2.2.2.2.2.2.2 0 _ = _
    rw [e_rd (by decide) (by decide)]
    show wrK 8 S.2.2.2.2.2.2.2.2 0 (S.2.2.2.2.2.2.2.2 0 + 1) _ = _
    rw [e_wr (by decide) (by decide)]
    show (X6_endOf P' (x : Int)).bind _ = _
    rw [hend]
    rfl
  · rw [k4, Option.bind_some, exn]
    rfl
  · show nodeOK S.2.2.2.1 (P'.2.1 (x + n + j)) (P'.2.2.1 (x + n + j)) (P'.2.2.2 (x + n + j)) _
    obtain ⟨d1, d2, d3⟩ := k12 j hj
    rw [d1, d2, d3]
    exact hsuf j hj
end SE
