/-! pure: the small methods -/
theorem rel_ref {i : Int} {C : CM} {M : MT} (hR : REL i C M) {code : Int} (h1 : -5 ≤ code) (h2 : code ≤ -2) : REL (i + 4) (setE C (bmp C.2.2.2.2.2.2.2 code)) (M.1, M.2.1, M.2.2.1, bmp M.2.2.2.1 code, M.2.2.2.2) := ⟨hR.1, hR.2.1, hR.2.2.1, hR.2.2.2.up h1 h2⟩
theorem ref_eq (C : CM) {code : Int} (h1 : -5 ≤ code) (h2 : code ≤ -2) : (X9_refuse C code).bind (fun w => some (w.1, w.2)) = some (code, setE C (bmp C.2.2.2.2.2.2.2 code)) := by
  rw [X9_refuse_eq C h1 h2]
  rfl
theorem RS.setO {S : St} {A : Arr} (hS : RS S A) {f : Nat} (hf : f < 6) {p q : Int} (h0 : 0 ≤ p) (h3 : p ≤ 3) (hq : q = 0 ∨ q = 1) : RS ((upI S.1.1 f p, upI S.1.2.1 f q, S.1.2.2), S.2) (upI (upI A (7 * f) p) (7 * f + 1) q) := by
  have out : ∀ j : Nat, j ≠ 7 * f → j ≠ 7 * f + 1 → upI (upI A (7 * f) p) (7 * f + 1) q j = A j := fun j a b => (uI_ne b).trans (uI_ne a)
  have e0 : upI (upI A (7 * f) p) (7 * f + 1) q (7 * f) = p := (uI_ne (by omega)).trans (uI_same _)
  have e1 : upI (upI A (7 * f) p) (7 * f + 1) q (7 * f + 1) = q := uI_same _
  generalize upI (upI A (7 * f) p) (7 * f + 1) q = B at out e0 e1 ⊢
  obtain ⟨h1, h2, h3', h4, h5, h6, h7⟩ := hS
  refine ⟨fun g hg => ?_, h2.congr (fun j a b => out j (by omega) (by omega)) (by decide) agr.rfl, h3'.congrA (fun j a b => out j (by omega) (by omega)), ⟨by rw [out 147 (by omega) (by omega)]; exact h4.1, h4.2⟩, h5.congrA (fun j a b => out j (by omega) (by omega)), h6.congrA (fun j a b => out j (by omega) (by omega)), h7.congrA (fun j a b => out j (by omega) (by omega))⟩
  obtain ⟨g1, g2, g3, g4, g5, g6⟩ := h1 g hg
  by_cases hgf : g = f
  · subst hgf
    refine ⟨by rw [show 0 + 7 * g = 7 * g by omega, e0]; exact (uI_same _).symm, by show 0 ≤ upI S.1.1 g p g; rw [uI_same]; exact h0, by show upI S.1.1 g p g ≤ 3; rw [uI_same]; exact h3, by rw [show 0 + 7 * g + 1 = 7 * g + 1 by omega, e1]; exact (uI_same _).symm, by show upI S.1.2.1 g q g = 0 ∨ upI S.1.2.1 g q g = 1; rw [uI_same]; exact hq, fun k hk => ?_⟩
    rw [out (0 + 7 * g + 2 + k) (by omega) (by omega)]
    exact g6 k hk
  · refine ⟨by rw [out (0 + 7 * g) (by omega) (by omega)]; exact g1.trans (uI_ne hgf).symm, by show 0 ≤ upI S.1.1 f p g; rw [uI_ne hgf]; exact g2, by show upI S.1.1 f p g ≤ 3; rw [uI_ne hgf]; exact g3, by rw [out (0 + 7 * g + 1) (by omega) (by omega)]; exact g4.trans (uI_ne hgf).symm, by show upI S.1.2.1 f q g = 0 ∨ upI S.1.2.1 f q g = 1; rw [uI_ne hgf]; exact g5, fun k hk => ?_⟩
    rw [out (0 + 7 * g + 2 + k) (by omega) (by omega)]
    exact g6 k hk
theorem RS.setN {S : St} {A : Arr} (hS : RS S A) {f : Nat} (hf : f < 6) {p q : Int} (h0 : 0 ≤ p) (h3 : p ≤ 4) (hq : q = 0 ∨ q = 1) : RS (S.1, (upI S.2.1.1 f p, upI S.2.1.2.1 f q, S.2.1.2.2), S.2.2) (upI (upI A (42 + 7 * f) p) (42 + 7 * f + 1) q) := by
  have out : ∀ j : Nat, j ≠ 42 + 7 * f → j ≠ 42 + 7 * f + 1 → upI (upI A (42 + 7 * f) p) (42 + 7 * f + 1) q j = A j := fun j a b => (uI_ne b).trans (uI_ne a)
  have e0 : upI (upI A (42 + 7 * f) p) (42 + 7 * f + 1) q (42 + 7 * f) = p := (uI_ne (by omega)).trans (uI_same _)
  have e1 : upI (upI A (42 + 7 * f) p) (42 + 7 * f + 1) q (42 + 7 * f + 1) = q := uI_same _
  generalize upI (upI A (42 + 7 * f) p) (42 + 7 * f + 1) q = B at out e0 e1 ⊢
  obtain ⟨h1, h2, h3', h4, h5, h6, h7⟩ := hS
  refine ⟨h1.congr (fun j a b => out j (by omega) (by omega)) (by decide) agr.rfl, fun g hg => ?_, h3'.congrA (fun j a b => out j (by omega) (by omega)), ⟨by rw [out 147 (by omega) (by omega)]; exact h4.1, h4.2⟩, h5.congrA (fun j a b => out j (by omega) (by omega)), h6.congrA (fun j a b => out j (by omega) (by omega)), h7.congrA (fun j a b => out j (by omega) (by omega))⟩
  obtain ⟨g1, g2, g3, g4, g5, g6⟩ := h2 g hg
  by_cases hgf : g = f
  · subst hgf
    refine ⟨by rw [e0]; exact (uI_same _).symm, by show 0 ≤ upI S.2.1.1 g p g; rw [uI_same]; exact h0, by show upI S.2.1.1 g p g ≤ 4; rw [uI_same]; exact h3, by rw [e1]; exact (uI_same _).symm, by show upI S.2.1.2.1 g q g = 0 ∨ upI S.2.1.2.1 g q g = 1; rw [uI_same]; exact hq, fun k hk => ?_⟩
    rw [out (42 + 7 * g + 2 + k) (by omega) (by omega)]
    exact g6 k hk
  · refine ⟨by rw [out (42 + 7 * g) (by omega) (by omega)]; exact g1.trans (uI_ne hgf).symm, by show 0 ≤ upI S.2.1.1 f p g; rw [uI_ne hgf]; exact g2, by show upI S.2.1.1 f p g ≤ 4; rw [uI_ne hgf]; exact g3, by rw [out (42 + 7 * g + 1) (by omega) (by omega)]; exact g4.trans (uI_ne hgf).symm, by show upI S.2.1.2.1 f q g = 0 ∨ upI S.2.1.2.1 f q g = 1; rw [uI_ne hgf]; exact g5, fun k hk => ?_⟩
    rw [out (42 + 7 * g + 2 + k) (by omega) (by omega)]
    exact g6 k hk
theorem RF.term {T : FT} {A : Arr} {base : Nat} {mx : Int} (h : RF T A base 7 6 mx) {f k : Nat} (hf : f < 6) (hk : k < 5) {v : Int} (h0 : 0 ≤ v) (h9 : v ≤ 99) : RF (T.1, T.2.1, upI T.2.2 (5 * f + k) v) (upI A (base + 7 * f + 2 + k) v) base 7 6 mx := by
  intro g hg
  obtain ⟨g1, g2, g3, g4, g5, g6⟩ := h g hg
  refine ⟨by rw [uI_ne (by omega)]; exact g1, g2, g3, by rw [uI_ne (by omega)]; exact g4, g5, fun j hj => ?_⟩
  obtain ⟨q1, q2, q3⟩ := g6 j hj
  show _ = upI T.2.2 (5 * f + k) v (5 * g + j) ∧ 0 ≤ upI T.2.2 (5 * f + k) v (5 * g + j) ∧ upI T.2.2 (5 * f + k) v (5 * g + j) ≤ 99
  by_cases hq : 5 * g + j = 5 * f + k
  · have a1 : g = f := by omega
    have a2 : j = k := by omega
    subst a1; subst a2
    rw [uI_same, uI_same]
    exact ⟨rfl, h0, h9⟩
  · rw [uI_ne hq, uI_ne (by omega)]
    exact ⟨q1, q2, q3⟩
theorem RS.setOT {S : St} {A : Arr} (hS : RS S A) {f k : Nat} (hf : f < 6) (hk : k < 5) {v : Int} (h0 : 0 ≤ v) (h9 : v ≤ 99) : RS ((S.1.1, S.1.2.1, upI S.1.2.2 (5 * f + k) v), S.2) (upI A (0 + 7 * f + 2 + k) v) := by
  have out : ∀ j : Nat, j ≠ 0 + 7 * f + 2 + k → upI A (0 + 7 * f + 2 + k) v j = A j := fun j a => uI_ne a
  obtain ⟨h1, h2, h3', h4, h5, h6, h7⟩ := hS
  exact ⟨h1.term hf hk h0 h9, h2.congr (fun j a b => out j (by omega)) (by decide) agr.rfl, h3'.congrA (fun j a b => out j (by omega)), ⟨by rw [out 147 (by omega)]; exact h4.1, h4.2⟩, h5.congrA (fun j a b => out j (by omega)), h6.congrA (fun j a b => out j (by omega)), h7.congrA (fun j a b => out j (by omega))⟩
theorem RS.setNT {S : St} {A : Arr} (hS : RS S A) {f k : Nat} (hf : f < 6) (hk : k < 5) {v : Int} (h0 : 0 ≤ v) (h9 : v ≤ 99) : RS (S.1, (S.2.1.1, S.2.1.2.1, upI S.2.1.2.2 (5 * f + k) v), S.2.2) (upI A (42 + 7 * f + 2 + k) v) := by
  have out : ∀ j : Nat, j ≠ 42 + 7 * f + 2 + k → upI A (42 + 7 * f + 2 + k) v j = A j := fun j a => uI_ne a
  obtain ⟨h1, h2, h3', h4, h5, h6, h7⟩ := hS
  exact ⟨h1.congr (fun j a b => out j (by omega)) (by decide) agr.rfl, h2.term hf hk h0 h9, h3'.congrA (fun j a b => out j (by omega)), ⟨by rw [out 147 (by omega)]; exact h4.1, h4.2⟩, h5.congrA (fun j a b => out j (by omega)), h6.congrA (fun j a b => out j (by omega)), h7.congrA (fun j a b => out j (by omega))⟩
theorem RS.withMap {S : St} {A B : Arr} (hS : RS S A) {P : Mp} (hB : ∀ j : Nat, j < 117 ∨ 146 < j → B j = A j) (hP : RMp P B) : RS (S.1, S.2.1, S.2.2.1, S.2.2.2.1, S.2.2.2.2.1, S.2.2.2.2.2.1, P, S.2.2.2.2.2.2.2) B := by
  obtain ⟨h1, h2, h3', h4, h5, h6, h7⟩ := hS
  exact ⟨h1.congr (fun j a b => hB j (by omega)) (by decide) agr.rfl, h2.congr (fun j a b => hB j (by omega)) (by decide) agr.rfl, h3'.congrA (fun j a b => hB j (by omega)), ⟨by rw [hB 147 (by omega)]; exact h4.1, h4.2⟩, hP, h6.congrA (fun j a b => hB j (by omega)), h7.congrA (fun j a b => hB j (by omega))⟩
theorem RS.withAllow {S : St} {A : Arr} (hS : RS S A) {v : Int} (hv : v = 0 ∨ v = 1) : RS (S.1, S.2.1, S.2.2.1, S.2.2.2.1, S.2.2.2.2.1, v, S.2.2.2.2.2.2) (upI A 147 v) := by
  have out : ∀ j : Nat, j ≠ 147 → upI A 147 v j = A j := fun j a => uI_ne a
  obtain ⟨h1, h2, h3', h4, h5, h6, h7⟩ := hS
  exact ⟨h1.congr (fun j a b => out j (by omega)) (by decide) agr.rfl, h2.congr (fun j a b => out j (by omega)) (by decide) agr.rfl, h3'.congrA (fun j a b => out j (by omega)), ⟨uI_same _, hv⟩, h5.congrA (fun j a b => out j (by omega)), h6.congrA (fun j a b => out j (by omega)), h7.congrA (fun j a b => out j (by omega))⟩
theorem in10 {x lo hi : Int} (h : Rg x) (h3 : -2147483648 ≤ lo) (h4 : lo ≤ 2147483647) (h5 : -2147483648 ≤ hi) (h6 : hi ≤ 2147483647) : X10_in x lo hi = some (if lo ≤ x ∧ x ≤ hi then 1 else 0) := X10_in_eq h.1 h.2 h3 h4 h5 h6
theorem wi9 {x lo hi : Int} (h : Rg x) (h3 : -2147483648 ≤ lo) (h4 : lo ≤ 2147483647) (h5 : -2147483648 ≤ hi) (h6 : hi ≤ 2147483647) : X9_within x lo hi = some (if lo ≤ x ∧ x ≤ hi then 1 else 0) := X9_within_eq h.1 h.2 h3 h4 h5 h6
theorem lg9 {β : Type} {x : Int} {X : Option β} (h : Rg x) : lgK x X = X := e_lg h.1 h.2
theorem sim_setOld (i : Int) (C : CM) (M : MT) (p1 p2 p3 : Int) (_ : 0 ≤ i) (_ : i ≤ 2048) (hR : REL i C M) (g1 : Rg p1) (g2 : Rg p2) (g3 : Rg p3) : ∃ (r : Int) (C' : CM) (M' : MT), cm_setOld C p1 p2 p3 = some (r, C') ∧ rm_setOld M p1 p2 p3 = some (r, M') ∧ REL (i + 4) C' M' := by
  have kC : cm_setOld C p1 p2 p3 = if 0 ≤ p1 ∧ p1 ≤ 5 then (if 0 ≤ p2 ∧ p2 ≤ 3 then (if 0 ≤ p3 ∧ p3 ≤ 1 then (X9_changeShape_olds C p1 p2 p3).bind (fun w13 => some (w13.1, w13.2)) else some (-2, setE C (bmp C.2.2.2.2.2.2.2 (-2)))) else some (-2, setE C (bmp C.2.2.2.2.2.2.2 (-2)))) else some (-2, setE C (bmp C.2.2.2.2.2.2.2 (-2))) := by
    unfold cm_setOld X9_setOld
    simp only [X9_isOld_eq g1, wi9 g2 (by decide) (by decide) (by decide) (by decide) (lo := 0) (hi := 3), wi9 g3 (by decide) (by decide) (by decide) (by decide) (lo := 0) (hi := 1), Option.bind_some, e_b10, ref_eq C (code := -2) (by decide) (by decide)]
  have kM : X10_setOld M.1 M.2.1 M.2.2.1 M.2.2.2.1 p1 p2 p3 = if 0 ≤ p1 ∧ p1 ≤ 5 then (if 0 ≤ p2 ∧ p2 ≤ 3 then (if 0 ≤ p3 ∧ p3 ≤ 1 then (X10_sets M.1 M.2.1 M.2.2.1 (0 + (7 * p1)) p2 p3).bind (fun w7 => some (w7.1, w7.2.1, w7.2.2.1, w7.2.2.2, M.2.2.2.1)) else some (-2, M.1, M.2.1, M.2.2.1, bmp M.2.2.2.1 (-2))) else some (-2, M.1, M.2.1, M.2.2.1, bmp M.2.2.2.1 (-2))) else some (-2, M.1, M.2.1, M.2.2.1, bmp M.2.2.2.1 (-2)) := by
    unfold X10_setOld
    simp only [X10_isFunction_eq g1, e_lt, lg9 g2, lg9 g3, in10 g2 (by decide) (by decide) (by decide) (by decide) (lo := 0) (hi := 3), in10 g3 (by decide) (by decide) (by decide) (by decide) (lo := 0) (hi := 1), Option.bind_some, e_b10, e_b0, e_b1, X10_error_eq M.2.2.2.1 (code := -2) (by decide) (by decide)]
  by_cases hc : (0 ≤ p1 ∧ p1 ≤ 5) ∧ (0 ≤ p2 ∧ p2 ≤ 3) ∧ (0 ≤ p3 ∧ p3 ≤ 1)
  · obtain ⟨c1, c2, c3⟩ := hc
    obtain ⟨hS, hH, hI, hE⟩ := hR
    obtain ⟨h', sv, s1, s2, s3⟩ := save_sim hS hH
    obtain ⟨f, rfl⟩ : ∃ f : Nat, p1 = (f : Int) := ⟨p1.toNat, by omega⟩
    have hf : f < 6 := by omega
    have ef : ((f : Int)).toNat = f := by omega
    refine ⟨C.1.1.1 f, (((upI C.1.1.1 f p2, upI C.1.1.2.1 f p3, C.1.1.2.2), C.1.2), h', C.2.2), (upI (upI M.1 (7 * f) p2) (7 * f + 1) p3, sv, h'.2.1, M.2.2.2), ?_, ?_, hS.setO hf c2.1 c2.2 (by omega), s3, hI, hE.mono⟩
    · rw [kC, if_pos c1, if_pos c2, if_pos c3]
      unfold X9_changeShape_olds
      rw [s1, Option.bind_some, X1_arityOf_eq (by decide) _ g1, if_pos (by omega), Option.bind_some, X1_putShape_eq (by decide) _ c1.1 (by omega), Option.bind_some, ef]
      rfl
    · unfold rm_setOld
      rw [kM, if_pos c1, if_pos c2, if_pos c3]
      unfold X10_sets
      rw [s2, Option.bind_some, e_rd (by omega) (by omega), e_wr (by omega) (by omega), e_wr (by omega) (by omega), show (0 + 7 * (f : Int) + 0).toNat = 7 * f by omega, show (0 + 7 * (f : Int) + 1).toNat = 7 * f + 1 by omega]
      have := (hS.1 f hf).1
      rw [Nat.zero_add] at this
      rw [this]
      rfl
  · refine ⟨-2, _, _, ?_, ?_, rel_ref hR (code := -2) (by decide) (by decide)⟩
    · rw [kC]
      by_cases c1 : 0 ≤ p1 ∧ p1 ≤ 5
      · by_cases c2 : 0 ≤ p2 ∧ p2 ≤ 3
        · by_cases c3 : 0 ≤ p3 ∧ p3 ≤ 1
          · exact absurd ⟨c1, c2, c3⟩ hc
          · rw [if_pos c1, if_pos c2, if_neg c3]
        · rw [if_pos c1, if_neg c2]
      · rw [if_neg c1]
    · unfold rm_setOld
      rw [kM]
      by_cases c1 : 0 ≤ p1 ∧ p1 ≤ 5
      · by_cases c2 : 0 ≤ p2 ∧ p2 ≤ 3
        · by_cases c3 : 0 ≤ p3 ∧ p3 ≤ 1
          · exact absurd ⟨c1, c2, c3⟩ hc
          · rw [if_pos c1, if_pos c2, if_neg c3]; rfl
        · rw [if_pos c1, if_neg c2]; rfl
      · rw [if_neg c1]; rfl
