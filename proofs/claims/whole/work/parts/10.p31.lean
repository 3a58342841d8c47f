/-! migrate: what a treated expression leaves -/
def RO (O A : Arr) (B : Int) : Prop := (∀ r : Nat, 1 ≤ r → r ≤ 7 → A (178 + r) = O r) ∧ ∀ r : Nat, r ≤ 7 → 0 ≤ O r ∧ O r ≤ B
def OGP (N : Nat) (og A : Arr) : Prop := A 148 = (N : Int) ∧ ∀ j : Nat, j < N → A (149 + j) = og j
theorem RO.mono {O A : Arr} {B B' : Int} (h : RO O A B) (hB : B ≤ B') : RO O A B' := ⟨h.1, fun r hr => ⟨(h.2 r hr).1, by have := (h.2 r hr).2; omega⟩⟩
theorem RO.bump {O A : Arr} {B : Int} (h : RO O A B) {w : Nat} (w0 : 1 ≤ w) (w1 : w ≤ 7) : RO (upI O w (O w + 1)) (upI A (178 + w) (A (178 + w) + 1)) (B + 1) := by
  refine ⟨fun r r0 r1 => ?_, fun r r1 => ?_⟩
  · by_cases e : r = w
    · subst e
      rw [uI_same, uI_same, h.1 r r0 r1]
    · rw [uI_ne e, uI_ne (by omega)]
      exact h.1 r r0 r1
  · have := h.2 r r1
    by_cases e : r = w
    · subst e
      rw [uI_same]
      omega
    · rw [uI_ne e]
      omega
theorem RO.zero {O A : Arr} {B : Int} (h : RO O A B) : RO (upI O 0 (O 0 + 1)) A (B + 1) := by
  refine ⟨fun r r0 r1 => ?_, fun r r1 => ?_⟩
  · rw [uI_ne (by omega)]
    exact h.1 r r0 r1
  · have := h.2 r r1
    by_cases e : r = 0
    · subst e
      rw [uI_same]
      omega
    · rw [uI_ne e]
      omega
def setO (S : St) (O : Arr) : St := (S.1, S.2.1, S.2.2.1, S.2.2.2.1, S.2.2.2.2.1, S.2.2.2.2.2.1, S.2.2.2.2.2.2.1, S.2.2.2.2.2.2.2.1, O)
def SF (N len k1 : Nat) (og : Arr) (B : Int) (S S' : St) (A' built built' : Arr) (x b x' : Nat) (dn : Int) : Prop :=
  x < x' ∧ RQ S' A' ∧ S.2.2.2.1 ≤ S'.2.2.2.1 ∧ S'.2.2.2.2.2.2.2.1.1 ≤ 30 ∧ S'.2.2.2.2.2.2.2.1.1 = ((x' + len : Nat) : Int) ∧ (∀ j : Nat, j < len → nodeOK S'.2.2.2.1 (S'.2.2.2.2.2.2.2.1.2.1 (x' + j)) (S'.2.2.2.2.2.2.2.1.2.2.1 (x' + j)) (S'.2.2.2.2.2.2.2.1.2.2.2 (x' + j)) (og (k1 + j))) ∧ OGP N og A' ∧ (RO S'.2.2.2.2.2.2.2.2 A' B ∧ S'.2.2.2.2.2.2.2.2 0 = S.2.2.2.2.2.2.2.2 0 + dn) ∧ (∀ j : Nat, j < x → S'.2.2.2.2.2.2.2.1.2.1 j = S.2.2.2.2.2.2.2.1.2.1 j ∧ S'.2.2.2.2.2.2.2.1.2.2.1 j = S.2.2.2.2.2.2.2.1.2.2.1 j ∧ S'.2.2.2.2.2.2.2.1.2.2.2 j = S.2.2.2.2.2.2.2.1.2.2.2 j) ∧ (∀ j : Nat, j < x' - x → nodeOK S'.2.2.2.1 (S'.2.2.2.2.2.2.2.1.2.1 (x + j)) (S'.2.2.2.2.2.2.2.1.2.2.1 (x + j)) (S'.2.2.2.2.2.2.2.1.2.2.2 (x + j)) (built' (b + j))) ∧ (∀ j : Nat, j < b → built' j = built j) ∧ WE S'.2.2.2.2.2.2.2.1.2.2.2 x x'
section PU
variable {S S' : St} {A A' built parts og : Arr} {x b q a N len k1 : Nat} {st : Nat → Nat} {B dn : Int}
theorem site_puts (h : SiteP S A built parts x b q a st) (hx : (x : Int) < S.2.2.2.2.2.2.2.1.1) (hqb : q ≤ b) (hbx : b ≤ x) (hac : S.2.2.2.2.2.2.2.1.2.2.2 x = (a : Int)) (hlen : S.2.2.2.2.2.2.2.1.1 = ((st a + len : Nat) : Int)) (hsuf : ∀ j : Nat, j < len → nodeOK S.2.2.2.1 (S.2.2.2.2.2.2.2.1.2.1 (st a + j)) (S.2.2.2.2.2.2.2.1.2.2.1 (st a + j)) (S.2.2.2.2.2.2.2.1.2.2.2 (st a + j)) (og (k1 + j))) (hQ' : RQ S' A') (hm : S.2.2.2.1 ≤ S'.2.2.2.1) (hP1 : S'.2.2.2.2.2.2.2.1.1 = S.2.2.2.2.2.2.2.1.1) (hPa : S'.2.2.2.2.2.2.2.1.2.2.2 = S.2.2.2.2.2.2.2.1.2.2.2) (hPj : ∀ j : Nat, j ≠ x → S'.2.2.2.2.2.2.2.1.2.1 j = S.2.2.2.2.2.2.2.1.2.1 j ∧ S'.2.2.2.2.2.2.2.1.2.2.1 j = S.2.2.2.2.2.2.2.1.2.2.1 j) {code : Int} (hcode : nodeOK S'.2.2.2.1 (S'.2.2.2.2.2.2.2.1.2.1 x) (S'.2.2.2.2.2.2.2.1.2.2.1 x) (a : Int) code) (hO : OGP N og A') (hR : RO S'.2.2.2.2.2.2.2.2 A' B ∧ S'.2.2.2.2.2.2.2.2 0 = S.2.2.2.2.2.2.2.2 0 + dn) : ∃ built' : Arr, X6_endOf S'.2.2.2.2.2.2.2.1 (x : Int) = some ((st a : Nat) : Int) ∧ X10_putsCall built ((b + (st a - (x + 1)) : Nat) : Int) parts ((q + a : Nat) : Int) code = some (built', ((b + (st a - x) : Nat) : Int), upI parts (q + 1) ((b + (st a - x) : Nat) : Int), ((q + 1 : Nat) : Int)) ∧ SF N len k1 og B S S' A' built built' x b (st a) dn := by
  have m1 := h.mono a (Nat.le_refl _)
  have htop := h.top
  obtain ⟨hQ, h30, hacb, h0, hW, hsz, hpt, hqa, hb, hN⟩ := h
  have p0 := hpt 0 (by omega)
  simp only [Nat.add_zero] at p0
  have p0' : parts q = (b : Int) := by rw [p0, h0]; omega
  have hf := hcode.facts (by have := hQ'.2.2.1.2.1; omega)
  have hWE : WE S.2.2.2.2.2.2.2.1.2.2.2 x (st a) := WE.call hac h0 hW
  obtain ⟨built', g1, g2, g3, g4⟩ := puts_eq (built := built) (parts := parts) (b := b) (d := st a - (x + 1)) (q := q) (a := a) hf.1 hf.2.1 hf.2.2.1 p0' hb hqa (by omega)
  have e1 : b + (st a - (x + 1)) + 1 = b + (st a - x) := by omega
  rw [e1] at g1
  refine ⟨built', ?_, g1, by omega, hQ', hm, by omega, by rw [hP1, hlen], fun j hj => ?_, hO, hR, fun j hj => ?_, fun j hj => ?_, g2, by rw [hPa]; exact hWE⟩
  · refine endOf_eq (by rw [hPa]; exact hWE) (by rw [hP1]; exact hsz) (by rw [hP1]; exact h30) (fun i hi => ?_)
    rw [hPa]
    exact hacb i (by rw [← hP1]; exact hi)
  · obtain ⟨d1, d2⟩ := hPj (st a + j) (by omega)
    rw [d1, d2, hPa]
    exact (hsuf j hj).mono hm
  · obtain ⟨d1, d2⟩ := hPj j (by omega)
    exact ⟨d1, d2, by rw [hPa]⟩
  · by_cases hj0 : j = 0
    · subst hj0
      rw [Nat.add_zero, Nat.add_zero, g3, hPa, hac]
      exact hcode
    · obtain ⟨i, rfl⟩ : ∃ i, j = i + 1 := ⟨j - 1, by omega⟩
      obtain ⟨d1, d2⟩ := hPj (x + (i + 1)) (by omega)
      have f1 : x + (i + 1) = x + 1 + i := by omega
      have f2 : b + (i + 1) = b + 1 + i := by omega
      rw [d1, d2, hPa, f1, f2, g4 i (by omega)]
      exact (hN i (by omega)).mono hm
end PU
