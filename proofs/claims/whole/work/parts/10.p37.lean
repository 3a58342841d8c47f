/-! migrate: the induction -/
section EN
variable {kx : Int → Arr → Arr → Int → Arr → Int → Arr → Arr → Arr → Int → Int → Option MRes} {saved : Arr} {sm : Int} {N : Nat} {og : Arr}
theorem exp_m (hN30 : N ≤ 30) (hc1 : ∀ i : Nat, i < N → 1 ≤ cnt (oac og) i) (hc2 : cnt (oac og) N = 0) : ∀ n : Nat, ExpM kx saved sm N og n := by
  intro n
  induction n with
  | zero =>
    intro B S V A built parts taken calls lacks x b q c k done hQ h30 hac hsz hsuf hO hR hkN hck hn
    omega
  | succ n ih =>
    intro B S V A built parts taken calls lacks x b q c k done hQ h30 hac hsz hsuf hO hR hkN hck hn hxbc hqb hpq hdone
    have hm4 := hQ.2.2.1.2.1
    have hn0 := hsuf 0 (by omega)
    rw [Nat.add_zero, Nat.add_zero] at hn0
    have hf := hn0.facts hm4
    obtain ⟨a, haa⟩ : ∃ a : Nat, S.2.2.2.2.2.2.2.1.2.2.2 x = (a : Int) := ⟨(S.2.2.2.2.2.2.2.1.2.2.2 x).toNat, by omega⟩
    have ha4 : a ≤ 4 := by omega
    rw [haa] at hn0
    have hog : og k % 10 = (a : Int) := by rw [hf.2.2.1, haa]
    have ex : ((x : Int)).toNat = x := by omega
    have hk1 := hc1 k hkN
    have hck1 : cnt (oac og) (k + 1) = cnt (oac og) k - 1 + (a : Int) := by
      rw [cnt_succ]
      show _ + og k % 10 = _
      rw [hog]
    have hcls : X5_treatFrom (n + 1) S V (x : Int) (c : Int) = (X5_treatArguments_L19 (fun w4 w5 => some (w4, w5)) (X5_treatFrom n) (c : Int) (a : Int) FU ((x : Int) + 1) 0 S V).bind (fun w1 => siteC w1.1 w1.2 (x : Int)) := by
      rw [X5_treatFrom, e_LT (by omega) (by omega) (by omega) (by omega), if_pos (by omega), e_LT (by omega) (by omega) (by decide) (by decide), if_pos (by omega)]
      unfold X5_treatArguments
      rw [e_rd (by omega) (by omega), ex, haa]
      rfl
    rw [hcls]
    obtain ⟨s0, hs0⟩ : ∃ s0 : Nat → Nat, ∀ j, s0 j = x + 1 := ⟨fun _ => x + 1, fun _ => rfl⟩
    have hs00 := hs0 0
    by_cases ha0 : a = 0
    · subst ha0
      have hL : X5_treatArguments_L19 (fun w4 w5 => some (w4, w5)) (X5_treatFrom n) (c : Int) ((0 : Nat) : Int) FU ((x : Int) + 1) 0 S V = some (S, V) := by
        rw [FU_eq, X5_treatArguments_L19, e_LT (by decide) (by decide) (by decide) (by decide), if_neg (by decide)]
      rw [hL, Option.bind_some]
      have hSH : SH N (N - (k + 1)) (k + 1) og B S A built parts x b q 0 s0 := by
        refine ⟨⟨hQ, h30, hac, hs00, fun i hi => absurd hi (by omega), by omega, fun i hi => ?_, by omega, by omega, fun j hj => absurd hj (by omega)⟩, by omega, hqb, by omega, haa, by omega, fun j hj => ?_, hO, hR, hN30⟩
        · have : i = 0 := by omega
          subst this
          rw [Nat.add_zero, hpq]
          omega
        · have := hsuf (1 + j) (by omega)
          have e1 : x + (1 + j) = s0 0 + j := by omega
          have e2 : k + (1 + j) = k + 1 + j := by omega
          rw [e1, e2] at this
          exact this
      obtain ⟨S', V', x', A', built', taken', dn, s1, s2, s3⟩ := site_all hSH hn0 V taken
      have e1 : b + (s0 0 - (x + 1)) = b := by omega
      have e2 : q + 0 = q := rfl
      rw [e1, e2] at s2
      refine ⟨S', V', x', k + 1, A', built', upI parts (q + 1) ((b + (x' - x) : Nat) : Int), taken', calls, lacks, done + dn, 0, s1, ?_, by omega, by omega, by rw [hck1]; omega, ?_, uI_same _, fun j hj => uI_ne (by omega), fun _ _ => ⟨rfl, rfl⟩⟩
      · rw [lm_leaf kx saved sm hO hkN hN30 hf.1 hf.2.1 hog (by omega) s2]
      · have eB : B + ((k + 1 : Nat) : Int) - (k : Int) = B + 1 := by omega
        have eD : done + dn + 0 - done = dn := by omega
        rw [eB, eD]
        exact s3
    · have hI : AI N og B k x b q c a S built parts calls lacks 0 s0 S A built parts (upI calls c (og k)) (upI lacks c (a : Int)) (k + 1) ((a : Int) - ((0 : Nat) : Int)) done := by
        refine ⟨hQ, Int.le_refl _, h30, hac, by omega, fun j hj => ?_, hO, hR.mono (by omega), hdone, ⟨by omega, by omega⟩, by rw [hck1]; omega, hs00, fun j hj => absurd hj (by omega), fun j hj => ?_, fun _ _ => rfl, fun _ _ => rfl, fun j hj => absurd hj (by omega), fun _ _ => ⟨rfl, rfl, rfl⟩, fun j hj => ⟨uI_ne (by omega), uI_ne (by omega)⟩, uI_same _, by rw [uI_same]; omega⟩
        · have := hsuf (1 + j) (by omega)
          have e1 : x + (1 + j) = s0 0 + j := by omega
          have e2 : k + (1 + j) = k + 1 + j := by omega
          rw [e1, e2] at this
          exact this
        · have : j = 0 := by omega
          subst this
          rw [Nat.add_zero, hpq]
          omega
      obtain ⟨st, S1, V1, A1, built1, parts1, taken1, calls1, lacks1, k1, done1, acc1, m1, m2, m3⟩ := margs (kx := kx) (saved := saved) (sm := sm) ih hN30 hc2 hk1 hck (by omega) (by omega) hxbc hqb ha4 (a - 1) 0 s0 S V A built parts taken (upI calls c (og k)) (upI lacks c (a : Int)) (k + 1) done FU (by omega) (by rw [FU_eq]; omega) hI
      have e1 : b + (s0 0 - (x + 1)) = b := by omega
      have e2 : q + 0 = q := rfl
      have e3 : ((s0 0 : Nat) : Int) = (x : Int) + 1 := by omega
      have e4 : ((0 : Nat) : Int) = 0 := rfl
      rw [e1, e2] at m2
      rw [e3, e4] at m1
      rw [m1, Option.bind_some, lm_call kx saved sm hO hkN hN30 hf.1 hf.2.1 hog (by omega) (by omega), m2]
      have hmono := m3.mono a (Nat.le_refl _)
      obtain ⟨gQ, gm, g30, gac, gsz, gsuf, gO, gR, gdn, gki, gcnt, g0, gW, gpt, gpt0, gb0, gN, gpre, gcl, gcc, glc⟩ := m3
      obtain ⟨pk, pn, pa⟩ := gpre x (by omega)
      have hSH : SH N (N - k1) k1 og (B + (k1 : Int) - ((k : Int) + 1)) S1 A1 built1 parts1 x b q a st := by
        refine ⟨⟨gQ, g30, gac, g0, gW, by omega, gpt, by omega, by omega, gN⟩, by omega, hqb, by omega, by rw [pa, haa], gsz, gsuf, gO, gR, hN30⟩
      have hn1 : nodeOK S1.2.2.2.1 (S1.2.2.2.2.2.2.2.1.2.1 x) (S1.2.2.2.2.2.2.2.1.2.2.1 x) (a : Int) (og k) := by
        rw [pk, pn]
        exact hn0.mono gm
      obtain ⟨S', V', x', A', built', taken', dn, s1, s2, s3⟩ := site_all hSH hn1 V1 taken1
      rw [← gcc] at s2
      refine ⟨S', V', x', k1, A', built', upI parts1 (q + 1) ((b + (x' - x) : Nat) : Int), taken', calls1, upI lacks1 c 0, done1, acc1 + dn, s1, ?_, by omega, by omega, by rw [gcnt]; omega, ?_, uI_same _, fun j hj => ?_, fun j hj => ?_⟩
      · rw [km_last kx saved sm (by omega) glc s2]
      · obtain ⟨f1, f2, f3, f4, f5, f6, f7, f8, f9, f10, f11, f12⟩ := s3
        refine ⟨f1, f2, by omega, f4, f5, f6, f7, ⟨f8.1.mono (by omega), ?_⟩, fun j hj => ?_, f10, fun j hj => (f11 j hj).trans (gb0 j hj), f12⟩
        · rw [f8.2, gdn, hdone]; omega
        · obtain ⟨d1, d2, d3⟩ := f9 j hj
          obtain ⟨g1, g2, g3⟩ := gpre j (by omega)
          exact ⟨d1.trans g1, d2.trans g2, d3.trans g3⟩
      · rw [uI_ne (by omega)]
        exact gpt0 j hj
      · obtain ⟨d1, d2⟩ := gcl j hj
        exact ⟨d1, by rw [uI_ne (by omega)]; exact d2⟩
end EN
