/-! migrate: every site -/
section SA
variable {S : St} {A built parts og : Arr} {x b q a N len k1 : Nat} {st : Nat → Nat} {B : Int}
theorem site_all (h : SH N len k1 og B S A built parts x b q a st) {code : Int} (hcode : nodeOK S.2.2.2.1 (S.2.2.2.2.2.2.2.1.2.1 x) (S.2.2.2.2.2.2.2.1.2.2.1 x) (a : Int) code) (V : Mv) (taken : Arr) : SOut N len k1 og (B + 1) S built parts x b q (siteC S V (x : Int)) (X10_treats A built ((b + (st a - (x + 1)) : Nat) : Int) parts ((q + a : Nat) : Int) taken S.2.2.2.2.2.2.2.1.1 code) := by
  have hS := h.1
  have hx := h.2.1
  have hqb := h.2.2.1
  have hbx := h.2.2.2.1
  have hac := h.2.2.2.2.1
  have hlen := h.2.2.2.2.2.1
  have hsuf := h.2.2.2.2.2.2.1
  have hO := h.2.2.2.2.2.2.2.1
  have hR := h.2.2.2.2.2.2.2.2.1
  have h30 := hS.2.1
  have hQ := hS.1
  have hm4 := hQ.2.2.1.2.1
  have hfc := hcode.facts hm4
  have ex : ((x : Int)).toNat = x := by omega
  by_cases hkd : S.2.2.2.2.2.2.2.1.2.1 x = 2
  · obtain ⟨f, hnf, hf, ha, hcc⟩ : ∃ f : Nat, S.2.2.2.2.2.2.2.1.2.2.1 x = (f : Int) ∧ f < 6 ∧ a ≤ 3 ∧ code = 30000 + 10 * (f : Int) + (a : Int) := by
      rcases hcode with ⟨a1, a2, a3, a4, a5⟩ | ⟨a1, a2, a3, a4⟩ | ⟨a1, a2, a3, a4, a5, a6⟩ | ⟨a1, a2, a3, a4, a5, a6⟩ | ⟨a1, a2, a3, a4, a5, a6⟩
      · omega
      · omega
      · exact ⟨(S.2.2.2.2.2.2.2.1.2.2.1 x).toNat, by omega, by omega, by omega, by omega⟩
      · omega
      · omega
    have hA7 : A (7 * f) = S.1.1 f := by
      have := (hQ.1 f hf).1
      rw [Nat.zero_add] at this
      exact this
    have hob := q_oar_bd hQ hf
    have htb := q_tgt_bd hQ hf
    have hcls : X5_replaceOrReason S V (x : Int) = if (a : Int) = S.1.1 f then (X8_keepsMeaning S (f : Int)).bind (fun v5 => brEQ v5 0 ((X5_adaptOrReason S V (x : Int) (f : Int)).bind (fun w7 => some (w7.1, w7.2, V))) ((X5_findArguments S V (x : Int)).bind (fun v9 => (X8_usedEntries S (f : Int)).bind (fun v11 => (X5_effectReason S.2.2.2.2.2.2.1 v9 (f : Int) v11 (a : Int)).bind (fun v14 => brEQ v14 0 ((X5_sizeAfterReplacing S v9 (x : Int) (f : Int) v11).bind (fun v16 => brLE v16 30 ((X5_replaceSite S v9 (x : Int) (f : Int) v11).bind (fun w18 => some (0, w18.1, w18.2))) (some (7, S, v9)))) (some (v14, S, v9))))))) else some (1, S, V) := by
      have hrd : ∀ K : Int → Option (Int × St × Mv), rdK 30 S.2.2.2.2.2.2.2.1.2.2.2 (x : Int) K = K (a : Int) := fun K => by rw [e_rd (by omega) (by omega), ex, hac]
      unfold X5_replaceOrReason
      rw [e_rd (by omega) (by omega), ex, hnf]
      simp only [hrd]
      rw [q_oar_eq hQ hf, Option.bind_some, e_EQ (by omega) (by omega) (by omega) (by omega)]
    rw [hcc, tr_old hf hA7 hob.1 hob.2 (by omega) htb.1 htb.2.1 htb.2.2]
    rw [hcc] at hcode
    by_cases hca : (a : Int) = S.1.1 f
    · rw [if_pos hca] at hcls ⊢
      have adapt : ∀ q16 : Int, (q16 = 0 ∧ S.2.2.2.2.2.2.1.1 f = -1 ∨ q16 = 1 ∧ S.2.2.2.2.2.2.1.1 f ≠ -1) → X5_replaceOrReason S V (x : Int) = (X5_adaptOrReason S V (x : Int) (f : Int)).bind (fun w7 => some (w7.1, w7.2, V)) → SOut N len k1 og (B + 1) S built parts x b q (siteC S V (x : Int)) (JA A built ((b + (st a - (x + 1)) : Nat) : Int) parts ((q + a : Nat) : Int) taken S.2.2.2.2.2.2.2.1.1 (30000 + 10 * (f : Int) + (a : Int)) (f : Int) (a : Int) q16) := by
        intro q16 hq16 hrr
        have hQ0 : RQ (setP S (S.2.2.2.2.2.2.2.1.1, upI S.2.2.2.2.2.2.2.1.2.1 x 4, S.2.2.2.2.2.2.2.1.2.2.1, S.2.2.2.2.2.2.2.1.2.2.2)) A := hQ
        rcases adapt_both hQ0 hf with ⟨c1, c2⟩ | ⟨c1, n, S1, A1, c2, c3, c4, c5, c6, c7, c8⟩
        · have c1' : X8_canUseAdapter S (f : Int) = some 0 := c1
          have hao : X5_adaptOrReason S V (x : Int) (f : Int) = if S.2.2.2.2.2.2.1.1 f = -1 then some (2, S) else some (3, S) := by
            unfold X5_adaptOrReason
            rw [c1', Option.bind_some, e_b0, X4_targetOf_eq _ (by omega) (by omega), Option.bind_some, show ((f : Int)).toNat = f by omega, e_EQ (by omega) (by omega) (by decide) (by decide)]
          rw [hao] at hrr
          unfold JA
          rw [c2, Option.bind_some]
          dsimp only
          rw [e_EQ (by decide) (by decide) (by decide) (by decide), if_pos rfl, e_lt]
          rcases hq16 with ⟨d1, d2⟩ | ⟨d1, d2⟩
          · rw [d1, e_b0]
            rw [if_pos d2] at hrr
            exact site_left h hkd hcode (w := 2) (by decide) (by decide) hrr taken
          · rw [d1, e_b1]
            rw [if_neg d2] at hrr
            exact site_left h hkd hcode (w := 3) (by decide) (by decide) hrr taken
        · exact site_adapt h hkd hf ha c2 c3 c4 c5 c6 c7 c8 hrr c1 taken _ q16
      by_cases htg : S.2.2.2.2.2.2.1.1 f = -1
      · rw [if_pos htg]
        refine adapt 0 (Or.inl ⟨rfl, htg⟩) ?_
        have hkm : X8_keepsMeaning S (f : Int) = some 0 := by
          unfold X8_keepsMeaning X8_usedEntries
          rw [X4_targetOf_eq _ (by omega) (by omega), show ((f : Int)).toNat = f by omega, htg, Option.bind_some, X1_arityOf_eq (by decide) _ ⟨by decide, by decide⟩, Option.bind_some, Option.bind_some, Option.bind_some, e_EQ (by decide) (by decide) (by decide) (by decide), if_pos rfl]
        rw [hcls, hkm, Option.bind_some, e_b0]
      · rw [if_neg htg]
        obtain ⟨t, ht, hft⟩ : ∃ t : Nat, t < 6 ∧ S.2.2.2.2.2.2.1.1 f = (t : Int) := ⟨(S.2.2.2.2.2.2.1.1 f).toNat, by omega, by omega⟩
        by_cases hfa : faith S f t
        · have hkm := (q_X8_keepsMeaning_spec hQ hf ht hft).1 hfa
          have hit := (q_X10_isTrue_spec hQ hf ht hft).1 hfa
          obtain ⟨-, u0, u4, -⟩ := hQ.2.1 t ht
          obtain ⟨u, hut⟩ : ∃ u : Nat, S.2.1.1 t = (u : Int) := ⟨(S.2.1.1 t).toNat, by omega⟩
          have hu : u ≤ 4 := by omega
          have hus : X10_used A (f : Int) = some (u : Int) := by rw [q_X10_used_eq hQ hf ht hft, hut]
          have huc : X8_usedEntries S (f : Int) = some (u : Int) := by
            unfold X8_usedEntries
            rw [X4_targetOf_eq _ (by omega) (by omega), show ((f : Int)).toNat = f by omega, hft, Option.bind_some, X1_arityOf_eq (by decide) _ ⟨by omega, by omega⟩, if_pos (by omega), Option.bind_some, show ((t : Int)).toNat = t by omega, hut]
          have hw : ∀ p : Nat, p < u → S.2.2.2.2.2.2.1.2.1 (4 * f + p) < (a : Int) := by
            intro p hp
            rw [hca]
            exact hfa.1 p (Nat.zero_le _) (by omega)
          obtain ⟨V2, v1, v2, v3⟩ := fa_eq hS ha hx hac V
          have hcd : X10_arguments (30000 + 10 * (f : Int) + (a : Int)) = some (a : Int) := by
            rw [X10_arguments_eq (by omega) (by omega)]
            exact congrArg some (by omega)
          have hwh : X10_which (30000 + 10 * (f : Int) + (a : Int)) = some (f : Int) := by
            rw [X10_which_eq (by omega) (by omega)]
            exact congrArg some (by omega)
          have hP0 : 0 ≤ S.2.2.2.2.2.2.2.1.1 := by omega
          obtain ⟨r, r0, r6, r1, r2⟩ := why_both hS hf hu hus hcd hwh ha hw v3 hP0 h30
          have zb := szs_bd hS hf hu hw u (Nat.le_refl _)
          have m1 := hS.mono a (Nat.le_refl _)
          have htop := hS.top
          rw [hit, Option.bind_some, e_b1, r2]
          rw [hkm, Option.bind_some, e_b1, v1, Option.bind_some, huc, Option.bind_some, r1, Option.bind_some] at hcls
          by_cases hr0 : r = 0
          · rw [hr0, e_b0, sa_eq hS hf hu ha hw hac v2, Option.bind_some, e_LE (by omega) (by omega) (by decide) (by decide)] at hcls
            rw [if_pos hr0]
            by_cases hsz : S.2.2.2.2.2.2.2.1.1 - (((st a : Nat) : Int) - ((x : Int) + 1)) + szs S f st u ≤ 30
            · rw [if_pos (by omega)] at hcls
              rw [if_pos hsz, Option.bind_some, e_b0]
              exact site_new h hkd hf ht hft hut hu ha hw hsz v2 hcd hwh hcls taken _
            · rw [if_neg (by omega)] at hcls
              rw [if_neg hsz, Option.bind_some, e_EQ (by decide) (by decide) (by decide) (by decide), if_neg (by decide)]
              exact site_left h hkd hcode (w := 7) (by decide) (by decide) hcls taken
          · obtain ⟨w, hrw⟩ : ∃ w : Nat, r = (w : Int) := ⟨r.toNat, by omega⟩
            rw [e_EQ (by omega) (by omega) (by decide) (by decide), if_neg hr0, hrw] at hcls
            rw [if_neg hr0, Option.bind_some, e_EQ (by omega) (by omega) (by decide) (by decide), if_neg hr0, hrw]
            exact site_left h hkd hcode (w := w) (by omega) (by omega) hcls taken
        · have hkm := (q_X8_keepsMeaning_spec hQ hf ht hft).2 hfa
          have hit := (q_X10_isTrue_spec hQ hf ht hft).2 hfa
          rw [hit, Option.bind_some, e_b0]
          refine adapt 1 (Or.inr ⟨rfl, htg⟩) ?_
          rw [hcls, hkm, Option.bind_some, e_b0]
    · rw [if_neg hca] at hcls ⊢
      exact site_left h hkd hcode (w := 1) (by decide) (by decide) hcls taken
  · obtain ⟨built', g1, g2, g3⟩ := site_puts (S' := S) (A' := A) (og := og) (N := N) (len := len) (k1 := k1) (B := B + 1) (dn := 0) hS hx hqb hbx hac hlen hsuf hQ (Int.le_refl _) rfl rfl (fun j _ => ⟨rfl, rfl⟩) hcode hO ⟨hR.mono (by omega), by omega⟩
    refine ⟨S, V, st a, A, built', taken, 0, ?_, ?_, g3⟩
    · unfold siteC
      rw [e_rd (by omega) (by omega), ex, e_EQ (by omega) (by omega) (by decide) (by decide), if_neg hkd, g1]
      rfl
    · rw [tr_non hfc.1 hfc.2.1 (fun hh => hkd (hfc.2.2.2.1.mp hh)), g2]
      rfl
end SA
