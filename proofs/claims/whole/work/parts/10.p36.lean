/-! migrate: expressions at every depth -/
def oac (og : Arr) : Arr := fun j => og j % 10
def ACB (P : Pg) : Prop := ∀ i : Nat, (i : Int) < P.1 → 0 ≤ P.2.2.2 i ∧ P.2.2.2 i ≤ 4
section EM
variable (kx : Int → Arr → Arr → Int → Arr → Int → Arr → Arr → Arr → Int → Int → Option MRes) (saved : Arr) (sm : Int) (N : Nat) (og : Arr)
def EOut (B : Int) (S : St) (built parts calls lacks : Arr) (x b q c k : Nat) (done : Int) (cls : Option (Int × St × Mv)) (ref : Option MRes) : Prop := ∃ (S' : St) (V' : Mv) (x' k' : Nat) (A' built' parts' taken' calls' lacks' : Arr) (done' acc' : Int), cls = some ((x' : Int), S', V') ∧ ref = KM kx saved sm done' acc' k' A' built' ((b + (x' - x) : Nat) : Int) parts' ((q + 1 : Nat) : Int) taken' calls' lacks' c S'.2.2.2.2.2.2.2.1.1 ∧ k < k' ∧ k' ≤ N ∧ cnt (oac og) k' = cnt (oac og) k - 1 ∧ SF N (N - k') k' og (B + (k' : Int) - (k : Int)) S S' A' built built' x b x' (done' + acc' - done) ∧ parts' (q + 1) = ((b + (x' - x) : Nat) : Int) ∧ (∀ j : Nat, j ≤ q → parts' j = parts j) ∧ ∀ j : Nat, j < c → calls' j = calls j ∧ lacks' j = lacks j
def ExpM (n : Nat) : Prop := ∀ (B : Int) (S : St) (V : Mv) (A built parts taken calls lacks : Arr) (x b q c k : Nat) (done : Int), RQ S A → S.2.2.2.2.2.2.2.1.1 ≤ 30 → ACB S.2.2.2.2.2.2.2.1 → S.2.2.2.2.2.2.2.1.1 = ((x + (N - k) : Nat) : Int) → (∀ j : Nat, j < N - k → nodeOK S.2.2.2.1 (S.2.2.2.2.2.2.2.1.2.1 (x + j)) (S.2.2.2.2.2.2.2.1.2.2.1 (x + j)) (S.2.2.2.2.2.2.2.1.2.2.2 (x + j)) (og (k + j))) → OGP N og A → RO S.2.2.2.2.2.2.2.2 A B → k < N → c ≤ k → 40 ≤ n + c → x = b + c → q ≤ b → parts q = (b : Int) → S.2.2.2.2.2.2.2.2 0 = done → EOut kx saved sm N og B S built parts calls lacks x b q c k done (X5_treatFrom n S V (x : Int) (c : Int)) (LM kx saved sm done k A built (b : Int) parts (q : Int) taken calls lacks c S.2.2.2.2.2.2.2.1.1)
def AI (B : Int) (k x b q c a : Nat) (S0 : St) (built0 parts0 calls0 lacks0 : Arr) (i : Nat) (st : Nat → Nat) (S : St) (A built parts calls lacks : Arr) (ki : Nat) (lk dn : Int) : Prop :=
  RQ S A ∧ S0.2.2.2.1 ≤ S.2.2.2.1 ∧ S.2.2.2.2.2.2.2.1.1 ≤ 30 ∧ ACB S.2.2.2.2.2.2.2.1 ∧ S.2.2.2.2.2.2.2.1.1 = ((st i + (N - ki) : Nat) : Int) ∧ (∀ j : Nat, j < N - ki → nodeOK S.2.2.2.1 (S.2.2.2.2.2.2.2.1.2.1 (st i + j)) (S.2.2.2.2.2.2.2.1.2.2.1 (st i + j)) (S.2.2.2.2.2.2.2.1.2.2.2 (st i + j)) (og (ki + j))) ∧ OGP N og A ∧ RO S.2.2.2.2.2.2.2.2 A (B + (ki : Int) - ((k : Int) + 1)) ∧ S.2.2.2.2.2.2.2.2 0 = dn ∧ (k + 1 ≤ ki ∧ ki ≤ N) ∧ cnt (oac og) ki = cnt (oac og) k - 1 + (a : Int) - (i : Int) ∧ st 0 = x + 1 ∧ (∀ j : Nat, j < i → WE S.2.2.2.2.2.2.2.1.2.2.2 (st j) (st (j + 1))) ∧ (∀ j : Nat, j ≤ i → parts (q + j) = ((b + (st j - (x + 1)) : Nat) : Int)) ∧ (∀ j : Nat, j ≤ q → parts j = parts0 j) ∧ (∀ j : Nat, j < b → built j = built0 j) ∧ (∀ j : Nat, j < st i - (x + 1) → nodeOK S.2.2.2.1 (S.2.2.2.2.2.2.2.1.2.1 (x + 1 + j)) (S.2.2.2.2.2.2.2.1.2.2.1 (x + 1 + j)) (S.2.2.2.2.2.2.2.1.2.2.2 (x + 1 + j)) (built (b + j))) ∧ (∀ j : Nat, j < x + 1 → S.2.2.2.2.2.2.2.1.2.1 j = S0.2.2.2.2.2.2.2.1.2.1 j ∧ S.2.2.2.2.2.2.2.1.2.2.1 j = S0.2.2.2.2.2.2.2.1.2.2.1 j ∧ S.2.2.2.2.2.2.2.1.2.2.2 j = S0.2.2.2.2.2.2.2.1.2.2.2 j) ∧ (∀ j : Nat, j < c → calls j = calls0 j ∧ lacks j = lacks0 j) ∧ calls c = og k ∧ lacks c = lk
variable {kx saved sm N og}
theorem SF.acb {len k1 : Nat} {B : Int} {S S' : St} {A' built built' : Arr} {x b x' : Nat} {dn : Int} (h : SF N len k1 og B S S' A' built built' x b x' dn) (hS : ∀ i : Nat, i < x → 0 ≤ S.2.2.2.2.2.2.2.1.2.2.2 i ∧ S.2.2.2.2.2.2.2.1.2.2.2 i ≤ 4) : ACB S'.2.2.2.2.2.2.2.1 := by
  obtain ⟨h1, h2, h3, h4, h5, h6, h7, h8, h9, h10, h11, h12⟩ := h
  have hm4 := h2.2.2.1.2.1
  intro i hi
  rw [h5] at hi
  by_cases c1 : i < x
  · rw [(h9 i c1).2.2]
    exact hS i c1
  · by_cases c2 : i < x'
    · obtain ⟨j, rfl⟩ : ∃ j, i = x + j := ⟨i - x, by omega⟩
      have := (h10 j (by omega)).facts hm4
      omega
    · obtain ⟨j, rfl⟩ : ∃ j, i = x' + j := ⟨i - x', by omega⟩
      have := (h6 j (by omega)).facts hm4
      omega
theorem AI.mono {B : Int} {k x b q c a : Nat} {S0 : St} {built0 parts0 calls0 lacks0 : Arr} {i : Nat} {st : Nat → Nat} {S : St} {A built parts calls lacks : Arr} {ki : Nat} {lk dn : Int} (h : AI N og B k x b q c a S0 built0 parts0 calls0 lacks0 i st S A built parts calls lacks ki lk dn) : ∀ j : Nat, j ≤ i → x + 1 + j ≤ st j := by
  obtain ⟨-, -, -, -, -, -, -, -, -, -, -, h0, hW, -⟩ := h
  intro j
  induction j with
  | zero => intro _; omega
  | succ j ih =>
    intro hj
    have := ih (by omega)
    have := (hW j (by omega)).1
    omega
theorem arg_step {n : Nat} (hE : ExpM kx saved sm N og n) (hN30 : N ≤ 30) (hc2 : cnt (oac og) N = 0) {B : Int} {k x b q c a : Nat} {S0 : St} {built0 parts0 calls0 lacks0 : Arr} (hk1 : 1 ≤ cnt (oac og) k) (hck : c ≤ k) (hn : 40 ≤ n + (c + 1)) (hxbc : x = b + c) (hqb : q ≤ b) {i : Nat} {st : Nat → Nat} {S : St} (V : Mv) {A built parts : Arr} (taken : Arr) {calls lacks : Arr} {ki : Nat} {dn : Int} (hi : i < a) (hI : AI N og B k x b q c a S0 built0 parts0 calls0 lacks0 i st S A built parts calls lacks ki ((a : Int) - (i : Int)) dn) : ∃ (x' : Nat) (S' : St) (V' : Mv) (A' built' parts' taken' calls' lacks' : Arr) (k' : Nat) (done' acc' : Int), X5_treatFrom n S V ((st i : Nat) : Int) ((c + 1 : Nat) : Int) = some ((x' : Int), S', V') ∧ LM kx saved sm dn ki A built ((b + (st i - (x + 1)) : Nat) : Int) parts ((q + i : Nat) : Int) taken calls lacks (c + 1) S.2.2.2.2.2.2.2.1.1 = KM kx saved sm done' acc' k' A' built' ((b + (x' - (x + 1)) : Nat) : Int) parts' ((q + i + 1 : Nat) : Int) taken' calls' lacks' (c + 1) S'.2.2.2.2.2.2.2.1.1 ∧ AI N og B k x b q c a S0 built0 parts0 calls0 lacks0 (i + 1) (fun j => if j ≤ i then st j else x') S' A' built' parts' calls' lacks' k' ((a : Int) - (i : Int)) (done' + acc') := by
  have hmono := hI.mono
  have hst := hmono i (Nat.le_refl _)
  obtain ⟨hQ, hm, h30, hac, hsz, hsuf, hO, hR, hdn, hki, hcnt, h0, hW, hpt, hpt0, hb0, hN, hpre, hcl, hcc, hlc⟩ := hI
  have hkN : ki < N := by
    by_cases e : ki = N
    · rw [e, hc2] at hcnt
      omega
    · omega
  have hx := hE (B + (ki : Int) - ((k : Int) + 1)) S V A built parts taken calls lacks (st i) (b + (st i - (x + 1))) (q + i) (c + 1) ki dn hQ h30 hac hsz hsuf hO hR hkN (by omega) hn (by omega) (by omega) (hpt i (Nat.le_refl _)) hdn
  obtain ⟨S', V', x', k', A', built', parts', taken', calls', lacks', done', acc', o1, o2, o3, o4, o5, o6, o7, o8, o9⟩ := hx
  have hacb := o6.acb (fun j hj => hac j (by omega))
  obtain ⟨f1, f2, f3, f4, f5, f6, f7, f8, f9, f10, f11, f12⟩ := o6
  have eb : b + (st i - (x + 1)) + (x' - st i) = b + (x' - (x + 1)) := by omega
  rw [eb] at o2 o7
  have hle : ¬ (i + 1 ≤ i) := by omega
  refine ⟨x', S', V', A', built', parts', taken', calls', lacks', k', done', acc', o1, o2, f2, by omega, f4, hacb, ?_, ?_, f7, ?_, ?_, ⟨by omega, o4⟩, ?_, ?_, ?_, ?_, ?_, ?_, ?_, ?_, ?_, ?_, ?_⟩
  · simp only [if_neg hle]
    exact f5
  · simp only [if_neg hle]
    exact f6
  · exact f8.1.mono (by omega)
  · rw [f8.2, hdn]; omega
  · rw [o5, hcnt]; omega
  · simp only [if_pos (Nat.zero_le i)]
    exact h0
  · intro j hj
    by_cases hj2 : j + 1 ≤ i
    · simp only [if_pos hj2, if_pos (show j ≤ i by omega)]
      have hj3 := (hW j (by omega)).1
      have hmj : st (j + 1) ≤ st i := by
        have key : ∀ d : Nat, j + 1 + d ≤ i → st (j + 1) ≤ st (j + 1 + d) := by
          intro d
          induction d with
          | zero => intro _; exact Nat.le_refl _
          | succ d ihd =>
            intro hd
            have := ihd (by omega)
            have := (hW (j + 1 + d) (by omega)).1
            exact Nat.le_trans (ihd (by omega)) (Nat.le_of_lt (hW (j + 1 + d) (by omega)).1)
        have := key (i - (j + 1)) (by omega)
        have e : j + 1 + (i - (j + 1)) = i := by omega
        rw [e] at this
        exact this
      exact (hW j (by omega)).congr (fun l hl0 hl1 => (f9 l (by omega)).2.2)
    · have hji : j = i := by omega
      subst hji
      simp only [if_pos (Nat.le_refl j), if_neg hle]
      exact f12
  · intro j hj
    by_cases hj2 : j ≤ i
    · simp only [if_pos hj2]
      rw [o8 (q + j) (by omega)]
      exact hpt j hj2
    · have hji : j = i + 1 := by omega
      subst hji
      simp only [if_neg hle]
      exact o7
  · intro j hj
    rw [o8 j (by omega)]
    exact hpt0 j hj
  · intro j hj
    rw [f11 j (by omega)]
    exact hb0 j hj
  · simp only [if_neg hle]
    intro j hj
    by_cases hj2 : j < st i - (x + 1)
    · obtain ⟨d1, d2, d3⟩ := f9 (x + 1 + j) (by omega)
      rw [d1, d2, d3, f11 (b + j) (by omega)]
      exact (hN j hj2).mono f3
    · obtain ⟨l, rfl⟩ : ∃ l, j = st i - (x + 1) + l := ⟨j - (st i - (x + 1)), by omega⟩
      have := f10 l (by omega)
      have e1 : x + 1 + (st i - (x + 1) + l) = st i + l := by omega
      have e2 : b + (st i - (x + 1) + l) = b + (st i - (x + 1)) + l := by omega
      rw [e1, e2]
      exact this
  · intro j hj
    obtain ⟨d1, d2, d3⟩ := f9 j (by omega)
    obtain ⟨g1, g2, g3⟩ := hpre j hj
    exact ⟨d1.trans g1, d2.trans g2, d3.trans g3⟩
  · intro j hj
    obtain ⟨d1, d2⟩ := o9 j (by omega)
    obtain ⟨g1, g2⟩ := hcl j hj
    exact ⟨d1.trans g1, d2.trans g2⟩
  · rw [(o9 c (by omega)).1]
    exact hcc
  · rw [(o9 c (by omega)).2]
    exact hlc
theorem margs {n : Nat} (hE : ExpM kx saved sm N og n) (hN30 : N ≤ 30) (hc2 : cnt (oac og) N = 0) {B : Int} {k x b q c a : Nat} {S0 : St} {built0 parts0 calls0 lacks0 : Arr} (hk1 : 1 ≤ cnt (oac og) k) (hck : c ≤ k) (hk30 : k < 30) (hn : 40 ≤ n + (c + 1)) (hxbc : x = b + c) (hqb : q ≤ b) (ha : a ≤ 4) : ∀ (r i : Nat) (st : Nat → Nat) (S : St) (V : Mv) (A built parts taken calls lacks : Arr) (ki : Nat) (dn : Int) (fuel : Nat), i + (r + 1) = a → r + 1 < fuel → AI N og B k x b q c a S0 built0 parts0 calls0 lacks0 i st S A built parts calls lacks ki ((a : Int) - (i : Int)) dn → ∃ (st' : Nat → Nat) (S' : St) (V' : Mv) (A' built' parts' taken' calls' lacks' : Arr) (k' : Nat) (done' acc' : Int), X5_treatArguments_L19 (fun w4 w5 => some (w4, w5)) (X5_treatFrom n) (c : Int) (a : Int) fuel ((st i : Nat) : Int) (i : Int) S V = some (S', V') ∧ LM kx saved sm dn ki A built ((b + (st i - (x + 1)) : Nat) : Int) parts ((q + i : Nat) : Int) taken calls lacks (c + 1) S.2.2.2.2.2.2.2.1.1 = KM kx saved sm done' acc' k' A' built' ((b + (st' a - (x + 1)) : Nat) : Int) parts' ((q + a : Nat) : Int) taken' calls' lacks' (c + 1) S'.2.2.2.2.2.2.2.1.1 ∧ AI N og B k x b q c a S0 built0 parts0 calls0 lacks0 a st' S' A' built' parts' calls' lacks' k' 1 (done' + acc') := by
  intro r
  induction r with
  | zero =>
    intro i st S V A built parts taken calls lacks ki dn fuel hi hfu hI
    obtain ⟨fu, rfl⟩ : ∃ q, fuel = q + 1 := ⟨fuel - 1, by omega⟩
    obtain ⟨fu, rfl⟩ : ∃ q, fu = q + 1 := ⟨fu - 1, by omega⟩
    obtain ⟨x', S', V', A', built', parts', taken', calls', lacks', k', done', acc', p1, p2, p3⟩ := arg_step hE hN30 hc2 hk1 hck hn hxbc hqb V taken (by omega) hI
    have hia : i + 1 = a := by omega
    have e1 : (c : Int) + 1 = ((c + 1 : Nat) : Int) := by omega
    have e2 : (i : Int) + 1 = (a : Int) := by omega
    have e3 : q + i + 1 = q + a := by omega
    have e4 : (a : Int) - (i : Int) = 1 := by omega
    rw [hia, e4] at p3
    rw [e3] at p2
    refine ⟨_, S', V', A', built', parts', taken', calls', lacks', k', done', acc', ?_, ?_, p3⟩
    · rw [X5_treatArguments_L19, e_LT (by omega) (by omega) (by omega) (by omega), if_pos (by omega), e1, p1, Option.bind_some, e2, X5_treatArguments_L19, e_LT (by omega) (by omega) (by omega) (by omega), if_neg (by omega)]
    · simp only [if_neg (show ¬ (a ≤ i) by omega)]
      exact p2
  | succ r ih =>
    intro i st S V A built parts taken calls lacks ki dn fuel hi hfu hI
    obtain ⟨fu, rfl⟩ : ∃ q, fuel = q + 1 := ⟨fuel - 1, by omega⟩
    obtain ⟨x', S', V', A', built', parts', taken', calls', lacks', k', done', acc', p1, p2, p3⟩ := arg_step hE hN30 hc2 hk1 hck hn hxbc hqb V taken (by omega) hI
    have e1 : (c : Int) + 1 = ((c + 1 : Nat) : Int) := by omega
    have e2 : (i : Int) + 1 = ((i + 1 : Nat) : Int) := by omega
    have e5 : (a : Int) - (i : Int) - 1 = (a : Int) - ((i + 1 : Nat) : Int) := by omega
    have hlc : lacks' c = (a : Int) - (i : Int) := p3.2.2.2.2.2.2.2.2.2.2.2.2.2.2.2.2.2.2.2.2
    rw [km_more kx saved sm (by omega) hlc (by omega) (by omega), e5] at p2
    have p3' : AI N og B k x b q c a S0 built0 parts0 calls0 lacks0 (i + 1) (fun j => if j ≤ i then st j else x') S' A' built' parts' calls' (upI lacks' c ((a : Int) - ((i + 1 : Nat) : Int))) k' ((a : Int) - ((i + 1 : Nat) : Int)) (done' + acc') := by
      obtain ⟨hQ, hm, h30, hac, hsz, hsuf, hO, hR, hdn, hki, hcnt, h0, hW, hpt, hpt0, hb0, hN, hpre, hcl, hcc, -⟩ := p3
      refine ⟨hQ, hm, h30, hac, hsz, hsuf, hO, hR, hdn, hki, hcnt, h0, hW, hpt, hpt0, hb0, hN, hpre, fun j hj => ?_, hcc, uI_same _⟩
      obtain ⟨d1, d2⟩ := hcl j hj
      exact ⟨d1, by rw [uI_ne (by omega)]; exact d2⟩
    obtain ⟨st2, S2, V2, A2, built2, parts2, taken2, calls2, lacks2, k2, done2, acc2, q1, q2, q3⟩ := ih (i + 1) _ S' V' A' built' parts' taken' calls' _ k' _ fu (by omega) (by omega) p3'
    simp only [if_neg (show ¬ (i + 1 ≤ i) by omega)] at q1 q2
    refine ⟨st2, S2, V2, A2, built2, parts2, taken2, calls2, lacks2, k2, done2, acc2, ?_, ?_, q3⟩
    · rw [X5_treatArguments_L19, e_LT (by omega) (by omega) (by omega) (by omega), if_pos (by omega), e1, p1, Option.bind_some, e2]
      exact q1
    · exact p2.trans q2
end EM
