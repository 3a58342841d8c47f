/-! migrate: the whole call -/
theorem fill_eq (n : Nat) (hn : n ≤ 30) (ar : Arr) (v : Int) : ∃ g : Arr, J7_fill_53178 n ar v = some g ∧ (∀ j : Nat, j < n → g j = v) := by
  have key : ∀ (m fuel y : Nat) (g : Arr), y + m = n → m < fuel → (∀ j : Nat, j < y → g j = v) → ∃ g' : Arr, J7_fill_53178_L5 (fun w2 => some w2) n v (n : Int) fuel (y : Int) g = some g' ∧ ∀ j : Nat, j < n → g' j = v := by
    intro m
    induction m with
    | zero =>
      intro fuel y g h1 h2 h3
      obtain ⟨k, rfl⟩ : ∃ k, fuel = k + 1 := ⟨fuel - 1, by omega⟩
      refine ⟨g, ?_, fun j hj => h3 j (by omega)⟩
      rw [J7_fill_53178_L5, e_LT (by omega) (by omega) (by omega) (by omega), if_neg (by omega)]
    | succ m ih =>
      intro fuel y g h1 h2 h3
      obtain ⟨k, rfl⟩ : ∃ k, fuel = k + 1 := ⟨fuel - 1, by omega⟩
      obtain ⟨g', a1, a2⟩ := ih k (y + 1) (upI g y v) (by omega) (by omega) (by
        intro j hj
        by_cases e : j = y
        · subst e; exact uI_same _
        · rw [uI_ne e]; exact h3 j (by omega))
      refine ⟨g', ?_, a2⟩
      have e3 : (y : Int) + 1 = ((y + 1 : Nat) : Int) := by omega
      rw [J7_fill_53178_L5, e_LT (by omega) (by omega) (by omega) (by omega), if_pos (by omega), e_wr (by omega) (by omega), show ((y : Int)).toNat = y by omega, e3]
      exact a1
  obtain ⟨g', a1, a2⟩ := key n FU 0 ar (by omega) (by rw [FU_eq]; omega) (fun j hj => absurd hj (by omega))
  exact ⟨g', a1, a2⟩
theorem zero_loop (kx : Arr → Option MRes) (saved : Arr) (sm : Int) (built : Arr) (bm : Int) (parts : Arr) (pm : Int) (taken calls lacks : Arr) (c total : Int) (A0 : Arr) : ∀ (m fuel y : Nat) (g : Arr), y + m = 7 → m < fuel → (∀ j : Nat, g j = if 179 ≤ j ∧ j < 179 + y then 0 else A0 j) → ∃ g' : Arr, X10_migrate_L6 kx saved sm built bm parts pm taken calls lacks c total fuel (y : Int) g = kx g' ∧ ∀ j : Nat, g' j = if 179 ≤ j ∧ j < 186 then 0 else A0 j := by
  intro m
  induction m with
  | zero =>
    intro fuel y g h1 h2 h3
    obtain ⟨k, rfl⟩ : ∃ k, fuel = k + 1 := ⟨fuel - 1, by omega⟩
    have : y = 7 := by omega
    subst this
    refine ⟨g, ?_, h3⟩
    rw [X10_migrate_L6, e_LT (by omega) (by omega) (by omega) (by omega), if_neg (by omega)]
  | succ m ih =>
    intro fuel y g h1 h2 h3
    obtain ⟨k, rfl⟩ : ∃ k, fuel = k + 1 := ⟨fuel - 1, by omega⟩
    obtain ⟨g', a1, a2⟩ := ih k (y + 1) (upI g (179 + y) 0) (by omega) (by omega) (by
      intro j
      by_cases hj : j = 179 + y
      · rw [hj, uI_same, if_pos (by omega)]
      · rw [uI_ne hj, h3 j]
        by_cases h4 : 179 ≤ j ∧ j < 179 + y
        · rw [if_pos h4, if_pos (by omega)]
        · rw [if_neg h4, if_neg (by omega)])
    refine ⟨g', ?_, a2⟩
    have e3 : (y : Int) + 1 = ((y + 1 : Nat) : Int) := by omega
    rw [X10_migrate_L6, e_LT (by omega) (by omega) (by omega) (by omega), if_pos (by omega), e_wr (by omega) (by omega), show (179 + (y : Int)).toNat = 179 + y by omega, e3]
    exact a1
theorem back_loop (kx : Arr → Option MRes) (saved : Arr) (sm : Int) (built : Arr) {n : Nat} (hn : n ≤ 30) (parts : Arr) (pm : Int) (taken calls lacks : Arr) (c total x1 : Int) (A0 : Arr) : ∀ (m fuel y : Nat) (g : Arr), y + m = n → m < fuel → (∀ j : Nat, g j = if 149 ≤ j ∧ j < 149 + y then built (j - 149) else A0 j) → ∃ g' : Arr, X10_migrate_L156 kx saved sm built (n : Int) parts pm taken calls lacks c total x1 fuel (y : Int) g = kx g' ∧ ∀ j : Nat, g' j = if 149 ≤ j ∧ j < 149 + n then built (j - 149) else A0 j := by
  intro m
  induction m with
  | zero =>
    intro fuel y g h1 h2 h3
    obtain ⟨k, rfl⟩ : ∃ k, fuel = k + 1 := ⟨fuel - 1, by omega⟩
    refine ⟨g, ?_, by rw [← h1]; exact h3⟩
    rw [X10_migrate_L156, e_LT (by omega) (by omega) (by omega) (by omega), if_neg (by omega)]
  | succ m ih =>
    intro fuel y g h1 h2 h3
    obtain ⟨k, rfl⟩ : ∃ k, fuel = k + 1 := ⟨fuel - 1, by omega⟩
    obtain ⟨g', a1, a2⟩ := ih k (y + 1) (upI g (149 + y) (built y)) (by omega) (by omega) (by
      intro j
      by_cases hj : j = 149 + y
      · rw [hj, uI_same, if_pos (by omega)]
        exact congrArg built (by omega)
      · rw [uI_ne hj, h3 j]
        by_cases h4 : 149 ≤ j ∧ j < 149 + y
        · rw [if_pos h4, if_pos (by omega)]
        · rw [if_neg h4, if_neg (by omega)])
    refine ⟨g', ?_, a2⟩
    have e3 : (y : Int) + 1 = ((y + 1 : Nat) : Int) := by omega
    rw [X10_migrate_L156, e_LT (by omega) (by omega) (by omega) (by omega), if_pos (by omega), e_rd (by omega) (by omega), e_wr (by omega) (by omega), show ((y : Int)).toNat = y by omega, show (149 + (y : Int)).toNat = 149 + y by omega, e3]
    exact a1
def MKX (saved : Arr) (sm : Int) : Int → Arr → Arr → Int → Arr → Int → Arr → Arr → Arr → Int → Int → Option MRes := fun w21 w22 w23 w24 w25 w26 w27 w28 w29 w30 w31 => X10_migrate_L156 (fun w34 => wrK 186 w34 148 w24 (fun f35 => some (w21, f35, saved, sm, w23, w24, w25, w26, w27, w28, w29, w30, w31))) saved sm w23 w24 w25 w26 w27 w28 w29 w30 w31 w21 FU 0 w22
def MG (saved : Arr) (sm : Int) (built : Arr) (bm : Int) (parts : Arr) (pm : Int) (taken calls lacks : Arr) (cm total : Int) (A : Arr) : Option MRes := X10_migrate_L6 (fun w4 => rdK 186 w4 148 (fun v5 => wrK 31 parts 0 0 (fun f6 => X10_migrate_L67 (MKX saved sm) saved sm FU 0 0 w4 built 0 f6 0 taken calls lacks 0 v5))) saved sm built bm parts pm taken calls lacks cm total FU 0 A
theorem mig_MG (A saved : Arr) (sm : Int) (built : Arr) (bm : Int) (parts : Arr) (pm : Int) (taken calls lacks : Arr) (cm total : Int) : X10_migrate A saved sm built bm parts pm taken calls lacks cm total = (X10_save A saved sm).bind (fun w1 => MG w1.1 w1.2 built bm parts pm taken calls lacks cm total A) := rfl
theorem mig_core {S : St} {A : Arr} (hS : RS S A) {o8 : Arr} (ho : ∀ j : Nat, j < 8 → o8 j = 0) (V : Mv) (saved : Arr) (sm : Int) (built : Arr) (bm : Int) (parts : Arr) (pm : Int) (taken calls lacks : Arr) (cm total : Int) : ∃ (x' : Int) (S' : St) (V' : Mv) (F : Arr) (w : Arr × Int × Arr × Int × Arr × Arr × Arr × Int × Int), X5_treatFrom 40 (setO S o8) V 0 0 = some (x', S', V') ∧ MG saved sm built bm parts pm taken calls lacks cm total A = some (S'.2.2.2.2.2.2.2.2 0, F, saved, sm, w) ∧ RS S' F := by
  obtain ⟨r1, r2, r3, r4, r5, r6, r7⟩ := id hS
  obtain ⟨p1, p2, p3, p4, p5, p6⟩ := r6
  have hm4 := r3.2.1
  obtain ⟨N, hN⟩ : ∃ N : Nat, S.2.2.2.2.2.2.2.1.1 = (N : Int) := ⟨S.2.2.2.2.2.2.2.1.1.toNat, by omega⟩
  have hNt : S.2.2.2.2.2.2.2.1.1.toNat = N := by omega
  have hN30 : N ≤ 30 := by omega
  rw [hNt] at p4 p5 p6
  obtain ⟨A0, z1, z2⟩ := zero_loop (fun w4 => rdK 186 w4 148 (fun v5 => wrK 31 parts 0 0 (fun f6 => X10_migrate_L67 (MKX saved sm) saved sm FU 0 0 w4 built 0 f6 0 taken calls lacks 0 v5))) saved sm built bm parts pm taken calls lacks cm total A 7 FU 0 A (by omega) (by rw [FU_eq]; omega) (by intro j; rw [if_neg (by omega)])
  have z1' : MG saved sm built bm parts pm taken calls lacks cm total A = rdK 186 A0 148 (fun v5 => wrK 31 parts 0 0 (fun f6 => X10_migrate_L67 (MKX saved sm) saved sm FU 0 0 A0 built 0 f6 0 taken calls lacks 0 v5)) := z1
  have hA0 : ∀ j : Nat, j < 179 → A0 j = A j := fun j hj => by rw [z2, if_neg (by omega)]
  rw [z1', e_rd (by decide) (by decide), show ((148 : Int)).toNat = 148 from rfl, hA0 148 (by omega), p3, e_wr (by decide) (by decide), show ((0 : Int)).toNat = 0 from rfl]
  have hcn : ∀ n : Nat, n ≤ N → cnt (oac (fun j => A (149 + j))) n = cnt S.2.2.2.2.2.2.2.1.2.2.2 n := fun n hn => cnt_congr (fun j hj => by
    show A (149 + j) % 10 = _
    exact ((p4 j (by omega)).facts hm4).2.2.1)
  have hQ : RQ (setO S o8) A0 := by
    refine ⟨r1.congr (fun j _ hj => hA0 j (by omega)) (by decide) agr.rfl, r2.congr (fun j _ hj => hA0 j (by omega)) (by decide) agr.rfl, r3.congrA (fun j _ hj => hA0 j (by omega)), ⟨(hA0 147 (by omega)).trans r4.1, r4.2⟩, r5.congrA (fun j _ hj => hA0 j (by omega)), trivial⟩
  have hx := exp_m (kx := MKX saved sm) (saved := saved) (sm := sm) (N := N) (og := fun j => A (149 + j)) hN30 (fun i hi => by rw [hcn i (by omega)]; exact p5 i hi) (by rw [hcn N (Nat.le_refl _)]; exact p6) 40 0 (setO S o8) V A0 built (upI parts 0 0) taken calls lacks 0 0 0 0 0 0 hQ p2 (fun i hi => by
      have := (p4 i (by have : (i : Int) < S.2.2.2.2.2.2.2.1.1 := hi; omega)).facts hm4
      exact ⟨this.2.2.2.2.2.2.2.1, this.2.2.2.2.2.2.2.2⟩) (by show S.2.2.2.2.2.2.2.1.1 = _; rw [hN]; omega) (fun j hj => by
      rw [Nat.zero_add]
      exact p4 j (by omega)) ⟨by rw [hA0 148 (by omega), p3, hN], fun j hj => hA0 (149 + j) (by omega)⟩ ⟨fun r q0 q1 => by
      show _ = o8 r
      rw [z2, if_pos (by omega), ho r (by omega)], fun r q1 => by
      show 0 ≤ o8 r ∧ o8 r ≤ 0
      rw [ho r (by omega)]
      exact ⟨Int.le_refl _, Int.le_refl _⟩⟩ (by omega) (Nat.le_refl _) (Nat.le_refl _) rfl (Nat.le_refl _) (uI_same _) (ho 0 (by decide))
  obtain ⟨S', V', x', k', A', built', parts', taken', calls', lacks', done', acc', o1, o2, o3, o4, o5, o6, o7, o9, o10⟩ := hx
  have hk' : k' = N := by
    by_cases e : k' = N
    · exact e
    · have h1 := p5 k' (by omega)
      rw [hcn k' o4, hcn 0 (Nat.zero_le _)] at o5
      have h0 : cnt S.2.2.2.2.2.2.2.1.2.2.2 0 = 1 := rfl
      omega
  subst hk'
  obtain ⟨f1, f2, f3, f4, f5, f6, f7, f8, f9, f10, f11, f12⟩ := o6
  have o2' : X10_migrate_L67 (MKX saved sm) saved sm FU 0 0 A0 built 0 (upI parts 0 0) 0 taken calls lacks 0 S.2.2.2.2.2.2.2.1.1 = _ := o2
  have e0 : 0 + (x' - 0) = x' := by omega
  have eNN : k' - k' = 0 := by omega
  have hx30 : x' ≤ 30 := by
    rw [eNN] at f5
    omega
  rw [o2', km_zero, lm_end (MKX saved sm) saved sm f7 rfl hN30, e0]
  have hd : S'.2.2.2.2.2.2.2.2 0 = done' + acc' := by
    rw [f8.2]
    show o8 0 + _ = _
    rw [ho 0 (by decide)]
    omega
  obtain ⟨G, b1, b2⟩ := back_loop (fun w34 => wrK 186 w34 148 ((x' : Nat) : Int) (fun f35 => some (done' + acc', f35, saved, sm, built', ((x' : Nat) : Int), parts', ((0 + 1 : Nat) : Int), taken', calls', lacks', ((0 : Nat) : Int), S'.2.2.2.2.2.2.2.1.1))) saved sm built' hx30 parts' ((0 + 1 : Nat) : Int) taken' calls' lacks' ((0 : Nat) : Int) S'.2.2.2.2.2.2.2.1.1 (done' + acc') A' x' FU 0 A' (by omega) (by rw [FU_eq]; omega) (by intro j; rw [if_neg (by omega)])
  refine ⟨(x' : Int), S', V', upI G 148 (x' : Int), (built', ((x' : Nat) : Int), parts', ((0 + 1 : Nat) : Int), taken', calls', lacks', ((0 : Nat) : Int), S'.2.2.2.2.2.2.2.1.1), o1, ?_, ?_⟩
  · rw [hd]
    refine b1.trans ?_
    rw [e_wr (by decide) (by decide)]
    rfl
  · have hF : ∀ j : Nat, j < 148 ∨ 178 < j → upI G 148 (x' : Int) j = A' j := by
      intro j hj
      rw [uI_ne (by omega), b2, if_neg (by omega)]
    obtain ⟨q1, q2, q3, q4, q5, -⟩ := f2
    have hsz : S'.2.2.2.2.2.2.2.1.1 = (x' : Int) := by rw [f5, eNN]; omega
    have hszt : S'.2.2.2.2.2.2.2.1.1.toNat = x' := by omega
    refine ⟨q1.congr (fun j _ hj => hF j (by omega)) (by decide) agr.rfl, q2.congr (fun j _ hj => hF j (by omega)) (by decide) agr.rfl, q3.congrA (fun j _ hj => hF j (by omega)), ⟨(hF 147 (by omega)).trans q4.1, q4.2⟩, q5.congrA (fun j _ hj => hF j (by omega)), ⟨by omega, f4, by rw [uI_same, hsz], ?_, ?_, ?_⟩, ?_⟩
    · rw [hszt]
      intro j hj
      have := f10 j (by omega)
      rw [Nat.zero_add] at this
      rw [uI_ne (by omega), b2, if_pos (by omega)]
      have e : 149 + j - 149 = j := by omega
      rw [e]
      exact this
    · rw [hszt]
      intro j hj
      exact f12.2.1 j (Nat.zero_le _) hj
    · rw [hszt, f12.2.2]
      rfl
    · intro r g0 g1
      obtain ⟨d1, d2⟩ := f8.1.2 r g1
      refine ⟨(hF (178 + r) (by omega)).trans (f8.1.1 r g0 g1), d1, by omega⟩
theorem sim_migrate (i : Int) (C : CM) (M : MT) (_ : 0 ≤ i) (_ : i ≤ 2048) (hR : REL i C M) : ∃ (r : Int) (C' : CM) (M' : MT), cm_migrate C = some (r, C') ∧ rm_migrate M = some (r, M') ∧ REL (i + 4) C' M' := by
  obtain ⟨hS, hH, hI, hEr⟩ := hR
  obtain ⟨h', g, s1, s2, s3⟩ := save_sim hS hH
  obtain ⟨o8, ho1, ho2⟩ := fill_eq 8 (by decide) C.1.2.2.2.2.2.2.2.2 0
  obtain ⟨x', S', V', F, w, m1, m2, m3⟩ := mig_core hS ho2 C.2.2.2.2.2.2.1 g h'.2.1 M.2.2.2.2.2.2.2.2.2.2.2.1 M.2.2.2.2.2.2.2.2.2.2.2.2.1 M.2.2.2.2.2.2.2.2.2.2.2.2.2.1 M.2.2.2.2.2.2.2.2.2.2.2.2.2.2.1 M.2.2.2.2.2.2.2.2.2.2.2.2.2.2.2.1 M.2.2.2.2.2.2.2.2.2.2.2.2.2.2.2.2.1 M.2.2.2.2.2.2.2.2.2.2.2.2.2.2.2.2.2.1 M.2.2.2.2.2.2.2.2.2.2.2.2.2.2.2.2.2.2.1 M.2.2.2.2.2.2.2.2.2.2.2.2.2.2.2.2.2.2.2.1
  have hc : cm_migrate C = some (S'.2.2.2.2.2.2.2.2 0, (S', h', C.2.2.1, C.2.2.2.1, C.2.2.2.2.1, C.2.2.2.2.2.1, V', C.2.2.2.2.2.2.2)) := by
    unfold cm_migrate X9_migrate
    rw [s1, Option.bind_some, ho1, Option.bind_some]
    have m1' : X5_treatFrom 40 (C.1.1, C.1.2.1, C.1.2.2.1, C.1.2.2.2.1, C.1.2.2.2.2.1, C.1.2.2.2.2.2.1, C.1.2.2.2.2.2.2.1, C.1.2.2.2.2.2.2.2.1, o8) C.2.2.2.2.2.2.1 0 0 = _ := m1
    rw [m1', Option.bind_some, e_rd (by decide) (by decide)]
    rfl
  have hr := mig_MG M.1 M.2.1 M.2.2.1 M.2.2.2.2.2.2.2.2.2.2.2.1 M.2.2.2.2.2.2.2.2.2.2.2.2.1 M.2.2.2.2.2.2.2.2.2.2.2.2.2.1 M.2.2.2.2.2.2.2.2.2.2.2.2.2.2.1 M.2.2.2.2.2.2.2.2.2.2.2.2.2.2.2.1 M.2.2.2.2.2.2.2.2.2.2.2.2.2.2.2.2.1 M.2.2.2.2.2.2.2.2.2.2.2.2.2.2.2.2.2.1 M.2.2.2.2.2.2.2.2.2.2.2.2.2.2.2.2.2.2.1 M.2.2.2.2.2.2.2.2.2.2.2.2.2.2.2.2.2.2.2.1
  rw [s2, Option.bind_some] at hr
  have hr2 := hr.trans m2
  exact ⟨S'.2.2.2.2.2.2.2.2 0, _, _, hc, (congrArg (Option.map _) hr2).trans rfl, m3, s3, hI, hEr.mono⟩
