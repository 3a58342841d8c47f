/-! pure: errors, save, undo -/
def setE (C : CM) (E : Arr) : CM := (C.1, C.2.1, C.2.2.1, C.2.2.2.1, C.2.2.2.2.1, C.2.2.2.2.2.1, C.2.2.2.2.2.2.1, E)
def bmp (E : Arr) (code : Int) : Arr := upI E (-2 - code).toNat (E (-2 - code).toNat + 1)
theorem X9_refuse_eq (C : CM) {code : Int} (h1 : -5 ≤ code) (h2 : code ≤ -2) : X9_refuse C code = some (code, setE C (bmp C.2.2.2.2.2.2.2 code)) := by
  unfold X9_refuse
  rw [X9_within_eq (by omega) (by omega) (by decide) (by decide) (by decide) (by decide), Option.bind_some, e_b10, if_pos ⟨by omega, by show -2 - code ≤ 4 - 1; omega⟩, e_rd (by omega) (by show -2 - code < 4; omega), e_wr (by omega) (by show -2 - code < 4; omega)]
  rfl
theorem X10_error_eq (E : Arr) {code : Int} (h1 : -5 ≤ code) (h2 : code ≤ -2) : X10_error E code = some (code, bmp E code) := by
  unfold X10_error
  rw [e_rd (by omega) (by show -2 - code < 4; omega), e_wr (by omega) (by show -2 - code < 4; omega)]
  rfl
theorem RErr.up {i : Int} {E errors : Arr} (h : RErr i E errors) {code : Int} (h1 : -5 ≤ code) (h2 : code ≤ -2) : RErr (i + 4) (bmp E code) (bmp errors code) := by
  intro k hk
  obtain ⟨e1, e2, e3⟩ := h k hk
  unfold bmp upI
  by_cases hq : k = (-2 - code).toNat
  · subst hq
    rw [if_pos rfl, if_pos rfl, e1]
    exact ⟨rfl, by omega, by omega⟩
  · rw [if_neg hq, if_neg hq]
    exact ⟨e1, e2, by omega⟩
theorem RErr.mono {i : Int} {E errors : Arr} (h : RErr i E errors) : RErr (i + 4) E errors := fun k hk => ⟨(h k hk).1, (h k hk).2.1, by have := (h k hk).2.2; omega⟩
theorem REL.mono {i : Int} {C : CM} {M : MT} (h : REL i C M) : REL (i + 4) C M := ⟨h.1, h.2.1, h.2.2.1, h.2.2.2.mono⟩
theorem shift_loop (kx : Arr → Option (Arr × Int)) (A s0 : Arr) (sm : Int) : ∀ (m fuel y : Nat) (g : Arr), y + m = 558 → m < fuel → (∀ j : Nat, g j = if j < y then s0 (j + 186) else s0 j) → ∃ g' : Arr, X10_save_L10 kx A sm fuel (y : Int) g = kx g' ∧ ∀ j : Nat, g' j = if j < 558 then s0 (j + 186) else s0 j := by
  intro m
  induction m with
  | zero =>
    intro fuel y g h1 h2 h3
    obtain ⟨k, rfl⟩ : ∃ k, fuel = k + 1 := ⟨fuel - 1, by omega⟩
    refine ⟨g, ?_, by rw [show (558 : Nat) = y by omega]; exact h3⟩
    rw [X10_save_L10, e_LT (by omega) (by omega) (by decide) (by decide), if_neg (by omega)]
  | succ m ih =>
    intro fuel y g h1 h2 h3
    obtain ⟨k, rfl⟩ : ∃ k, fuel = k + 1 := ⟨fuel - 1, by omega⟩
    have e1 : ((y : Int) + 186).toNat = y + 186 := by omega
    have e2 : ((y : Int)).toNat = y := by omega
    obtain ⟨g', a1, a2⟩ := ih k (y + 1) (upI g y (g (y + 186))) (by omega) (by omega) (fun j => by
      unfold upI
      by_cases hj : j = y
      · subst hj
        rw [if_pos rfl, if_pos (by omega), h3, if_neg (by omega)]
      · rw [if_neg hj, h3]
        by_cases hq : j < y
        · rw [if_pos hq, if_pos (by omega)]
        · rw [if_neg hq, if_neg (by omega)])
    refine ⟨g', ?_, a2⟩
    rw [X10_save_L10, e_LT (by omega) (by omega) (by decide) (by decide), if_pos (by omega), e_rd (by omega) (by omega), e_wr (by omega) (by omega), e1, e2]
    exact a1
theorem put_loop (kx : Arr → Option (Arr × Int)) (A s0 : Arr) (t : Nat) (ht : t ≤ 3) : ∀ (m fuel y : Nat) (g : Arr), y + m = 186 → m < fuel → (∀ j : Nat, g j = if 186 * t ≤ j ∧ j < 186 * t + y then A (j - 186 * t) else s0 j) → ∃ g' : Arr, X10_save_L51 kx A (t : Int) fuel (y : Int) g = kx g' ∧ ∀ j : Nat, g' j = if 186 * t ≤ j ∧ j < 186 * t + 186 then A (j - 186 * t) else s0 j := by
  intro m
  induction m with
  | zero =>
    intro fuel y g h1 h2 h3
    obtain ⟨k, rfl⟩ : ∃ k, fuel = k + 1 := ⟨fuel - 1, by omega⟩
    have hy : y = 186 := by omega
    subst hy
    refine ⟨g, ?_, h3⟩
    rw [X10_save_L51, e_LT (by omega) (by omega) (by decide) (by decide), if_neg (by omega)]
  | succ m ih =>
    intro fuel y g h1 h2 h3
    obtain ⟨k, rfl⟩ : ∃ k, fuel = k + 1 := ⟨fuel - 1, by omega⟩
    have e1 : (186 * (t : Int) + (y : Int)).toNat = 186 * t + y := by omega
    have e2 : ((y : Int)).toNat = y := by omega
    obtain ⟨g', a1, a2⟩ := ih k (y + 1) (upI g (186 * t + y) (A y)) (by omega) (by omega) (fun j => by
      unfold upI
      by_cases hj : j = 186 * t + y
      · subst hj
        rw [if_pos rfl, if_pos (by omega)]
        congr 1
        omega
      · rw [if_neg hj, h3]
        by_cases hq : 186 * t ≤ j ∧ j < 186 * t + y
        · rw [if_pos hq, if_pos (by omega)]
        · rw [if_neg hq, if_neg (by omega)])
    refine ⟨g', ?_, a2⟩
    rw [X10_save_L51, e_LT (by omega) (by omega) (by decide) (by decide), if_pos (by omega), e_rd (by omega) (by omega), e_wr (by omega) (by omega), e1, e2]
    exact a1
theorem X10_save_spec (A saved : Arr) (t : Nat) (ht : t < 4) : ∃ g : Arr, X10_save A saved (t : Int) = some (g, (t : Int) + 1) ∧ ∀ j : Nat, g j = if 186 * t ≤ j ∧ j < 186 * t + 186 then A (j - 186 * t) else saved j := by
  obtain ⟨g, a1, a2⟩ := put_loop (fun w5 => some (w5, ((t : Int) + 1))) A saved t (by omega) 186 FU 0 saved (by omega) (by rw [FU_eq]; omega) (fun j => by rw [if_neg (by omega)])
  refine ⟨g, ?_, a2⟩
  unfold X10_save ltK
  dsimp only
  rw [e_EQ (by omega) (by omega) (by decide) (by decide), if_neg (by omega)]
  exact a1
theorem X10_save_spec4 (A saved : Arr) : ∃ g : Arr, X10_save A saved 4 = some (g, 4) ∧ ∀ j : Nat, g j = if 558 ≤ j ∧ j < 744 then A (j - 558) else if j < 558 then saved (j + 186) else saved j := by
  obtain ⟨g0, a1, a2⟩ := shift_loop (fun w8 => X10_save_L51 (fun w5 => some (w5, ((4 - 1 : Int) + 1))) A (4 - 1) FU 0 w8) A saved 4 558 FU 0 saved (by omega) (by rw [FU_eq]; omega) (fun j => by rw [if_neg (by omega)])
  obtain ⟨g, b1, b2⟩ := put_loop (fun w5 => some (w5, ((4 - 1 : Int) + 1))) A g0 3 (by omega) 186 FU 0 g0 (by omega) (by rw [FU_eq]; omega) (fun j => by rw [if_neg (by omega)])
  refine ⟨g, ?_, fun j => ?_⟩
  · unfold X10_save ltK
    dsimp only
    rw [e_EQ (by decide) (by decide) (by decide) (by decide), if_pos rfl]
    exact a1.trans b1
  · rw [b2 j]
    by_cases h1 : 558 ≤ j ∧ j < 744
    · rw [if_pos (by omega), if_pos h1]
    · rw [if_neg (by omega), if_neg h1, a2 j]
theorem rot0 (f : Nat → Nat) : rotP f 0 = f 1 := rfl
theorem rot1 (f : Nat → Nat) : rotP f 1 = f 2 := rfl
theorem rot2 (f : Nat → Nat) : rotP f 2 = f 3 := rfl
theorem rot3 (f : Nat → Nat) : rotP f 3 = f 0 := rfl
theorem okP.rot {f : Nat → Nat} (h : okP f) : okP (rotP f) := ⟨h.2.1, h.2.2.1, h.2.2.2, h.1⟩
theorem inj.rot {f : Nat → Nat} (h : ∀ i j : Nat, i < 4 → j < 4 → f i = f j → i = j) : ∀ i j : Nat, i < 4 → j < 4 → rotP f i = rotP f j → i = j := by
  have key : ∀ i : Nat, i < 4 → ∃ k : Nat, k < 4 ∧ rotP f i = f k ∧ k = (if i = 3 then 0 else i + 1) := by
    intro i hi
    rcases lt4 hi with rfl | rfl | rfl | rfl
    · exact ⟨1, by omega, rot0 f, rfl⟩
    · exact ⟨2, by omega, rot1 f, rfl⟩
    · exact ⟨3, by omega, rot2 f, rfl⟩
    · exact ⟨0, by omega, rot3 f, rfl⟩
  intro i j hi hj he
  obtain ⟨a, a1, a2, a3⟩ := key i hi
  obtain ⟨b, b1, b2, b3⟩ := key j hj
  have hab := h a b a1 b1 (by rw [← a2, ← b2]; exact he)
  rw [a3, b3] at hab
  split at hab <;> split at hab <;> omega
theorem RS.size {S : St} {A : Arr} (h : RS S A) : 1 ≤ S.2.2.2.2.2.2.2.1.1 ∧ S.2.2.2.2.2.2.2.1.1 ≤ 30 := ⟨h.2.2.2.2.2.1.1, h.2.2.2.2.2.1.2.1⟩
/-- the state is put behind the t saved ones, into a free place -/
theorem saveAt_spec {S : St} {A : Arr} {h : Hs} (hS : RS S A) (hok : okP h.2.2) (hin : ∀ i j : Nat, i < 4 → j < 4 → h.2.2 i = h.2.2 j → i = j) (h0 : 0 ≤ h.2.1) (h3 : h.2.1 < 4) {g : Arr} (hold : ∀ i : Nat, i < h.2.1.toNat → RS (h.1 (h.2.2 i)) (fun j => g (186 * i + j))) (hnew : ∀ j : Nat, j < 186 → g (186 * h.2.1.toNat + j) = A j) : ∃ h' : Hs, X2_saveAt S h = some h' ∧ h'.2.1 = h.2.1 + 1 ∧ RH h' g (h.2.1 + 1) := by
  obtain ⟨T, c1, c2⟩ := X8_copyFrom_spec (h.1 (h.2.2 h.2.1.toNat)) S (by have := hS.size; omega) hS.size.2
  refine ⟨(upS h.1 (h.2.2 h.2.1.toNat) T, h.2.1 + 1, h.2.2), ?_, rfl, hok, hin, by show 0 ≤ h.2.1 + 1; omega, by show h.2.1 + 1 ≤ 4; omega, rfl, fun i hi => ?_⟩
  · unfold X2_saveAt
    rw [if_pos ⟨hok, h0, h3⟩, c1]
    rfl
  · have hi' : i < h.2.1.toNat + 1 := by
      have : i < (h.2.1 + 1).toNat := hi
      omega
    show RS (upS h.1 (h.2.2 h.2.1.toNat) T (h.2.2 i)) _
    unfold upS
    by_cases hq : i = h.2.1.toNat
    · subst hq
      rw [if_pos rfl]
      exact hS.congr hnew c2
    · rw [if_neg (fun he => hq (hin i h.2.1.toNat (by omega) (by omega) he))]
      exact hold i (by omega)
theorem save_sim {S : St} {A : Arr} {h : Hs} {saved : Arr} {sm : Int} (hS : RS S A) (hH : RH h saved sm) : ∃ (h' : Hs) (g : Arr), X2_save S h = some h' ∧ X10_save A saved sm = some (g, h'.2.1) ∧ RH h' g h'.2.1 := by
  obtain ⟨hok, hin, h0, h4, rfl, hs⟩ := hH
  by_cases hlt : h.2.1 < 4
  · obtain ⟨g, a1, a2⟩ := X10_save_spec A saved h.2.1.toNat (by omega)
    have e : ((h.2.1.toNat : Nat) : Int) = h.2.1 := by omega
    rw [e] at a1
    obtain ⟨h', b1, b2, b3⟩ := saveAt_spec hS hok hin h0 hlt (g := g) (fun i hi => (hs i hi).congr (fun j hj => by rw [a2, if_neg (by omega)]) agS.rfl) (fun j hj => by
      rw [a2, if_pos (by omega)]
      congr 1
      omega)
    refine ⟨h', g, ?_, by rw [b2]; exact a1, by rw [b2]; exact b3⟩
    unfold X2_save
    rw [e_LT (by omega) (by omega) (by decide) (by decide), if_pos hlt]
    exact b1
  · have e4 : h.2.1 = 4 := by omega
    obtain ⟨g, a1, a2⟩ := X10_save_spec4 A saved
    obtain ⟨h', b1, b2, b3⟩ := saveAt_spec (h := (h.1, 3, rotP h.2.2)) hS hok.rot (inj.rot hin) (by show (0 : Int) ≤ 3; decide) (by show (3 : Int) < 4; decide) (g := g) (fun i hi => by
      have hi3 : i < 3 := hi
      have hr : rotP h.2.2 i = h.2.2 (i + 1) := by
        rcases (show i = 0 ∨ i = 1 ∨ i = 2 by omega) with rfl | rfl | rfl <;> rfl
      show RS (h.1 (rotP h.2.2 i)) _
      rw [hr]
      exact (hs (i + 1) (by omega)).congr (fun j hj => by
        rw [a2, if_neg (by omega), if_pos (by omega)]
        exact congrArg saved (by omega)) agS.rfl) (fun j hj => by
      show g (186 * 3 + j) = A j
      rw [a2, if_pos (by omega)]
      exact congrArg A (by omega))
    refine ⟨h', g, ?_, ?_, ?_⟩
    · unfold X2_save X2_dropOldest
      rw [e_LT (by omega) (by omega) (by decide) (by decide), if_neg hlt, if_pos hok]
      exact b1
    · rw [e4, b2]
      exact a1
    · rw [b2]
      exact b3
theorem undo_loop (kx : Arr → Option (Int × Arr × Int × Arr)) (saved errors A0 : Arr) (t : Nat) (ht : t ≤ 3) : ∀ (m fuel y : Nat) (g : Arr), y + m = 186 → m < fuel → (∀ j : Nat, g j = if j < y then saved (186 * t + j) else A0 j) → ∃ g' : Arr, X10_undo_L26 kx saved (t : Int) errors fuel (y : Int) g = kx g' ∧ ∀ j : Nat, j < 186 → g' j = saved (186 * t + j) := by
  intro m
  induction m with
  | zero =>
    intro fuel y g h1 h2 h3
    obtain ⟨k, rfl⟩ : ∃ k, fuel = k + 1 := ⟨fuel - 1, by omega⟩
    refine ⟨g, ?_, fun j hj => by rw [h3, if_pos (by omega)]⟩
    rw [X10_undo_L26, e_LT (by omega) (by omega) (by decide) (by decide), if_neg (by omega)]
  | succ m ih =>
    intro fuel y g h1 h2 h3
    obtain ⟨k, rfl⟩ : ∃ k, fuel = k + 1 := ⟨fuel - 1, by omega⟩
    have e1 : (186 * (t : Int) + (y : Int)).toNat = 186 * t + y := by omega
    have e2 : ((y : Int)).toNat = y := by omega
    obtain ⟨g', a1, a2⟩ := ih k (y + 1) (upI g y (saved (186 * t + y))) (by omega) (by omega) (fun j => by
      unfold upI
      by_cases hj : j = y
      · subst hj
        rw [if_pos rfl, if_pos (by omega)]
      · rw [if_neg hj, h3]
        by_cases hq : j < y
        · rw [if_pos hq, if_pos (by omega)]
        · rw [if_neg hq, if_neg (by omega)])
    refine ⟨g', ?_, a2⟩
    rw [X10_undo_L26, e_LT (by omega) (by omega) (by decide) (by decide), if_pos (by omega), e_rd (by omega) (by omega), e_wr (by omega) (by omega), e1, e2]
    exact a1
theorem sim_undo (i : Int) (C : CM) (M : MT) (_ : 0 ≤ i) (_ : i ≤ 2048) (hR : REL i C M) : ∃ (r : Int) (C' : CM) (M' : MT), cm_undo C = some (r, C') ∧ rm_undo M = some (r, M') ∧ REL (i + 4) C' M' := by
  obtain ⟨hS, ⟨hok, hin, h0, h4, hsm, hs⟩, hI, hE⟩ := hR
  by_cases hz : C.2.1.2.1 ≤ 0
  · have ez : C.2.1.2.1 = 0 := by omega
    refine ⟨-5, setE C (bmp C.2.2.2.2.2.2.2 (-5)), (M.1, M.2.1, M.2.2.1, bmp M.2.2.2.1 (-5), M.2.2.2.2), ?_, ?_, hS, ⟨hok, hin, h0, h4, hsm, hs⟩, hI, hE.up (by decide) (by decide)⟩
    · unfold cm_undo X9_undo X2_restore
      rw [e_LE (by omega) (by omega) (by decide) (by decide), if_pos hz, Option.bind_some]
      show brEQ 0 0 _ _ = _
      rw [e_b0, X9_refuse_eq _ (by decide) (by decide)]
      rfl
    · unfold rm_undo X10_undo
      rw [e_EQ (by omega) (by omega) (by decide) (by decide), if_pos (by omega), X10_error_eq _ (by decide) (by decide)]
      rfl
  · have hp : C.2.1.2.1 - 1 < 4 := by omega
    obtain ⟨t, ht⟩ : ∃ t : Nat, C.2.1.2.1 - 1 = (t : Int) := ⟨(C.2.1.2.1 - 1).toNat, by omega⟩
    have ht3 : t ≤ 3 := by omega
    have hRS := hs t (by omega)
    obtain ⟨T, c1, c2⟩ := X8_copyFrom_spec C.1 (C.2.1.1 (C.2.1.2.2 t)) (by have := hRS.size; omega) hRS.size.2
    obtain ⟨g, a1, a2⟩ := undo_loop (fun w5 => some ((t : Int), w5, (t : Int), M.2.2.2.1)) M.2.1 M.2.2.2.1 M.1 t ht3 186 FU 0 M.1 (by omega) (by rw [FU_eq]; omega) (fun j => by rw [if_neg (by omega)])
    have et : (C.2.1.2.1 - 1).toNat = t := by omega
    refine ⟨(t : Int), (T, (C.2.1.1, (t : Int), C.2.1.2.2), C.2.2), (g, M.2.1, (t : Int), M.2.2.2.1, M.2.2.2.2), ?_, ?_, hRS.congr a2 c2, ⟨hok, hin, by show (0 : Int) ≤ (t : Int); omega, by show (t : Int) ≤ 4; omega, rfl, fun k hk => hs k (by have : k < (t : Int).toNat := hk; omega)⟩, hI, hE.mono⟩
    · unfold cm_undo X9_undo X2_restore
      rw [e_LE (by omega) (by omega) (by decide) (by decide), if_neg hz, if_pos ⟨hok, by omega, hp⟩, et, c1]
      show brEQ 1 0 _ _ = _
      rw [e_b1, ht]
    · unfold rm_undo X10_undo
      rw [e_EQ (by omega) (by omega) (by decide) (by decide), if_neg (by omega), show M.2.2.1 - 1 = (t : Int) by omega]
      exact (congrArg (Option.map _) a1).trans rfl
