/-! the start, and all methods together -/
theorem six (P : Nat → Prop) (h0 : P 0) (h1 : P 1) (h2 : P 2) (h3 : P 3) (h4 : P 4) (h5 : P 5) : ∀ f : Nat, f < 6 → P f := by
  intro f hf
  rcases (show f = 0 ∨ f = 1 ∨ f = 2 ∨ f = 3 ∨ f = 4 ∨ f = 5 by omega) with rfl | rfl | rfl | rfl | rfl | rfl <;> assumption
theorem allI_z {j : Nat} (h : (j % 7 ≠ 0 ∨ 84 ≤ j) ∧ (j < 117 ∨ 146 < j ∨ j % 5 ≠ 2) ∧ j ≠ 148) : allI j = 0 := by
  by_cases h9 : j = 149
  · subst h9; rfl
  · unfold allI upI
    rw [if_neg h9, if_neg (by omega), if_neg (by omega), if_neg (by omega), if_neg (by omega), if_neg (by omega), if_neg (by omega), if_neg (by omega), if_neg (by omega), if_neg (by omega), if_neg (by omega), if_neg (by omega), if_neg (by omega), if_neg (by omega), if_neg (by omega), if_neg (by omega), if_neg (by omega), if_neg (by omega), if_neg (by omega), if_neg (by omega)]
    rfl
theorem ini_rel {g6 g4 gT : Arr} (h6 : ∀ j : Nat, j < 6 → g6 j = 1) (hT : ∀ j : Nat, j < 6 → gT j = -1) : REL 0 (iniC g6 g4 gT (0 + 1, upI zA 0 0, upI zA 0 0, upI zA 0 0)) iniM := by
  have a0 : ∀ f : Nat, f < 6 → allI (0 + 7 * f) = 1 := six _ rfl rfl rfl rfl rfl rfl
  have a1 : ∀ f : Nat, f < 6 → allI (42 + 7 * f) = 1 := six _ rfl rfl rfl rfl rfl rfl
  have a2 : ∀ f : Nat, f < 6 → allI (117 + 5 * f) = -1 := six _ rfl rfl rfl rfl rfl rfl
  refine ⟨⟨fun f hf => ?_, fun f hf => ?_, ⟨Int.le_refl _, by show (0 : Int) ≤ 4; decide, rfl, fun f hf => absurd hf (by show ¬ (f < (0 : Int).toNat); omega), fun k hk => absurd hk (by show ¬ (k < (0 : Int).toNat); omega), fun f hf => Or.inl ⟨hT f hf, fun k hk => absurd hk (by show ¬ (k < (0 : Int).toNat); omega)⟩⟩, ⟨rfl, Or.inl rfl⟩, fun f hf => ?_, ⟨Int.le_refl _, by show (0 : Int) + 1 ≤ 30; decide, rfl, fun i hi => ?_, fun i hi => ?_, rfl⟩, fun r r0 r1 => ⟨allI_z (by omega), Int.le_refl _, by show (0 : Int) ≤ 30; decide⟩⟩, ⟨⟨by show 0 < 4; decide, by show 1 < 4; decide, by show 2 < 4; decide, by show 3 < 4; decide⟩, fun i j _ _ h => h, Int.le_refl _, by show (0 : Int) ≤ 4; decide, rfl, fun i hi => absurd hi (by show ¬ (i < (0 : Int).toNat); omega)⟩, ⟨rfl, Int.le_refl _, by show (0 : Int) ≤ 120; decide, fun i hi => absurd hi (by show ¬ (i < (0 : Int).toNat); omega)⟩, fun k hk => ⟨rfl, Int.le_refl _, Int.le_refl _⟩⟩
  · refine ⟨(a0 f hf).trans (h6 f hf).symm, by rw [show (iniC g6 g4 gT (0 + 1, upI zA 0 0, upI zA 0 0, upI zA 0 0)).1.1.1 = g6 from rfl, h6 f hf]; decide, by rw [show (iniC g6 g4 gT (0 + 1, upI zA 0 0, upI zA 0 0, upI zA 0 0)).1.1.1 = g6 from rfl, h6 f hf]; decide, allI_z (by omega), Or.inl rfl, fun k hk => ⟨allI_z (by omega), Int.le_refl _, by show (0 : Int) ≤ 99; decide⟩⟩
  · refine ⟨(a1 f hf).trans (h6 f hf).symm, by rw [show (iniC g6 g4 gT (0 + 1, upI zA 0 0, upI zA 0 0, upI zA 0 0)).1.2.1.1 = g6 from rfl, h6 f hf]; decide, by rw [show (iniC g6 g4 gT (0 + 1, upI zA 0 0, upI zA 0 0, upI zA 0 0)).1.2.1.1 = g6 from rfl, h6 f hf]; decide, allI_z (by omega), Or.inl rfl, fun k hk => ⟨allI_z (by omega), Int.le_refl _, by show (0 : Int) ≤ 99; decide⟩⟩
  · refine ⟨(a2 f hf).trans (hT f hf).symm, by rw [show (iniC g6 g4 gT (0 + 1, upI zA 0 0, upI zA 0 0, upI zA 0 0)).1.2.2.2.2.2.2.1.1 = gT from rfl, hT f hf]; decide, by rw [show (iniC g6 g4 gT (0 + 1, upI zA 0 0, upI zA 0 0, upI zA 0 0)).1.2.2.2.2.2.2.1.1 = gT from rfl, hT f hf]; decide, fun p hp => Or.inr ⟨Int.le_refl _, by show (0 : Int) ≤ 2; decide, allI_z (by omega)⟩⟩
  · have hi' : i < ((0 : Int) + 1).toNat := hi
    have : i = 0 := by omega
    subst this
    exact Or.inl ⟨rfl, Int.le_refl _, by show (0 : Int) ≤ 99; decide, rfl, rfl⟩
  · have hi' : i < ((0 : Int) + 1).toNat := hi
    have : i = 0 := by omega
    subst this
    exact Int.le_refl _
theorem sim_all : SimAll REL := ⟨fun _ _ _ h => h.mono, sim_setOld, sim_setNew, sim_setOldTerm, sim_setNewTerm, sim_map, sim_unmap, sim_setSource, sim_setConstant, sim_isFaithful, sim_allowAdapters, sim_adapterOf, sim_append, sim_clearText, sim_parse, sim_migrate, sim_left, sim_sites, sim_nodes, sim_value, sim_textByte, sim_undo, sim_errorCount, sim_digest⟩
theorem whole_start {p : Program} {e : Env} {s : State} {m : MethodId} {below : List Frame} {meth : Method} {c : Code} (l : Launch) (hflags : l.flags = flags0) {b L : Nat} {xs : Nat → Int32} (hL : L ≤ 2048) (C0 : lw_At p s m meth c b L xs) : W p l e room_1 s m #[Value.ref b] below meth c s.heap [] 0 0 (lw_Z below #[Value.ref b] s) (entryFrame m ([Value.ref b] : List Value).toArray 4) := by
  obtain ⟨g6, a1, a2⟩ := fill_eq 6 (by decide) zA 1
  obtain ⟨g4, b1, b2⟩ := fill_eq 4 (by decide) zA 1
  obtain ⟨gT, c1, c2⟩ := fill_eq 6 (by decide) zA (-1)
  exact whole_start_rel sim_all g6 g4 gT (1, (0 + 1, upI zA 0 0, upI zA 0 0, upI zA 0 0)) a1 b1 c1 (X6_add_eq (0, zA, zA, zA) 0 0 0 (by show (0 : Int) ≤ 0; decide) (by show (0 : Int) < 30; decide)) (ini_rel a2 c2) l hL C0
