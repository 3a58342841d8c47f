abbrev Arr : Type := Nat → Int
abbrev KE : Type := va_G × ClassId × ClassId × ClassId
abbrev kT (K : KE) : List (ClassId × FieldType) := [(K.2.1, .int), (K.2.2.1, .boolean), (K.2.2.2, .object "CallMigrator$State")]
abbrev ash (a : Nat → Nat) (k : Nat) : Nat → Nat := fun i => a (k + i)
def FU : Nat := 1000
abbrev FT : Type := Arr × Arr × Arr
abbrev Mp : Type := Arr × Arr × Arr
abbrev Pg : Type := Int × Arr × Arr × Arr
abbrev In : Type := Arr × Int × Int
abbrev Tx : Type := Arr × Int × Arr × Int
abbrev Ev : Type := Arr × Int
abbrev Mv : Type := Pg × Arr × Arr
abbrev St : Type := FT × FT × FT × Int × Arr × Int × Mp × Pg × Arr
abbrev Hs : Type := (Nat → St) × Int × (Nat → Nat)
abbrev CM : Type := St × Hs × In × Pg × Tx × Ev × Mv × Arr
def c1 (K : KE) (c : Nat) (a : Nat → Nat) (V : FT) : va_W := [(a 0, .inr (1, [ii (c : Int), .ref (a 1), .ref (a 2), .ref (a 3)]))] ++ ([(a 1, .inl (K.2.1, c, .inl (arI V.1)))] ++ ([(a 2, .inl (K.2.1, c, .inl (arI V.2.1)))] ++ ([(a 3, .inl (K.2.1, (5 * c), .inl (arI V.2.2)))])))
theorem c1_ad (K : KE) (c : Nat) (a : Nat → Nat) (V : FT) : (c1 K c a V).map (fun q => q.1) = (List.range 4).map a := rfl
def c4 (K : KE) (a : Nat → Nat) (V : Mp) : va_W := [(a 0, .inr (4, [.ref (a 1), .ref (a 2), .ref (a 3)]))] ++ ([(a 1, .inl (K.2.1, 6, .inl (arI V.1)))] ++ ([(a 2, .inl (K.2.1, 24, .inl (arI V.2.1)))] ++ ([(a 3, .inl (K.2.1, 24, .inl (arI V.2.2)))])))
theorem c4_ad (K : KE) (a : Nat → Nat) (V : Mp) : (c4 K a V).map (fun q => q.1) = (List.range 4).map a := rfl
def c6 (K : KE) (a : Nat → Nat) (V : Pg) : va_W := [(a 0, .inr (6, [ii V.1, .ref (a 1), .ref (a 2), .ref (a 3)]))] ++ ([(a 1, .inl (K.2.1, 30, .inl (arI V.2.1)))] ++ ([(a 2, .inl (K.2.1, 30, .inl (arI V.2.2.1)))] ++ ([(a 3, .inl (K.2.1, 30, .inl (arI V.2.2.2)))])))
theorem c6_ad (K : KE) (a : Nat → Nat) (V : Pg) : (c6 K a V).map (fun q => q.1) = (List.range 4).map a := rfl
def c3 (K : KE) (a : Nat → Nat) (V : In) : va_W := [(a 0, .inr (3, [.ref (a 1), ii V.2.1, ii V.2.2]))] ++ ([(a 1, .inl (K.2.1, 120, .inl (arI V.1)))])
theorem c3_ad (K : KE) (a : Nat → Nat) (V : In) : (c3 K a V).map (fun q => q.1) = (List.range 2).map a := rfl
def c7 (K : KE) (a : Nat → Nat) (V : Tx) : va_W := [(a 0, .inr (7, [.ref (a 1), ii V.2.1, .ref (a 2), ii V.2.2.2]))] ++ ([(a 1, .inl (K.2.1, 120, .inl (arI V.1)))] ++ ([(a 2, .inl (K.2.1, 30, .inl (arI V.2.2.1)))]))
theorem c7_ad (K : KE) (a : Nat → Nat) (V : Tx) : (c7 K a V).map (fun q => q.1) = (List.range 3).map a := rfl
def c0 (K : KE) (a : Nat → Nat) (V : Ev) : va_W := [(a 0, .inr (0, [.ref (a 1), ii V.2]))] ++ ([(a 1, .inl (K.2.1, 30, .inl (arI V.1)))])
theorem c0_ad (K : KE) (a : Nat → Nat) (V : Ev) : (c0 K a V).map (fun q => q.1) = (List.range 2).map a := rfl
def c5 (K : KE) (a : Nat → Nat) (V : Mv) : va_W := [(a 0, .inr (5, [.ref (ash a 1 0), .ref (a 5), .ref (a 6)]))] ++ (c6 K (ash a 1) V.1 ++ ([(a 5, .inl (K.2.1, 4, .inl (arI V.2.1)))] ++ ([(a 6, .inl (K.2.2.1, 3, .inl (arI V.2.2)))])))
theorem c5_ad (K : KE) (a : Nat → Nat) (V : Mv) : (c5 K a V).map (fun q => q.1) = (List.range 7).map a := rfl
def c8 (K : KE) (a : Nat → Nat) (V : St) : va_W := [(a 0, .inr (8, [.ref (ash a 1 0), .ref (ash a 5 0), .ref (ash a 9 0), ii V.2.2.2.1, .ref (a 13), ii V.2.2.2.2.2.1, .ref (ash a 14 0), .ref (ash a 18 0), .ref (a 22)]))] ++ (c1 K 6 (ash a 1) V.1 ++ (c1 K 6 (ash a 5) V.2.1 ++ (c1 K 4 (ash a 9) V.2.2.1 ++ ([(a 13, .inl (K.2.1, 6, .inl (arI V.2.2.2.2.1)))] ++ (c4 K (ash a 14) V.2.2.2.2.2.2.1 ++ (c6 K (ash a 18) V.2.2.2.2.2.2.2.1 ++ ([(a 22, .inl (K.2.1, 8, .inl (arI V.2.2.2.2.2.2.2.2)))])))))))
theorem c8_ad (K : KE) (a : Nat → Nat) (V : St) : (c8 K a V).map (fun q => q.1) = (List.range 23).map a := rfl
def c2 (K : KE) (a : Nat → Nat) (V : Hs) : va_W := [(a 0, .inr (2, [.ref (a 1), ii V.2.1]))] ++ ([(a 1, .inl (K.2.2.2, 4, .inr (.inr (.inr (.inr (fun i => some (ash a (2 + 23 * V.2.2 i) 0))))))) ] ++ (c8 K (ash a 2) (V.1 0) ++ (c8 K (ash a 25) (V.1 1) ++ (c8 K (ash a 48) (V.1 2) ++ c8 K (ash a 71) (V.1 3)))))
theorem c2_ad (K : KE) (a : Nat → Nat) (V : Hs) : (c2 K a V).map (fun q => q.1) = (List.range 94).map a := rfl
def c9 (K : KE) (a : Nat → Nat) (V : CM) : va_W := [(a 0, .inr (9, [.ref (ash a 2 0), .ref (ash a 43 0), .ref (ash a 25 0), .ref (ash a 27 0), .ref (ash a 31 0), .ref (ash a 34 0), .ref (ash a 36 0), .ref (a 1)]))] ++ ([(a 1, .inl (K.2.1, 4, .inl (arI V.2.2.2.2.2.2.2)))] ++ (c8 K (ash a 2) V.1 ++ (c3 K (ash a 25) V.2.2.1 ++ (c6 K (ash a 27) V.2.2.2.1 ++ (c7 K (ash a 31) V.2.2.2.2.1 ++ (c0 K (ash a 34) V.2.2.2.2.2.1 ++ (c5 K (ash a 36) V.2.2.2.2.2.2.1 ++ (c2 K (ash a 43) V.2.1))))))))
def c10 (K : KE) (a : Nat → Nat) (all : Arr) (saved : Arr) (savedMany : Int) (errors : Arr) (text : Arr) (textLong : Int) (rdd : Arr) (readMany : Int) (waits : Arr) (opn : Int) (place : Int) (built : Arr) (builtMany : Int) (parts : Arr) (partMany : Int) (taken : Arr) (calls : Arr) (lacks : Arr) (callMany : Int) (total : Int) (values : Arr) (told : Arr) (toldLong : Int) : va_W := [(a 0, .inr (10, [.ref (a 1), .ref (a 2), ii savedMany, .ref (a 3), .ref (a 4), ii textLong, .ref (a 5), ii readMany, .ref (a 6), ii opn, ii place, .ref (a 7), ii builtMany, .ref (a 8), ii partMany, .ref (a 9), .ref (a 10), .ref (a 11), ii callMany, ii total, .ref (a 12), .ref (a 13), ii toldLong])), (a 1, .inl (K.2.1, 186, .inl (arI all))), (a 2, .inl (K.2.1, 744, .inl (arI saved))), (a 3, .inl (K.2.1, 4, .inl (arI errors))), (a 4, .inl (K.2.1, 120, .inl (arI text))), (a 5, .inl (K.2.1, 30, .inl (arI rdd))), (a 6, .inl (K.2.1, 30, .inl (arI waits))), (a 7, .inl (K.2.1, 30, .inl (arI built))), (a 8, .inl (K.2.1, 31, .inl (arI parts))), (a 9, .inl (K.2.1, 30, .inl (arI taken))), (a 10, .inl (K.2.1, 30, .inl (arI calls))), (a 11, .inl (K.2.1, 30, .inl (arI lacks))), (a 12, .inl (K.2.1, 30, .inl (arI values))), (a 13, .inl (K.2.1, 200, .inl (arI told)))]
theorem c10_ad (K : KE) (a : Nat → Nat) (all : Arr) (saved : Arr) (savedMany : Int) (errors : Arr) (text : Arr) (textLong : Int) (rdd : Arr) (readMany : Int) (waits : Arr) (opn : Int) (place : Int) (built : Arr) (builtMany : Int) (parts : Arr) (partMany : Int) (taken : Arr) (calls : Arr) (lacks : Arr) (callMany : Int) (total : Int) (values : Arr) (told : Arr) (toldLong : Int) : (c10 K a all saved savedMany errors text textLong rdd readMany waits opn place built builtMany parts partMany taken calls lacks callMany total values told toldLong).map (fun q => q.1) = (List.range 14).map a := rfl
