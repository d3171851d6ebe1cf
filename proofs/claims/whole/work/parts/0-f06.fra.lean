section FRA
def wX3_possible_80_1 : List (Nat × Nat) × List Nat × List Nat × List Nat := ([], [21, 22], [], [])
set_option maxHeartbeats 4000000 in
set_option maxRecDepth 20000 in
theorem fbX3_possible_80_1_86 (x : XT) (k4 : ST → Int32 → Int32 → Option (Int32 × ST)) (ak4 : ∀ (S : ST) (v2 : Int32) (v3 : Int32) (r : Int32) (S' : ST), k4 S v2 v3 = some (r, S') → Agr wX3_possible_80_1 S S') (S : ST) (v3 : Int32) (t0 : Int32) (t1 : Int32) (r : Int32) (S' : ST) (hm : bfX3_possible_80_1_86 x k4 S v3 t0 t1 = some (r, S')) : Agr wX3_possible_80_1 S S' := by
    unfold bfX3_possible_80_1_86 at hm
    exact Agr.tr Agr.rf (ak4 S (t0 ||| t1) (v3 + 1) _ _ hm)
set_option maxHeartbeats 4000000 in
set_option maxRecDepth 20000 in
theorem fbX3_possible_80_1_73 (x : XT) (k4 : ST → Int32 → Int32 → Option (Int32 × ST)) (ak4 : ∀ (S : ST) (v2 : Int32) (v3 : Int32) (r : Int32) (S' : ST), k4 S v2 v3 = some (r, S') → Agr wX3_possible_80_1 S S') (S : ST) (v2 : Int32) (v3 : Int32) (v4 : Int32) (r : Int32) (S' : ST) (hm : bfX3_possible_80_1_73 x k4 S v2 v3 v4 = some (r, S')) : Agr wX3_possible_80_1 S S' := by
    unfold bfX3_possible_80_1_73 at hm
    by_cases c1 : v4 = 0
    · rw [if_pos c1] at hm
      exact Agr.tr Agr.rf (fbX3_possible_80_1_86 x k4 ak4 S v3 v2 0 _ _ hm)
    · rw [if_neg c1] at hm
      exact Agr.tr Agr.rf (fbX3_possible_80_1_86 x k4 ak4 S v3 v2 (1 <<< (v3 &&& 31)) _ _ hm)
set_option maxHeartbeats 4000000 in
set_option maxRecDepth 20000 in
theorem fbX3_possible_80_1_65 (x : XT) (k4 : ST → Int32 → Int32 → Option (Int32 × ST)) (ak4 : ∀ (S : ST) (v2 : Int32) (v3 : Int32) (r : Int32) (S' : ST), k4 S v2 v3 = some (r, S') → Agr wX3_possible_80_1 S S') (k16 : ST → Int32 → Int32 → Int32 → Int32 → Option (Int32 × ST)) (ak16 : ∀ (S : ST) (v2 : Int32) (v3 : Int32) (v4 : Int32) (v5 : Int32) (r : Int32) (S' : ST), k16 S v2 v3 v4 v5 = some (r, S') → Agr wX3_possible_80_1 S S') (S : ST) (v2 : Int32) (v3 : Int32) (v5 : Int32) (t0 : Int32) (r : Int32) (S' : ST) (hm : bfX3_possible_80_1_65 x k4 k16 S v2 v3 v5 t0 = some (r, S')) : Agr wX3_possible_80_1 S S' := by
    unfold bfX3_possible_80_1_65 at hm
    exact Agr.tr Agr.rf (ak16 S v2 v3 t0 (v5 + 1) _ _ hm)
set_option maxHeartbeats 4000000 in
set_option maxRecDepth 20000 in
theorem fbX3_possible_80_1_16 (x : XT) (k4 : ST → Int32 → Int32 → Option (Int32 × ST)) (ak4 : ∀ (S : ST) (v2 : Int32) (v3 : Int32) (r : Int32) (S' : ST), k4 S v2 v3 = some (r, S') → Agr wX3_possible_80_1 S S') (k16 : ST → Int32 → Int32 → Int32 → Int32 → Option (Int32 × ST)) (ak16 : ∀ (S : ST) (v2 : Int32) (v3 : Int32) (v4 : Int32) (v5 : Int32) (r : Int32) (S' : ST), k16 S v2 v3 v4 v5 = some (r, S') → Agr wX3_possible_80_1 S S') (S : ST) (v2 : Int32) (v3 : Int32) (v4 : Int32) (v5 : Int32) (r : Int32) (S' : ST) (hm : bfX3_possible_80_1_16 x k4 k16 S v2 v3 v4 v5 = some (r, S')) : Agr wX3_possible_80_1 S S' := by
    unfold bfX3_possible_80_1_16 at hm
    by_cases c1 : (S.1 1 11) ≤ v5
    · rw [if_pos c1] at hm
      exact Agr.tr Agr.rf (fbX3_possible_80_1_73 x k4 ak4 S v2 v3 v4 _ _ hm)
    · rw [if_neg c1] at hm
      by_cases c2 : v4 = 0
      · rw [if_pos c2] at hm
        exact Agr.tr Agr.rf (fbX3_possible_80_1_73 x k4 ak4 S v2 v3 v4 _ _ hm)
      · rw [if_neg c2] at hm
        obtain ⟨o3, hm⟩ := oblk hm
        obtain ⟨o4, hm⟩ := oblk hm
        cases h5 : gfX3_comesOut_80_1 x S v3 (S.2.1 11 v5.toNatClampNeg) (S.2.1 12 v5.toNatClampNeg) with
        | none => rw [h5] at hm; cases hm
        | some q6 =>
          obtain ⟨r7, S8⟩ := q6
          rw [h5] at hm
          dsimp only at hm
          have a_S8 : Agr wX3_possible_80_1 S S8 := Agr.tr Agr.rf (Agr.sub (frX3_comesOut_80_1 x S v3 (S.2.1 11 v5.toNatClampNeg) (S.2.1 12 v5.toNatClampNeg) _ _ h5) (by decide))
          obtain ⟨o9, hm⟩ := oblk hm
          by_cases c10 : ¬ r7 = (S8.2.1 13 v5.toNatClampNeg)
          · rw [if_pos c10] at hm
            exact Agr.tr a_S8 (fbX3_possible_80_1_65 x k4 ak4 k16 ak16 S8 v2 v3 v5 0 _ _ hm)
          · rw [if_neg c10] at hm
            exact Agr.tr a_S8 (fbX3_possible_80_1_65 x k4 ak4 k16 ak16 S8 v2 v3 v5 1 _ _ hm)
theorem flX3_possible_80_1_16 (x : XT) (k4 : ST → Int32 → Int32 → Option (Int32 × ST)) (ak4 : ∀ (S : ST) (v2 : Int32) (v3 : Int32) (r : Int32) (S' : ST), k4 S v2 v3 = some (r, S') → Agr wX3_possible_80_1 S S') : ∀ (n : Nat) (S : ST) (v2 : Int32) (v3 : Int32) (v4 : Int32) (v5 : Int32) (r : Int32) (S' : ST), lfX3_possible_80_1_16 x k4 n S v2 v3 v4 v5 = some (r, S') → Agr wX3_possible_80_1 S S'
  | 0, _, _, _, _, _, _, _, hm => by cases hm
  | n + 1, S, v2, v3, v4, v5, r, S', hm => fbX3_possible_80_1_16 x k4 ak4 (lfX3_possible_80_1_16 x k4 n) (flX3_possible_80_1_16 x k4 ak4 n) S v2 v3 v4 v5 r S' hm
set_option maxHeartbeats 4000000 in
set_option maxRecDepth 20000 in
theorem fbX3_possible_80_1_4 (x : XT) (k4 : ST → Int32 → Int32 → Option (Int32 × ST)) (ak4 : ∀ (S : ST) (v2 : Int32) (v3 : Int32) (r : Int32) (S' : ST), k4 S v2 v3 = some (r, S') → Agr wX3_possible_80_1 S S') (S : ST) (v2 : Int32) (v3 : Int32) (r : Int32) (S' : ST) (hm : bfX3_possible_80_1_4 x k4 S v2 v3 = some (r, S')) : Agr wX3_possible_80_1 S S' := by
    unfold bfX3_possible_80_1_4 at hm
    by_cases c1 : 8 ≤ v3
    · rw [if_pos c1] at hm
      cases hm
      exact Agr.rf
    · rw [if_neg c1] at hm
      exact Agr.tr Agr.rf (flX3_possible_80_1_16 x k4 ak4 20000 S v2 v3 1 0 _ _ hm)
theorem flX3_possible_80_1_4 (x : XT)  : ∀ (n : Nat) (S : ST) (v2 : Int32) (v3 : Int32) (r : Int32) (S' : ST), lfX3_possible_80_1_4 x  n S v2 v3 = some (r, S') → Agr wX3_possible_80_1 S S'
  | 0, _, _, _, _, _, hm => by cases hm
  | n + 1, S, v2, v3, r, S', hm => fbX3_possible_80_1_4 x (lfX3_possible_80_1_4 x  n) (flX3_possible_80_1_4 x  n) S v2 v3 r S' hm
set_option maxHeartbeats 4000000 in
set_option maxRecDepth 20000 in
theorem fbX3_possible_80_1_0 (x : XT)  (S : ST)  (r : Int32) (S' : ST) (hm : bfX3_possible_80_1_0 x  S  = some (r, S')) : Agr wX3_possible_80_1 S S' := by
    unfold bfX3_possible_80_1_0 at hm
    exact Agr.tr Agr.rf (flX3_possible_80_1_4 x  20000 S 0 0 _ _ hm)
theorem frX3_possible_80_1 (x : XT) (S : ST)  (r : Int32) (S' : ST) (hm : gfX3_possible_80_1 x S  = some (r, S')) : Agr wX3_possible_80_1 S S' := fbX3_possible_80_1_0 x S  r S' hm
def wX10_kinds_0 : List (Nat × Nat) × List Nat × List Nat × List Nat := ([], [21, 22], [], [])
set_option maxHeartbeats 4000000 in
set_option maxRecDepth 20000 in
theorem fbX10_kinds_0_0 (x : XT)  (S : ST)  (r : Int32) (S' : ST) (hm : bfX10_kinds_0_0 x  S  = some (r, S')) : Agr wX10_kinds_0 S S' := by
    unfold bfX10_kinds_0_0 at hm
    cases h1 : gfX3_possible_80_1 x S with
    | none => rw [h1] at hm; cases hm
    | some q2 =>
      obtain ⟨r3, S4⟩ := q2
      rw [h1] at hm
      dsimp only at hm
      have a_S4 : Agr wX10_kinds_0 S S4 := Agr.tr Agr.rf (Agr.sub (frX3_possible_80_1 x S _ _ h1) (by decide))
      cases hm
      exact a_S4
theorem frX10_kinds_0 (x : XT) (S : ST)  (r : Int32) (S' : ST) (hm : gfX10_kinds_0 x S  = some (r, S')) : Agr wX10_kinds_0 S S' := fbX10_kinds_0_0 x S  r S' hm
def wX3_mostAlike_80 : List (Nat × Nat) × List Nat × List Nat × List Nat := ([], [], [], [])
set_option maxHeartbeats 4000000 in
set_option maxRecDepth 20000 in
theorem fbX3_mostAlike_80_55 (x : XT) (k4 : ST → Int32 → Int32 → Option (Int32 × ST)) (ak4 : ∀ (S : ST) (v1 : Int32) (v2 : Int32) (r : Int32) (S' : ST), k4 S v1 v2 = some (r, S') → Agr wX3_mostAlike_80 S S') (k15 : ST → Int32 → Int32 → Int32 → Int32 → Option (Int32 × ST)) (ak15 : ∀ (S : ST) (v1 : Int32) (v2 : Int32) (v3 : Int32) (v4 : Int32) (r : Int32) (S' : ST), k15 S v1 v2 v3 v4 = some (r, S') → Agr wX3_mostAlike_80 S S') (S : ST) (v1 : Int32) (v2 : Int32) (v4 : Int32) (t0 : Int32) (t1 : Int32) (r : Int32) (S' : ST) (hm : bfX3_mostAlike_80_55 x k4 k15 S v1 v2 v4 t0 t1 = some (r, S')) : Agr wX3_mostAlike_80 S S' := by
    unfold bfX3_mostAlike_80_55 at hm
    exact Agr.tr Agr.rf (ak15 S v1 v2 (t0 + t1) (v4 + 1) _ _ hm)
set_option maxHeartbeats 4000000 in
set_option maxRecDepth 20000 in
theorem fbX3_mostAlike_80_54 (x : XT) (k4 : ST → Int32 → Int32 → Option (Int32 × ST)) (ak4 : ∀ (S : ST) (v1 : Int32) (v2 : Int32) (r : Int32) (S' : ST), k4 S v1 v2 = some (r, S') → Agr wX3_mostAlike_80 S S') (k15 : ST → Int32 → Int32 → Int32 → Int32 → Option (Int32 × ST)) (ak15 : ∀ (S : ST) (v1 : Int32) (v2 : Int32) (v3 : Int32) (v4 : Int32) (r : Int32) (S' : ST), k15 S v1 v2 v3 v4 = some (r, S') → Agr wX3_mostAlike_80 S S') (S : ST) (v1 : Int32) (v2 : Int32) (v4 : Int32) (t0 : Int32) (r : Int32) (S' : ST) (hm : bfX3_mostAlike_80_54 x k4 k15 S v1 v2 v4 t0 = some (r, S')) : Agr wX3_mostAlike_80 S S' := by
    unfold bfX3_mostAlike_80_54 at hm
    exact Agr.tr Agr.rf (fbX3_mostAlike_80_55 x k4 ak4 k15 ak15 S v1 v2 v4 t0 0 _ _ hm)
set_option maxHeartbeats 4000000 in
set_option maxRecDepth 20000 in
theorem fbX3_mostAlike_80_15 (x : XT) (k4 : ST → Int32 → Int32 → Option (Int32 × ST)) (ak4 : ∀ (S : ST) (v1 : Int32) (v2 : Int32) (r : Int32) (S' : ST), k4 S v1 v2 = some (r, S') → Agr wX3_mostAlike_80 S S') (k15 : ST → Int32 → Int32 → Int32 → Int32 → Option (Int32 × ST)) (ak15 : ∀ (S : ST) (v1 : Int32) (v2 : Int32) (v3 : Int32) (v4 : Int32) (r : Int32) (S' : ST), k15 S v1 v2 v3 v4 = some (r, S') → Agr wX3_mostAlike_80 S S') (S : ST) (v1 : Int32) (v2 : Int32) (v3 : Int32) (v4 : Int32) (r : Int32) (S' : ST) (hm : bfX3_mostAlike_80_15 x k4 k15 S v1 v2 v3 v4 = some (r, S')) : Agr wX3_mostAlike_80 S S' := by
    unfold bfX3_mostAlike_80_15 at hm
    by_cases c1 : 8 ≤ v4
    · rw [if_pos c1] at hm
      exact Agr.tr Agr.rf (ak4 S (if v1 < v3 then v3 else v1) (v2 + 1) _ _ hm)
    · rw [if_neg c1] at hm
      obtain ⟨o2, hm⟩ := oblk hm
      obtain ⟨o3, hm⟩ := oblk hm
      by_cases c4 : ¬ (S.2.1 81 v4.toNatClampNeg) = (S.2.1 81 v2.toNatClampNeg)
      · rw [if_pos c4] at hm
        exact Agr.tr Agr.rf (fbX3_mostAlike_80_54 x k4 ak4 k15 ak15 S v1 v2 v4 v3 _ _ hm)
      · rw [if_neg c4] at hm
        obtain ⟨o5, hm⟩ := oblk hm
        by_cases c6 : (S.2.1 81 v2.toNatClampNeg) = (-2)
        · rw [if_pos c6] at hm
          exact Agr.tr Agr.rf (fbX3_mostAlike_80_54 x k4 ak4 k15 ak15 S v1 v2 v4 v3 _ _ hm)
        · rw [if_neg c6] at hm
          exact Agr.tr Agr.rf (fbX3_mostAlike_80_55 x k4 ak4 k15 ak15 S v1 v2 v4 v3 1 _ _ hm)
theorem flX3_mostAlike_80_15 (x : XT) (k4 : ST → Int32 → Int32 → Option (Int32 × ST)) (ak4 : ∀ (S : ST) (v1 : Int32) (v2 : Int32) (r : Int32) (S' : ST), k4 S v1 v2 = some (r, S') → Agr wX3_mostAlike_80 S S') : ∀ (n : Nat) (S : ST) (v1 : Int32) (v2 : Int32) (v3 : Int32) (v4 : Int32) (r : Int32) (S' : ST), lfX3_mostAlike_80_15 x k4 n S v1 v2 v3 v4 = some (r, S') → Agr wX3_mostAlike_80 S S'
  | 0, _, _, _, _, _, _, _, hm => by cases hm
  | n + 1, S, v1, v2, v3, v4, r, S', hm => fbX3_mostAlike_80_15 x k4 ak4 (lfX3_mostAlike_80_15 x k4 n) (flX3_mostAlike_80_15 x k4 ak4 n) S v1 v2 v3 v4 r S' hm
set_option maxHeartbeats 4000000 in
set_option maxRecDepth 20000 in
theorem fbX3_mostAlike_80_4 (x : XT) (k4 : ST → Int32 → Int32 → Option (Int32 × ST)) (ak4 : ∀ (S : ST) (v1 : Int32) (v2 : Int32) (r : Int32) (S' : ST), k4 S v1 v2 = some (r, S') → Agr wX3_mostAlike_80 S S') (S : ST) (v1 : Int32) (v2 : Int32) (r : Int32) (S' : ST) (hm : bfX3_mostAlike_80_4 x k4 S v1 v2 = some (r, S')) : Agr wX3_mostAlike_80 S S' := by
    unfold bfX3_mostAlike_80_4 at hm
    by_cases c1 : 8 ≤ v2
    · rw [if_pos c1] at hm
      cases hm
      exact Agr.rf
    · rw [if_neg c1] at hm
      exact Agr.tr Agr.rf (flX3_mostAlike_80_15 x k4 ak4 20000 S v1 v2 0 0 _ _ hm)
theorem flX3_mostAlike_80_4 (x : XT)  : ∀ (n : Nat) (S : ST) (v1 : Int32) (v2 : Int32) (r : Int32) (S' : ST), lfX3_mostAlike_80_4 x  n S v1 v2 = some (r, S') → Agr wX3_mostAlike_80 S S'
  | 0, _, _, _, _, _, hm => by cases hm
  | n + 1, S, v1, v2, r, S', hm => fbX3_mostAlike_80_4 x (lfX3_mostAlike_80_4 x  n) (flX3_mostAlike_80_4 x  n) S v1 v2 r S' hm
set_option maxHeartbeats 4000000 in
set_option maxRecDepth 20000 in
theorem fbX3_mostAlike_80_0 (x : XT)  (S : ST)  (r : Int32) (S' : ST) (hm : bfX3_mostAlike_80_0 x  S  = some (r, S')) : Agr wX3_mostAlike_80 S S' := by
    unfold bfX3_mostAlike_80_0 at hm
    exact Agr.tr Agr.rf (flX3_mostAlike_80_4 x  20000 S 0 0 _ _ hm)
theorem frX3_mostAlike_80 (x : XT) (S : ST)  (r : Int32) (S' : ST) (hm : gfX3_mostAlike_80 x S  = some (r, S')) : Agr wX3_mostAlike_80 S S' := fbX3_mostAlike_80_0 x S  r S' hm
def wX3_bestTrial_80_1 : List (Nat × Nat) × List Nat × List Nat × List Nat := ([], [21, 22, 81], [], [])
set_option maxHeartbeats 4000000 in
set_option maxRecDepth 20000 in
theorem fbX3_bestTrial_80_1_118 (x : XT)  (S : ST) (t0 : Int32) (r : Int32) (S' : ST) (hm : bfX3_bestTrial_80_1_118 x  S t0 = some (r, S')) : Agr wX3_bestTrial_80_1 S S' := by
    unfold bfX3_bestTrial_80_1_118 at hm
    cases hm
    exact Agr.rf
set_option maxHeartbeats 4000000 in
set_option maxRecDepth 20000 in
theorem fbX3_bestTrial_80_1_101 (x : XT) (k24 : ST → Int32 → Int32 → Int32 → Int32 → Int32 → Int32 → Option (Int32 × ST)) (ak24 : ∀ (S : ST) (v2 : Int32) (v3 : Int32) (v4 : Int32) (v5 : Int32) (v6 : Int32) (v7 : Int32) (r : Int32) (S' : ST), k24 S v2 v3 v4 v5 v6 v7 = some (r, S') → Agr wX3_bestTrial_80_1 S S') (S : ST) (v2 : Int32) (v3 : Int32) (v4 : Int32) (v5 : Int32) (v6 : Int32) (v7 : Int32) (r : Int32) (S' : ST) (hm : bfX3_bestTrial_80_1_101 x k24 S v2 v3 v4 v5 v6 v7 = some (r, S')) : Agr wX3_bestTrial_80_1 S S' := by
    unfold bfX3_bestTrial_80_1_101 at hm
    exact Agr.tr Agr.rf (ak24 S v2 v3 v4 v5 v6 (v7 + 1) _ _ hm)
set_option maxHeartbeats 4000000 in
set_option maxRecDepth 20000 in
theorem fbX3_bestTrial_80_1_73 (x : XT) (k24 : ST → Int32 → Int32 → Int32 → Int32 → Int32 → Int32 → Option (Int32 × ST)) (ak24 : ∀ (S : ST) (v2 : Int32) (v3 : Int32) (v4 : Int32) (v5 : Int32) (v6 : Int32) (v7 : Int32) (r : Int32) (S' : ST), k24 S v2 v3 v4 v5 v6 v7 = some (r, S') → Agr wX3_bestTrial_80_1 S S') (k34 : ST → Int32 → Int32 → Int32 → Int32 → Int32 → Int32 → Int32 → Option (Int32 × ST)) (ak34 : ∀ (S : ST) (v2 : Int32) (v3 : Int32) (v4 : Int32) (v5 : Int32) (v6 : Int32) (v7 : Int32) (v8 : Int32) (r : Int32) (S' : ST), k34 S v2 v3 v4 v5 v6 v7 v8 = some (r, S') → Agr wX3_bestTrial_80_1 S S') (S : ST) (v2 : Int32) (v3 : Int32) (v4 : Int32) (v5 : Int32) (v6 : Int32) (v7 : Int32) (v8 : Int32) (t1 : Int32) (t2 : Int32) (r : Int32) (S' : ST) (hm : bfX3_bestTrial_80_1_73 x k24 k34 S v2 v3 v4 v5 v6 v7 v8 t1 t2 = some (r, S')) : Agr wX3_bestTrial_80_1 S S' := by
    unfold bfX3_bestTrial_80_1_73 at hm
    obtain ⟨o1, hm⟩ := oblk hm
    exact Agr.tr (Agr.i Agr.rf 81 t1.toNatClampNeg t2 (by decide)) (ak34 (S.1, (u2 S.2.1 81 t1.toNatClampNeg t2), S.2.2.1, S.2.2.2) v2 v3 v4 v5 v6 v7 (v8 + 1) _ _ hm)
set_option maxHeartbeats 4000000 in
set_option maxRecDepth 20000 in
theorem fbX3_bestTrial_80_1_34 (x : XT) (k24 : ST → Int32 → Int32 → Int32 → Int32 → Int32 → Int32 → Option (Int32 × ST)) (ak24 : ∀ (S : ST) (v2 : Int32) (v3 : Int32) (v4 : Int32) (v5 : Int32) (v6 : Int32) (v7 : Int32) (r : Int32) (S' : ST), k24 S v2 v3 v4 v5 v6 v7 = some (r, S') → Agr wX3_bestTrial_80_1 S S') (k34 : ST → Int32 → Int32 → Int32 → Int32 → Int32 → Int32 → Int32 → Option (Int32 × ST)) (ak34 : ∀ (S : ST) (v2 : Int32) (v3 : Int32) (v4 : Int32) (v5 : Int32) (v6 : Int32) (v7 : Int32) (v8 : Int32) (r : Int32) (S' : ST), k34 S v2 v3 v4 v5 v6 v7 v8 = some (r, S') → Agr wX3_bestTrial_80_1 S S') (S : ST) (v2 : Int32) (v3 : Int32) (v4 : Int32) (v5 : Int32) (v6 : Int32) (v7 : Int32) (v8 : Int32) (r : Int32) (S' : ST) (hm : bfX3_bestTrial_80_1_34 x k24 k34 S v2 v3 v4 v5 v6 v7 v8 = some (r, S')) : Agr wX3_bestTrial_80_1 S S' := by
    unfold bfX3_bestTrial_80_1_34 at hm
    by_cases c1 : 8 ≤ v8
    · rw [if_pos c1] at hm
      cases h2 : gfX3_mostAlike_80 x S with
      | none => rw [h2] at hm; cases hm
      | some q3 =>
        obtain ⟨r4, S5⟩ := q3
        rw [h2] at hm
        dsimp only at hm
        have a_S5 : Agr wX3_bestTrial_80_1 S S5 := Agr.tr Agr.rf (Agr.sub (frX3_mostAlike_80 x S _ _ h2) (by decide))
        by_cases c6 : v6 ≤ r4
        · rw [if_pos c6] at hm
          exact Agr.tr a_S5 (fbX3_bestTrial_80_1_101 x k24 ak24 S5 v2 v3 v4 v5 v6 v7 _ _ hm)
        · rw [if_neg c6] at hm
          exact Agr.tr a_S5 (fbX3_bestTrial_80_1_101 x k24 ak24 S5 v2 v3 v4 v7 r4 v7 _ _ hm)
    · rw [if_neg c1] at hm
      by_cases c7 : ¬ ((v4 >>> (v8 &&& 31)) &&& 1) = 1
      · rw [if_pos c7] at hm
        exact Agr.tr Agr.rf (fbX3_bestTrial_80_1_73 x k24 ak24 k34 ak34 S v2 v3 v4 v5 v6 v7 v8 v8 (-2) _ _ hm)
      · rw [if_neg c7] at hm
        cases h8 : gfX3_comesOut_80_1 x S v8 v2 v7 with
        | none => rw [h8] at hm; cases hm
        | some q9 =>
          obtain ⟨r10, S11⟩ := q9
          rw [h8] at hm
          dsimp only at hm
          have a_S11 : Agr wX3_bestTrial_80_1 S S11 := Agr.tr Agr.rf (Agr.sub (frX3_comesOut_80_1 x S v8 v2 v7 _ _ h8) (by decide))
          exact Agr.tr a_S11 (fbX3_bestTrial_80_1_73 x k24 ak24 k34 ak34 S11 v2 v3 v4 v5 v6 v7 v8 v8 r10 _ _ hm)
theorem flX3_bestTrial_80_1_34 (x : XT) (k24 : ST → Int32 → Int32 → Int32 → Int32 → Int32 → Int32 → Option (Int32 × ST)) (ak24 : ∀ (S : ST) (v2 : Int32) (v3 : Int32) (v4 : Int32) (v5 : Int32) (v6 : Int32) (v7 : Int32) (r : Int32) (S' : ST), k24 S v2 v3 v4 v5 v6 v7 = some (r, S') → Agr wX3_bestTrial_80_1 S S') : ∀ (n : Nat) (S : ST) (v2 : Int32) (v3 : Int32) (v4 : Int32) (v5 : Int32) (v6 : Int32) (v7 : Int32) (v8 : Int32) (r : Int32) (S' : ST), lfX3_bestTrial_80_1_34 x k24 n S v2 v3 v4 v5 v6 v7 v8 = some (r, S') → Agr wX3_bestTrial_80_1 S S'
  | 0, _, _, _, _, _, _, _, _, _, _, hm => by cases hm
  | n + 1, S, v2, v3, v4, v5, v6, v7, v8, r, S', hm => fbX3_bestTrial_80_1_34 x k24 ak24 (lfX3_bestTrial_80_1_34 x k24 n) (flX3_bestTrial_80_1_34 x k24 ak24 n) S v2 v3 v4 v5 v6 v7 v8 r S' hm
set_option maxHeartbeats 4000000 in
set_option maxRecDepth 20000 in
theorem fbX3_bestTrial_80_1_24 (x : XT) (k24 : ST → Int32 → Int32 → Int32 → Int32 → Int32 → Int32 → Option (Int32 × ST)) (ak24 : ∀ (S : ST) (v2 : Int32) (v3 : Int32) (v4 : Int32) (v5 : Int32) (v6 : Int32) (v7 : Int32) (r : Int32) (S' : ST), k24 S v2 v3 v4 v5 v6 v7 = some (r, S') → Agr wX3_bestTrial_80_1 S S') (S : ST) (v2 : Int32) (v3 : Int32) (v4 : Int32) (v5 : Int32) (v6 : Int32) (v7 : Int32) (r : Int32) (S' : ST) (hm : bfX3_bestTrial_80_1_24 x k24 S v2 v3 v4 v5 v6 v7 = some (r, S')) : Agr wX3_bestTrial_80_1 S S' := by
    unfold bfX3_bestTrial_80_1_24 at hm
    by_cases c1 : 20 ≤ v7
    · rw [if_pos c1] at hm
      by_cases c2 : v3 = 0
      · rw [if_pos c2] at hm
        exact Agr.tr Agr.rf (fbX3_bestTrial_80_1_118 x  S v6 _ _ hm)
      · rw [if_neg c2] at hm
        exact Agr.tr Agr.rf (fbX3_bestTrial_80_1_118 x  S v5 _ _ hm)
    · rw [if_neg c1] at hm
      exact Agr.tr Agr.rf (flX3_bestTrial_80_1_34 x k24 ak24 20000 S v2 v3 v4 v5 v6 v7 0 _ _ hm)
theorem flX3_bestTrial_80_1_24 (x : XT)  : ∀ (n : Nat) (S : ST) (v2 : Int32) (v3 : Int32) (v4 : Int32) (v5 : Int32) (v6 : Int32) (v7 : Int32) (r : Int32) (S' : ST), lfX3_bestTrial_80_1_24 x  n S v2 v3 v4 v5 v6 v7 = some (r, S') → Agr wX3_bestTrial_80_1 S S'
  | 0, _, _, _, _, _, _, _, _, _, hm => by cases hm
  | n + 1, S, v2, v3, v4, v5, v6, v7, r, S', hm => fbX3_bestTrial_80_1_24 x (lfX3_bestTrial_80_1_24 x  n) (flX3_bestTrial_80_1_24 x  n) S v2 v3 v4 v5 v6 v7 r S' hm
set_option maxHeartbeats 4000000 in
set_option maxRecDepth 20000 in
theorem fbX3_bestTrial_80_1_0 (x : XT)  (S : ST) (p2 : Int32) (p3 : Int32) (r : Int32) (S' : ST) (hm : bfX3_bestTrial_80_1_0 x  S p2 p3 = some (r, S')) : Agr wX3_bestTrial_80_1 S S' := by
    unfold bfX3_bestTrial_80_1_0 at hm
    cases h1 : gfX3_possible_80_1 x S with
    | none => rw [h1] at hm; cases hm
    | some q2 =>
      obtain ⟨r3, S4⟩ := q2
      rw [h1] at hm
      dsimp only at hm
      have a_S4 : Agr wX3_bestTrial_80_1 S S4 := Agr.tr Agr.rf (Agr.sub (frX3_possible_80_1 x S _ _ h1) (by decide))
      by_cases c5 : ¬ r3 = 0
      · rw [if_pos c5] at hm
        exact Agr.tr a_S4 (flX3_bestTrial_80_1_24 x  20000 S4 p2 p3 r3 (-1) 9 0 _ _ hm)
      · rw [if_neg c5] at hm
        cases hm
        exact a_S4
theorem frX3_bestTrial_80_1 (x : XT) (S : ST) (p2 : Int32) (p3 : Int32) (r : Int32) (S' : ST) (hm : gfX3_bestTrial_80_1 x S p2 p3 = some (r, S')) : Agr wX3_bestTrial_80_1 S S' := fbX3_bestTrial_80_1_0 x S p2 p3 r S' hm
def wX10_ask_0 : List (Nat × Nat) × List Nat × List Nat × List Nat := ([], [21, 22, 81], [], [])
set_option maxHeartbeats 4000000 in
set_option maxRecDepth 20000 in
theorem fbX10_ask_0_17 (x : XT)  (S : ST)  (r : Int32) (S' : ST) (hm : bfX10_ask_0_17 x  S  = some (r, S')) : Agr wX10_ask_0 S S' := by
    unfold bfX10_ask_0_17 at hm
    cases hm
    exact Agr.rf
set_option maxHeartbeats 4000000 in
set_option maxRecDepth 20000 in
theorem fbX10_ask_0_37 (x : XT)  (S : ST) (t2 : Int32) (t3 : Int32) (r : Int32) (S' : ST) (hm : bfX10_ask_0_37 x  S t2 t3 = some (r, S')) : Agr wX10_ask_0 S S' := by
    unfold bfX10_ask_0_37 at hm
    cases h1 : gfX3_bestTrial_80_1 x S t2 t3 with
    | none => rw [h1] at hm; cases hm
    | some q2 =>
      obtain ⟨r3, S4⟩ := q2
      rw [h1] at hm
      dsimp only at hm
      have a_S4 : Agr wX10_ask_0 S S4 := Agr.tr Agr.rf (Agr.sub (frX3_bestTrial_80_1 x S t2 t3 _ _ h1) (by decide))
      cases hm
      exact a_S4
set_option maxHeartbeats 4000000 in
set_option maxRecDepth 20000 in
theorem fbX10_ask_0_0 (x : XT)  (S : ST) (p1 : Int32) (p2 : Int32) (r : Int32) (S' : ST) (hm : bfX10_ask_0_0 x  S p1 p2 = some (r, S')) : Agr wX10_ask_0 S S' := by
    unfold bfX10_ask_0_0 at hm
    cases h1 : gfX10_within x S p1 10 with
    | none => rw [h1] at hm; cases hm
    | some q2 =>
      obtain ⟨r3, S4⟩ := q2
      rw [h1] at hm
      dsimp only at hm
      have a_S4 : Agr wX10_ask_0 S S4 := Agr.tr Agr.rf (Agr.sub (frX10_within x S p1 10 _ _ h1) (by decide))
      by_cases c5 : r3 = 0
      · rw [if_pos c5] at hm
        exact Agr.tr a_S4 (fbX10_ask_0_17 x  S4 _ _ hm)
      · rw [if_neg c5] at hm
        cases h6 : gfX10_within x S4 p2 2 with
        | none => rw [h6] at hm; cases hm
        | some q7 =>
          obtain ⟨r8, S9⟩ := q7
          rw [h6] at hm
          dsimp only at hm
          have a_S9 : Agr wX10_ask_0 S S9 := Agr.tr a_S4 (Agr.sub (frX10_within x S4 p2 2 _ _ h6) (by decide))
          by_cases c10 : ¬ r8 = 0
          · rw [if_pos c10] at hm
            by_cases c11 : ¬ p2 = 0
            · rw [if_pos c11] at hm
              exact Agr.tr a_S9 (fbX10_ask_0_37 x  S9 p1 0 _ _ hm)
            · rw [if_neg c11] at hm
              exact Agr.tr a_S9 (fbX10_ask_0_37 x  S9 p1 1 _ _ hm)
          · rw [if_neg c10] at hm
            exact Agr.tr a_S9 (fbX10_ask_0_17 x  S9 _ _ hm)
theorem frX10_ask_0 (x : XT) (S : ST) (p1 : Int32) (p2 : Int32) (r : Int32) (S' : ST) (hm : gfX10_ask_0 x S p1 p2 = some (r, S')) : Agr wX10_ask_0 S S' := fbX10_ask_0_0 x S p1 p2 r S' hm
def wJ7_fill_d0a16_82 : List (Nat × Nat) × List Nat × List Nat × List Nat := ([], [], [82], [])
set_option maxHeartbeats 4000000 in
set_option maxRecDepth 20000 in
theorem fbJ7_fill_d0a16_82_6 (x : XT) (k6 : ST → Int64 → Int32 → Int32 → Option (Unit × ST)) (ak6 : ∀ (S : ST) (v1 : Int64) (v3 : Int32) (v4 : Int32) (r : Unit) (S' : ST), k6 S v1 v3 v4 = some (r, S') → Agr wJ7_fill_d0a16_82 S S') (S : ST) (v1 : Int64) (v3 : Int32) (v4 : Int32) (r : Unit) (S' : ST) (hm : bfJ7_fill_d0a16_82_6 x k6 S v1 v3 v4 = some (r, S')) : Agr wJ7_fill_d0a16_82 S S' := by
    unfold bfJ7_fill_d0a16_82_6 at hm
    by_cases c1 : v4 ≤ v3
    · rw [if_pos c1] at hm
      cases hm
      exact Agr.rf
    · rw [if_neg c1] at hm
      obtain ⟨o2, hm⟩ := oblk hm
      exact Agr.tr (Agr.j Agr.rf 82 v3.toNatClampNeg v1 (by decide)) (ak6 (S.1, S.2.1, (u2 S.2.2.1 82 v3.toNatClampNeg v1), S.2.2.2) v1 (v3 + 1) v4 _ _ hm)
theorem flJ7_fill_d0a16_82_6 (x : XT)  : ∀ (n : Nat) (S : ST) (v1 : Int64) (v3 : Int32) (v4 : Int32) (r : Unit) (S' : ST), lfJ7_fill_d0a16_82_6 x  n S v1 v3 v4 = some (r, S') → Agr wJ7_fill_d0a16_82 S S'
  | 0, _, _, _, _, _, _, hm => by cases hm
  | n + 1, S, v1, v3, v4, r, S', hm => fbJ7_fill_d0a16_82_6 x (lfJ7_fill_d0a16_82_6 x  n) (flJ7_fill_d0a16_82_6 x  n) S v1 v3 v4 r S' hm
set_option maxHeartbeats 4000000 in
set_option maxRecDepth 20000 in
theorem fbJ7_fill_d0a16_82_0 (x : XT)  (S : ST) (p1 : Int64) (r : Unit) (S' : ST) (hm : bfJ7_fill_d0a16_82_0 x  S p1 = some (r, S')) : Agr wJ7_fill_d0a16_82 S S' := by
    unfold bfJ7_fill_d0a16_82_0 at hm
    exact Agr.tr Agr.rf (flJ7_fill_d0a16_82_6 x  20000 S p1 0 20 _ _ hm)
theorem frJ7_fill_d0a16_82 (x : XT) (S : ST) (p1 : Int64) (r : Unit) (S' : ST) (hm : gfJ7_fill_d0a16_82 x S p1 = some (r, S')) : Agr wJ7_fill_d0a16_82 S S' := fbJ7_fill_d0a16_82_0 x S p1 r S' hm
def wX3_fewerBitten_80 : List (Nat × Nat) × List Nat × List Nat × List Nat := ([], [], [82], [])
set_option maxHeartbeats 4000000 in
set_option maxRecDepth 20000 in
theorem fbX3_fewerBitten_80_134 (x : XT)  (S : ST) (v4 : Int64) (r : Int64) (S' : ST) (hm : bfX3_fewerBitten_80_134 x  S v4 = some (r, S')) : Agr wX3_fewerBitten_80 S S' := by
    unfold bfX3_fewerBitten_80_134 at hm
    cases hm
    exact Agr.rf
set_option maxHeartbeats 4000000 in
set_option maxRecDepth 20000 in
theorem fbX3_fewerBitten_80_103 (x : XT) (k103 : ST → Int32 → Int64 → Int32 → Option (Int64 × ST)) (ak103 : ∀ (S : ST) (v2 : Int32) (v4 : Int64) (v6 : Int32) (r : Int64) (S' : ST), k103 S v2 v4 v6 = some (r, S') → Agr wX3_fewerBitten_80 S S') (S : ST) (v2 : Int32) (v4 : Int64) (v6 : Int32) (r : Int64) (S' : ST) (hm : bfX3_fewerBitten_80_103 x k103 S v2 v4 v6 = some (r, S')) : Agr wX3_fewerBitten_80 S S' := by
    unfold bfX3_fewerBitten_80_103 at hm
    by_cases c1 : v2 ≤ v6
    · rw [if_pos c1] at hm
      exact Agr.tr Agr.rf (fbX3_fewerBitten_80_134 x  S v4 _ _ hm)
    · rw [if_neg c1] at hm
      by_cases c2 : 20 ≤ v6
      · rw [if_pos c2] at hm
        exact Agr.tr Agr.rf (fbX3_fewerBitten_80_134 x  S v4 _ _ hm)
      · rw [if_neg c2] at hm
        obtain ⟨o3, hm⟩ := oblk hm
        exact Agr.tr Agr.rf (ak103 S v2 (v4 + (S.2.2.1 82 v6.toNatClampNeg)) (v6 + 1) _ _ hm)
theorem flX3_fewerBitten_80_103 (x : XT)  : ∀ (n : Nat) (S : ST) (v2 : Int32) (v4 : Int64) (v6 : Int32) (r : Int64) (S' : ST), lfX3_fewerBitten_80_103 x  n S v2 v4 v6 = some (r, S') → Agr wX3_fewerBitten_80 S S'
  | 0, _, _, _, _, _, _, hm => by cases hm
  | n + 1, S, v2, v4, v6, r, S', hm => fbX3_fewerBitten_80_103 x (lfX3_fewerBitten_80_103 x  n) (flX3_fewerBitten_80_103 x  n) S v2 v4 v6 r S' hm
set_option maxHeartbeats 4000000 in
set_option maxRecDepth 20000 in
theorem fbX3_fewerBitten_80_83 (x : XT) (k20 : ST → Int32 → Int32 → Int32 → Int32 → Option (Int64 × ST)) (ak20 : ∀ (S : ST) (v1 : Int32) (v2 : Int32) (v3 : Int32) (v4 : Int32) (r : Int64) (S' : ST), k20 S v1 v2 v3 v4 = some (r, S') → Agr wX3_fewerBitten_80 S S') (k30 : ST → Int32 → Int32 → Int32 → Int32 → Int32 → Option (Int64 × ST)) (ak30 : ∀ (S : ST) (v1 : Int32) (v2 : Int32) (v3 : Int32) (v4 : Int32) (v5 : Int32) (r : Int64) (S' : ST), k30 S v1 v2 v3 v4 v5 = some (r, S') → Agr wX3_fewerBitten_80 S S') (S : ST) (v1 : Int32) (v2 : Int32) (v3 : Int32) (v4 : Int32) (v5 : Int32) (t1 : Int32) (t2 : Int64) (t3 : Int64) (r : Int64) (S' : ST) (hm : bfX3_fewerBitten_80_83 x k20 k30 S v1 v2 v3 v4 v5 t1 t2 t3 = some (r, S')) : Agr wX3_fewerBitten_80 S S' := by
    unfold bfX3_fewerBitten_80_83 at hm
    obtain ⟨o1, hm⟩ := oblk hm
    exact Agr.tr (Agr.j Agr.rf 82 t1.toNatClampNeg (t2 + t3) (by decide)) (ak30 (S.1, S.2.1, (u2 S.2.2.1 82 t1.toNatClampNeg (t2 + t3)), S.2.2.2) v1 v2 v3 v4 (v5 + (-1)) _ _ hm)
set_option maxHeartbeats 4000000 in
set_option maxRecDepth 20000 in
theorem fbX3_fewerBitten_80_30 (x : XT) (k20 : ST → Int32 → Int32 → Int32 → Int32 → Option (Int64 × ST)) (ak20 : ∀ (S : ST) (v1 : Int32) (v2 : Int32) (v3 : Int32) (v4 : Int32) (r : Int64) (S' : ST), k20 S v1 v2 v3 v4 = some (r, S') → Agr wX3_fewerBitten_80 S S') (k30 : ST → Int32 → Int32 → Int32 → Int32 → Int32 → Option (Int64 × ST)) (ak30 : ∀ (S : ST) (v1 : Int32) (v2 : Int32) (v3 : Int32) (v4 : Int32) (v5 : Int32) (r : Int64) (S' : ST), k30 S v1 v2 v3 v4 v5 = some (r, S') → Agr wX3_fewerBitten_80 S S') (S : ST) (v1 : Int32) (v2 : Int32) (v3 : Int32) (v4 : Int32) (v5 : Int32) (r : Int64) (S' : ST) (hm : bfX3_fewerBitten_80_30 x k20 k30 S v1 v2 v3 v4 v5 = some (r, S')) : Agr wX3_fewerBitten_80 S S' := by
    unfold bfX3_fewerBitten_80_30 at hm
    by_cases c1 : v5 < 0
    · rw [if_pos c1] at hm
      exact Agr.tr Agr.rf (ak20 S v1 v2 v3 (v4 + 1) _ _ hm)
    · rw [if_neg c1] at hm
      obtain ⟨o2, hm⟩ := oblk hm
      by_cases c3 : v5 ≤ 0
      · rw [if_pos c3] at hm
        exact Agr.tr Agr.rf (fbX3_fewerBitten_80_83 x k20 ak20 k30 ak30 S v1 v2 v3 v4 v5 v5 (((S.2.2.1 82 v5.toNatClampNeg) * ((10 - v1).toInt64)) / 10) 0 _ _ hm)
      · rw [if_neg c3] at hm
        obtain ⟨o4, hm⟩ := oblk hm
        exact Agr.tr Agr.rf (fbX3_fewerBitten_80_83 x k20 ak20 k30 ak30 S v1 v2 v3 v4 v5 v5 (((S.2.2.1 82 v5.toNatClampNeg) * ((10 - v1).toInt64)) / 10) (((S.2.2.1 82 ((v5 - 1).toNatClampNeg)) * v1.toInt64) / 10) _ _ hm)
theorem flX3_fewerBitten_80_30 (x : XT) (k20 : ST → Int32 → Int32 → Int32 → Int32 → Option (Int64 × ST)) (ak20 : ∀ (S : ST) (v1 : Int32) (v2 : Int32) (v3 : Int32) (v4 : Int32) (r : Int64) (S' : ST), k20 S v1 v2 v3 v4 = some (r, S') → Agr wX3_fewerBitten_80 S S') : ∀ (n : Nat) (S : ST) (v1 : Int32) (v2 : Int32) (v3 : Int32) (v4 : Int32) (v5 : Int32) (r : Int64) (S' : ST), lfX3_fewerBitten_80_30 x k20 n S v1 v2 v3 v4 v5 = some (r, S') → Agr wX3_fewerBitten_80 S S'
  | 0, _, _, _, _, _, _, _, _, hm => by cases hm
  | n + 1, S, v1, v2, v3, v4, v5, r, S', hm => fbX3_fewerBitten_80_30 x k20 ak20 (lfX3_fewerBitten_80_30 x k20 n) (flX3_fewerBitten_80_30 x k20 ak20 n) S v1 v2 v3 v4 v5 r S' hm
set_option maxHeartbeats 4000000 in
set_option maxRecDepth 20000 in
theorem fbX3_fewerBitten_80_20 (x : XT) (k20 : ST → Int32 → Int32 → Int32 → Int32 → Option (Int64 × ST)) (ak20 : ∀ (S : ST) (v1 : Int32) (v2 : Int32) (v3 : Int32) (v4 : Int32) (r : Int64) (S' : ST), k20 S v1 v2 v3 v4 = some (r, S') → Agr wX3_fewerBitten_80 S S') (S : ST) (v1 : Int32) (v2 : Int32) (v3 : Int32) (v4 : Int32) (r : Int64) (S' : ST) (hm : bfX3_fewerBitten_80_20 x k20 S v1 v2 v3 v4 = some (r, S')) : Agr wX3_fewerBitten_80 S S' := by
    unfold bfX3_fewerBitten_80_20 at hm
    by_cases c1 : v3 ≤ v4
    · rw [if_pos c1] at hm
      exact Agr.tr Agr.rf (flX3_fewerBitten_80_103 x  20000 S v2 0 0 _ _ hm)
    · rw [if_neg c1] at hm
      exact Agr.tr Agr.rf (flX3_fewerBitten_80_30 x k20 ak20 20000 S v1 v2 v3 v4 19 _ _ hm)
theorem flX3_fewerBitten_80_20 (x : XT)  : ∀ (n : Nat) (S : ST) (v1 : Int32) (v2 : Int32) (v3 : Int32) (v4 : Int32) (r : Int64) (S' : ST), lfX3_fewerBitten_80_20 x  n S v1 v2 v3 v4 = some (r, S') → Agr wX3_fewerBitten_80 S S'
  | 0, _, _, _, _, _, _, _, hm => by cases hm
  | n + 1, S, v1, v2, v3, v4, r, S', hm => fbX3_fewerBitten_80_20 x (lfX3_fewerBitten_80_20 x  n) (flX3_fewerBitten_80_20 x  n) S v1 v2 v3 v4 r S' hm
set_option maxHeartbeats 4000000 in
set_option maxRecDepth 20000 in
theorem fbX3_fewerBitten_80_0 (x : XT)  (S : ST) (p1 : Int32) (p2 : Int32) (p3 : Int32) (r : Int64) (S' : ST) (hm : bfX3_fewerBitten_80_0 x  S p1 p2 p3 = some (r, S')) : Agr wX3_fewerBitten_80 S S' := by
    unfold bfX3_fewerBitten_80_0 at hm
    cases h1 : gfJ7_fill_d0a16_82 x S 0 with
    | none => rw [h1] at hm; cases hm
    | some q2 =>
      obtain ⟨r3, S4⟩ := q2
      rw [h1] at hm
      dsimp only at hm
      have a_S4 : Agr wX3_fewerBitten_80 S S4 := Agr.tr Agr.rf (Agr.sub (frJ7_fill_d0a16_82 x S 0 _ _ h1) (by decide))
      exact Agr.tr (Agr.j a_S4 82 0 1000000000000 (by decide)) (flX3_fewerBitten_80_20 x  20000 (S4.1, S4.2.1, (u2 S4.2.2.1 82 0 1000000000000), S4.2.2.2) p1 p2 p3 0 _ _ hm)
theorem frX3_fewerBitten_80 (x : XT) (S : ST) (p1 : Int32) (p2 : Int32) (p3 : Int32) (r : Int64) (S' : ST) (hm : gfX3_fewerBitten_80 x S p1 p2 p3 = some (r, S')) : Agr wX3_fewerBitten_80 S S' := fbX3_fewerBitten_80_0 x S p1 p2 p3 r S' hm
def wX10_few_0 : List (Nat × Nat) × List Nat × List Nat × List Nat := ([], [], [82], [])
set_option maxHeartbeats 4000000 in
set_option maxRecDepth 20000 in
theorem fbX10_few_0_21 (x : XT)  (S : ST)  (r : Int64) (S' : ST) (hm : bfX10_few_0_21 x  S  = some (r, S')) : Agr wX10_few_0 S S' := by
    unfold bfX10_few_0_21 at hm
    cases hm
    exact Agr.rf
set_option maxHeartbeats 4000000 in
set_option maxRecDepth 20000 in
theorem fbX10_few_0_0 (x : XT)  (S : ST) (p1 : Int32) (p2 : Int32) (r : Int64) (S' : ST) (hm : bfX10_few_0_0 x  S p1 p2 = some (r, S')) : Agr wX10_few_0 S S' := by
    unfold bfX10_few_0_0 at hm
    by_cases c1 : p1 < 1
    · rw [if_pos c1] at hm
      exact Agr.tr Agr.rf (fbX10_few_0_21 x  S _ _ hm)
    · rw [if_neg c1] at hm
      by_cases c2 : 20 < p1
      · rw [if_pos c2] at hm
        exact Agr.tr Agr.rf (fbX10_few_0_21 x  S _ _ hm)
      · rw [if_neg c2] at hm
        by_cases c3 : p2 < 0
        · rw [if_pos c3] at hm
          exact Agr.tr Agr.rf (fbX10_few_0_21 x  S _ _ hm)
        · rw [if_neg c3] at hm
          by_cases c4 : p2 ≤ 99
          · rw [if_pos c4] at hm
            cases h5 : gfX3_fewerBitten_80 x S (S.2.1 14 1) p1 p2 with
            | none => rw [h5] at hm; cases hm
            | some q6 =>
              obtain ⟨r7, S8⟩ := q6
              rw [h5] at hm
              dsimp only at hm
              have a_S8 : Agr wX10_few_0 S S8 := Agr.tr Agr.rf (Agr.sub (frX3_fewerBitten_80 x S (S.2.1 14 1) p1 p2 _ _ h5) (by decide))
              cases hm
              exact a_S8
          · rw [if_neg c4] at hm
            exact Agr.tr Agr.rf (fbX10_few_0_21 x  S _ _ hm)
theorem frX10_few_0 (x : XT) (S : ST) (p1 : Int32) (p2 : Int32) (r : Int64) (S' : ST) (hm : gfX10_few_0 x S p1 p2 = some (r, S')) : Agr wX10_few_0 S S' := fbX10_few_0_0 x S p1 p2 r S' hm
def wX6_tryLaw_54 : List (Nat × Nat) × List Nat × List Nat × List Nat := ([(55, 18)], [], [], [])
set_option maxHeartbeats 4000000 in
set_option maxRecDepth 20000 in
theorem fbX6_tryLaw_54_0 (x : XT)  (S : ST) (p1 : Int32) (r : Unit) (S' : ST) (hm : bfX6_tryLaw_54_0 x  S p1 = some (r, S')) : Agr wX6_tryLaw_54 S S' := by
    unfold bfX6_tryLaw_54_0 at hm
    cases hm
    exact (Agr.f Agr.rf 55 18 p1 (by decide))
theorem frX6_tryLaw_54 (x : XT) (S : ST) (p1 : Int32) (r : Unit) (S' : ST) (hm : gfX6_tryLaw_54 x S p1 = some (r, S')) : Agr wX6_tryLaw_54 S S' := fbX6_tryLaw_54_0 x S p1 r S' hm
def wX10_compare_0 : List (Nat × Nat) × List Nat × List Nat × List Nat := ([(54, 2), (55, 0), (55, 6), (55, 11), (55, 16), (55, 18)], [21, 22, 56, 57, 58, 59, 60, 61, 62, 63, 64, 65, 66, 67, 68, 70, 71, 72, 73, 74], [], [69])
set_option maxHeartbeats 4000000 in
set_option maxRecDepth 20000 in
theorem fbX10_compare_0_27 (x : XT)  (S : ST)  (r : Int32) (S' : ST) (hm : bfX10_compare_0_27 x  S  = some (r, S')) : Agr wX10_compare_0 S S' := by
    unfold bfX10_compare_0_27 at hm
    cases hm
    exact Agr.rf
set_option maxHeartbeats 4000000 in
set_option maxRecDepth 20000 in
theorem fbX10_compare_0_16 (x : XT)  (S : ST) (v1 : Int32) (v2 : Int32) (v3 : Int32) (v4 : Int32) (r : Int32) (S' : ST) (hm : bfX10_compare_0_16 x  S v1 v2 v3 v4 = some (r, S')) : Agr wX10_compare_0 S S' := by
    unfold bfX10_compare_0_16 at hm
    cases h1 : gfX10_canSeek_0 x S v2 v3 v4 with
    | none => rw [h1] at hm; cases hm
    | some q2 =>
      obtain ⟨r3, S4⟩ := q2
      rw [h1] at hm
      dsimp only at hm
      have a_S4 : Agr wX10_compare_0 S S4 := Agr.tr Agr.rf (Agr.sub (frX10_canSeek_0 x S v2 v3 v4 _ _ h1) (by decide))
      by_cases c5 : ¬ r3 = 0
      · rw [if_pos c5] at hm
        cases h6 : gfX6_begin_54_1 x S4 v2 with
        | none => rw [h6] at hm; cases hm
        | some q7 =>
          obtain ⟨r8, S9⟩ := q7
          rw [h6] at hm
          dsimp only at hm
          have a_S9 : Agr wX10_compare_0 S S9 := Agr.tr a_S4 (Agr.sub (frX6_begin_54_1 x S4 v2 _ _ h6) (by decide))
          cases h10 : gfX6_tryLaw_54 x S9 v1 with
          | none => rw [h10] at hm; cases hm
          | some q11 =>
            obtain ⟨r12, S13⟩ := q11
            rw [h10] at hm
            dsimp only at hm
            have a_S13 : Agr wX10_compare_0 S S13 := Agr.tr a_S9 (Agr.sub (frX6_tryLaw_54 x S9 v1 _ _ h10) (by decide))
            cases h14 : gfX6_wayLength_54 x S13 v3 v4 with
            | none => rw [h14] at hm; cases hm
            | some q15 =>
              obtain ⟨r16, S17⟩ := q15
              rw [h14] at hm
              dsimp only at hm
              have a_S17 : Agr wX10_compare_0 S S17 := Agr.tr a_S13 (Agr.sub (frX6_wayLength_54 x S13 v3 v4 _ _ h14) (by decide))
              cases hm
              exact a_S17
      · rw [if_neg c5] at hm
        exact Agr.tr a_S4 (fbX10_compare_0_27 x  S4 _ _ hm)
set_option maxHeartbeats 4000000 in
set_option maxRecDepth 20000 in
theorem fbX10_compare_0_0 (x : XT)  (S : ST) (p1 : Int32) (p2 : Int32) (p3 : Int32) (p4 : Int32) (r : Int32) (S' : ST) (hm : bfX10_compare_0_0 x  S p1 p2 p3 p4 = some (r, S')) : Agr wX10_compare_0 S S' := by
    unfold bfX10_compare_0_0 at hm
    by_cases c1 : p1 = (-1)
    · rw [if_pos c1] at hm
      exact Agr.tr Agr.rf (fbX10_compare_0_16 x  S p1 p2 p3 p4 _ _ hm)
    · rw [if_neg c1] at hm
      cases h2 : gfX7_hasLaw_1 x S p1 with
      | none => rw [h2] at hm; cases hm
      | some q3 =>
        obtain ⟨r4, S5⟩ := q3
        rw [h2] at hm
        dsimp only at hm
        have a_S5 : Agr wX10_compare_0 S S5 := Agr.tr Agr.rf (Agr.sub (frX7_hasLaw_1 x S p1 _ _ h2) (by decide))
        by_cases c6 : r4 = 0
        · rw [if_pos c6] at hm
          exact Agr.tr a_S5 (fbX10_compare_0_27 x  S5 _ _ hm)
        · rw [if_neg c6] at hm
          exact Agr.tr a_S5 (fbX10_compare_0_16 x  S5 p1 p2 p3 p4 _ _ hm)
theorem frX10_compare_0 (x : XT) (S : ST) (p1 : Int32) (p2 : Int32) (p3 : Int32) (p4 : Int32) (r : Int32) (S' : ST) (hm : gfX10_compare_0 x S p1 p2 p3 p4 = some (r, S')) : Agr wX10_compare_0 S S' := fbX10_compare_0_0 x S p1 p2 p3 p4 r S' hm
def wX2_draw_83 : List (Nat × Nat) × List Nat × List Nat × List Nat := ([(83, 2)], [], [], [])
set_option maxHeartbeats 4000000 in
set_option maxRecDepth 20000 in
theorem fbX2_draw_83_33 (x : XT)  (S : ST) (t0 : Int32) (r : Int32) (S' : ST) (hm : bfX2_draw_83_33 x  S t0 = some (r, S')) : Agr wX2_draw_83 S S' := by
    unfold bfX2_draw_83_33 at hm
    cases hm
    exact Agr.rf
set_option maxHeartbeats 4000000 in
set_option maxRecDepth 20000 in
theorem fbX2_draw_83_0 (x : XT)  (S : ST) (p1 : Int32) (r : Int32) (S' : ST) (hm : bfX2_draw_83_0 x  S p1 = some (r, S')) : Agr wX2_draw_83 S S' := by
    unfold bfX2_draw_83_0 at hm
    by_cases c1 : p1 ≤ 0
    · rw [if_pos c1] at hm
      exact Agr.tr (Agr.f Agr.rf 83 2 ((((S.1 83 2) * 1103) + 12345) - (((S.1 83 2) * 1103) + 12345) / 1000003 * 1000003) (by decide)) (fbX2_draw_83_33 x  ((u2 S.1 83 2 ((((S.1 83 2) * 1103) + 12345) - (((S.1 83 2) * 1103) + 12345) / 1000003 * 1000003)), S.2.1, S.2.2.1, S.2.2.2) (-1) _ _ hm)
    · rw [if_neg c1] at hm
      obtain ⟨o2, hm⟩ := oblk hm
      exact Agr.tr (Agr.f Agr.rf 83 2 ((((S.1 83 2) * 1103) + 12345) - (((S.1 83 2) * 1103) + 12345) / 1000003 * 1000003) (by decide)) (fbX2_draw_83_33 x  ((u2 S.1 83 2 ((((S.1 83 2) * 1103) + 12345) - (((S.1 83 2) * 1103) + 12345) / 1000003 * 1000003)), S.2.1, S.2.2.1, S.2.2.2) (((((S.1 83 2) * 1103) + 12345) - (((S.1 83 2) * 1103) + 12345) / 1000003 * 1000003) - ((((S.1 83 2) * 1103) + 12345) - (((S.1 83 2) * 1103) + 12345) / 1000003 * 1000003) / p1 * p1) _ _ hm)
theorem frX2_draw_83 (x : XT) (S : ST) (p1 : Int32) (r : Int32) (S' : ST) (hm : gfX2_draw_83 x S p1 = some (r, S')) : Agr wX2_draw_83 S S' := fbX2_draw_83_0 x S p1 r S' hm
def wX7_hasGoer_84 : List (Nat × Nat) × List Nat × List Nat × List Nat := ([], [], [], [])
set_option maxHeartbeats 4000000 in
set_option maxRecDepth 20000 in
theorem fbX7_hasGoer_84_17 (x : XT)  (S : ST) (t0 : Int32) (r : Int32) (S' : ST) (hm : bfX7_hasGoer_84_17 x  S t0 = some (r, S')) : Agr wX7_hasGoer_84 S S' := by
    unfold bfX7_hasGoer_84_17 at hm
    obtain ⟨o1, hm⟩ := oblk hm
    cases hm
    exact Agr.rf
set_option maxHeartbeats 4000000 in
set_option maxRecDepth 20000 in
theorem fbX7_hasGoer_84_16 (x : XT)  (S : ST)  (r : Int32) (S' : ST) (hm : bfX7_hasGoer_84_16 x  S  = some (r, S')) : Agr wX7_hasGoer_84 S S' := by
    unfold bfX7_hasGoer_84_16 at hm
    exact Agr.tr Agr.rf (fbX7_hasGoer_84_17 x  S 0 _ _ hm)
set_option maxHeartbeats 4000000 in
set_option maxRecDepth 20000 in
theorem fbX7_hasGoer_84_0 (x : XT)  (S : ST) (p1 : Int32) (r : Int32) (S' : ST) (hm : bfX7_hasGoer_84_0 x  S p1 = some (r, S')) : Agr wX7_hasGoer_84 S S' := by
    unfold bfX7_hasGoer_84_0 at hm
    by_cases c1 : p1 < 0
    · rw [if_pos c1] at hm
      exact Agr.tr Agr.rf (fbX7_hasGoer_84_16 x  S _ _ hm)
    · rw [if_neg c1] at hm
      by_cases c2 : (S.1 84 6) ≤ p1
      · rw [if_pos c2] at hm
        exact Agr.tr Agr.rf (fbX7_hasGoer_84_16 x  S _ _ hm)
      · rw [if_neg c2] at hm
        exact Agr.tr Agr.rf (fbX7_hasGoer_84_17 x  S 1 _ _ hm)
theorem frX7_hasGoer_84 (x : XT) (S : ST) (p1 : Int32) (r : Int32) (S' : ST) (hm : gfX7_hasGoer_84 x S p1 = some (r, S')) : Agr wX7_hasGoer_84 S S' := fbX7_hasGoer_84_0 x S p1 r S' hm
def wX7_hasGate_84 : List (Nat × Nat) × List Nat × List Nat × List Nat := ([], [], [], [])
set_option maxHeartbeats 4000000 in
set_option maxRecDepth 20000 in
theorem fbX7_hasGate_84_17 (x : XT)  (S : ST) (t0 : Int32) (r : Int32) (S' : ST) (hm : bfX7_hasGate_84_17 x  S t0 = some (r, S')) : Agr wX7_hasGate_84 S S' := by
    unfold bfX7_hasGate_84_17 at hm
    obtain ⟨o1, hm⟩ := oblk hm
    cases hm
    exact Agr.rf
set_option maxHeartbeats 4000000 in
set_option maxRecDepth 20000 in
theorem fbX7_hasGate_84_16 (x : XT)  (S : ST)  (r : Int32) (S' : ST) (hm : bfX7_hasGate_84_16 x  S  = some (r, S')) : Agr wX7_hasGate_84 S S' := by
    unfold bfX7_hasGate_84_16 at hm
    exact Agr.tr Agr.rf (fbX7_hasGate_84_17 x  S 0 _ _ hm)
set_option maxHeartbeats 4000000 in
set_option maxRecDepth 20000 in
theorem fbX7_hasGate_84_0 (x : XT)  (S : ST) (p1 : Int32) (r : Int32) (S' : ST) (hm : bfX7_hasGate_84_0 x  S p1 = some (r, S')) : Agr wX7_hasGate_84 S S' := by
    unfold bfX7_hasGate_84_0 at hm
    by_cases c1 : p1 < 0
    · rw [if_pos c1] at hm
      exact Agr.tr Agr.rf (fbX7_hasGate_84_16 x  S _ _ hm)
    · rw [if_neg c1] at hm
      by_cases c2 : (S.1 84 0) ≤ p1
      · rw [if_pos c2] at hm
        exact Agr.tr Agr.rf (fbX7_hasGate_84_16 x  S _ _ hm)
      · rw [if_neg c2] at hm
        exact Agr.tr Agr.rf (fbX7_hasGate_84_17 x  S 1 _ _ hm)
theorem frX7_hasGate_84 (x : XT) (S : ST) (p1 : Int32) (r : Int32) (S' : ST) (hm : gfX7_hasGate_84 x S p1 = some (r, S')) : Agr wX7_hasGate_84 S S' := fbX7_hasGate_84_0 x S p1 r S' hm
def wX0_regardUnknown_20_84 : List (Nat × Nat) × List Nat × List Nat × List Nat := ([], [21], [], [])
set_option maxHeartbeats 4000000 in
set_option maxRecDepth 20000 in
theorem fbX0_regardUnknown_20_84_0 (x : XT)  (S : ST) (p2 : Int32) (p3 : Int32) (p4 : Int32) (r : Unit) (S' : ST) (hm : bfX0_regardUnknown_20_84_0 x  S p2 p3 p4 = some (r, S')) : Agr wX0_regardUnknown_20_84 S S' := by
    unfold bfX0_regardUnknown_20_84_0 at hm
    cases hm
    exact (Agr.i (Agr.i (Agr.i (Agr.i (Agr.i (Agr.i (Agr.i (Agr.i Agr.rf 21 0 p2 (by decide)) 21 1 p3 (by decide)) 21 2 p4 (by decide)) 21 3 0 (by decide)) 21 4 (-1) (by decide)) 21 5 (-1) (by decide)) 21 6 (S.2.1 97 0) (by decide)) 21 7 (S.2.1 97 2) (by decide))
theorem frX0_regardUnknown_20_84 (x : XT) (S : ST) (p2 : Int32) (p3 : Int32) (p4 : Int32) (r : Unit) (S' : ST) (hm : gfX0_regardUnknown_20_84 x S p2 p3 p4 = some (r, S')) : Agr wX0_regardUnknown_20_84 S S' := fbX0_regardUnknown_20_84_0 x S p2 p3 p4 r S' hm
def wX0_regard_20_84 : List (Nat × Nat) × List Nat × List Nat × List Nat := ([], [21], [], [])
set_option maxHeartbeats 4000000 in
set_option maxRecDepth 20000 in
theorem fbX0_regard_20_84_0 (x : XT)  (S : ST) (p2 : Int32) (p3 : Int32) (p4 : Int32) (r : Unit) (S' : ST) (hm : bfX0_regard_20_84_0 x  S p2 p3 p4 = some (r, S')) : Agr wX0_regard_20_84 S S' := by
    unfold bfX0_regard_20_84_0 at hm
    obtain ⟨o1, hm⟩ := oblk hm
    obtain ⟨o2, hm⟩ := oblk hm
    cases h3 : gfX0_regardUnknown_20_84 x S (S.2.1 87 p3.toNatClampNeg) (S.2.1 88 p3.toNatClampNeg) p4 with
    | none => rw [h3] at hm; cases hm
    | some q4 =>
      obtain ⟨r5, S6⟩ := q4
      rw [h3] at hm
      dsimp only at hm
      have a_S6 : Agr wX0_regard_20_84 S S6 := Agr.tr Agr.rf (Agr.sub (frX0_regardUnknown_20_84 x S (S.2.1 87 p3.toNatClampNeg) (S.2.1 88 p3.toNatClampNeg) p4 _ _ h3) (by decide))
      obtain ⟨o7, hm⟩ := oblk hm
      cases hm
      exact (Agr.i (Agr.i (Agr.i a_S6 21 3 (S6.2.1 92 p2.toNatClampNeg) (by decide)) 21 4 p3 (by decide)) 21 5 p2 (by decide))
theorem frX0_regard_20_84 (x : XT) (S : ST) (p2 : Int32) (p3 : Int32) (p4 : Int32) (r : Unit) (S' : ST) (hm : gfX0_regard_20_84 x S p2 p3 p4 = some (r, S')) : Agr wX0_regard_20_84 S S' := fbX0_regard_20_84_0 x S p2 p3 p4 r S' hm
def wX7_hasLaw_84 : List (Nat × Nat) × List Nat × List Nat × List Nat := ([], [], [], [])
set_option maxHeartbeats 4000000 in
set_option maxRecDepth 20000 in
theorem fbX7_hasLaw_84_17 (x : XT)  (S : ST) (t0 : Int32) (r : Int32) (S' : ST) (hm : bfX7_hasLaw_84_17 x  S t0 = some (r, S')) : Agr wX7_hasLaw_84 S S' := by
    unfold bfX7_hasLaw_84_17 at hm
    obtain ⟨o1, hm⟩ := oblk hm
    cases hm
    exact Agr.rf
set_option maxHeartbeats 4000000 in
set_option maxRecDepth 20000 in
theorem fbX7_hasLaw_84_16 (x : XT)  (S : ST)  (r : Int32) (S' : ST) (hm : bfX7_hasLaw_84_16 x  S  = some (r, S')) : Agr wX7_hasLaw_84 S S' := by
    unfold bfX7_hasLaw_84_16 at hm
    exact Agr.tr Agr.rf (fbX7_hasLaw_84_17 x  S 0 _ _ hm)
set_option maxHeartbeats 4000000 in
set_option maxRecDepth 20000 in
theorem fbX7_hasLaw_84_0 (x : XT)  (S : ST) (p1 : Int32) (r : Int32) (S' : ST) (hm : bfX7_hasLaw_84_0 x  S p1 = some (r, S')) : Agr wX7_hasLaw_84 S S' := by
    unfold bfX7_hasLaw_84_0 at hm
    by_cases c1 : p1 < 0
    · rw [if_pos c1] at hm
      exact Agr.tr Agr.rf (fbX7_hasLaw_84_16 x  S _ _ hm)
    · rw [if_neg c1] at hm
      by_cases c2 : (S.1 84 16) ≤ p1
      · rw [if_pos c2] at hm
        exact Agr.tr Agr.rf (fbX7_hasLaw_84_16 x  S _ _ hm)
      · rw [if_neg c2] at hm
        exact Agr.tr Agr.rf (fbX7_hasLaw_84_17 x  S 1 _ _ hm)
theorem frX7_hasLaw_84 (x : XT) (S : ST) (p1 : Int32) (r : Int32) (S' : ST) (hm : gfX7_hasLaw_84 x S p1 = some (r, S')) : Agr wX7_hasLaw_84 S S' := fbX7_hasLaw_84_0 x S p1 r S' hm
def wX7_inForce_84 : List (Nat × Nat) × List Nat × List Nat × List Nat := ([], [], [], [])
set_option maxHeartbeats 4000000 in
set_option maxRecDepth 20000 in
theorem fbX7_inForce_84_24 (x : XT)  (S : ST) (t0 : Option Nat) (r : Option Nat) (S' : ST) (hm : bfX7_inForce_84_24 x  S t0 = some (r, S')) : Agr wX7_inForce_84 S S' := by
    unfold bfX7_inForce_84_24 at hm
    cases hm
    exact Agr.rf
set_option maxHeartbeats 4000000 in
set_option maxRecDepth 20000 in
theorem fbX7_inForce_84_0 (x : XT)  (S : ST)  (r : Option Nat) (S' : ST) (hm : bfX7_inForce_84_0 x  S  = some (r, S')) : Agr wX7_inForce_84 S S' := by
    unfold bfX7_inForce_84_0 at hm
    cases h1 : gfX7_hasLaw_84 x S (S.1 84 18) with
    | none => rw [h1] at hm; cases hm
    | some q2 =>
      obtain ⟨r3, S4⟩ := q2
      rw [h1] at hm
      dsimp only at hm
      have a_S4 : Agr wX7_inForce_84 S S4 := Agr.tr Agr.rf (Agr.sub (frX7_hasLaw_84 x S (S.1 84 18) _ _ h1) (by decide))
      by_cases c5 : r3 = 0
      · rw [if_pos c5] at hm
        exact Agr.tr a_S4 (fbX7_inForce_84_24 x  S4 none _ _ hm)
      · rw [if_neg c5] at hm
        obtain ⟨o6, hm⟩ := oblk hm
        exact Agr.tr a_S4 (fbX7_inForce_84_24 x  S4 (S4.2.2.2 98 ((S4.1 84 18).toNatClampNeg)) _ _ hm)
theorem frX7_inForce_84 (x : XT) (S : ST)  (r : Option Nat) (S' : ST) (hm : gfX7_inForce_84 x S  = some (r, S')) : Agr wX7_inForce_84 S S' := fbX7_inForce_84_0 x S  r S' hm
def wX0_told_20_84 : List (Nat × Nat) × List Nat × List Nat × List Nat := ([], [22], [], [])
set_option maxHeartbeats 4000000 in
set_option maxRecDepth 20000 in
theorem fbX0_told_20_84_171 (x : XT)  (S : ST) (t0 : Int32) (r : Int32) (S' : ST) (hm : bfX0_told_20_84_171 x  S t0 = some (r, S')) : Agr wX0_told_20_84 S S' := by
    unfold bfX0_told_20_84_171 at hm
    cases hm
    exact Agr.rf
set_option maxHeartbeats 4000000 in
set_option maxRecDepth 20000 in
theorem fbX0_told_20_84_192 (x : XT)  (S : ST) (t0 : Int32) (r : Int32) (S' : ST) (hm : bfX0_told_20_84_192 x  S t0 = some (r, S')) : Agr wX0_told_20_84 S S' := by
    unfold bfX0_told_20_84_192 at hm
    cases hm
    exact Agr.rf
set_option maxHeartbeats 4000000 in
set_option maxRecDepth 20000 in
theorem fbX0_told_20_84_204 (x : XT)  (S : ST) (t0 : Int32) (r : Int32) (S' : ST) (hm : bfX0_told_20_84_204 x  S t0 = some (r, S')) : Agr wX0_told_20_84 S S' := by
    unfold bfX0_told_20_84_204 at hm
    cases hm
    exact Agr.rf
set_option maxHeartbeats 4000000 in
set_option maxRecDepth 20000 in
theorem fbX0_told_20_84_111 (x : XT)  (S : ST) (v2 : Int32) (v3 : Int32) (r : Int32) (S' : ST) (hm : bfX0_told_20_84_111 x  S v2 v3 = some (r, S')) : Agr wX0_told_20_84 S S' := by
    unfold bfX0_told_20_84_111 at hm
    by_cases c1 : v2 = 260
    · rw [if_pos c1] at hm
      by_cases c2 : ¬ v3 = (-2000000000)
      · rw [if_pos c2] at hm
        exact Agr.tr Agr.rf (fbX0_told_20_84_171 x  S (if 0 < (if 19 < v3 then 19 else v3) then (if 19 < v3 then 19 else v3) else 0) _ _ hm)
      · rw [if_neg c2] at hm
        exact Agr.tr Agr.rf (fbX0_told_20_84_171 x  S (if ((S.2.1 21 2) - 1) < 0 then 0 else ((S.2.1 21 2) - 1)) _ _ hm)
    rw [if_neg c1] at hm
    by_cases c3 : v2 = 261
    · rw [if_pos c3] at hm
      by_cases c4 : ¬ v3 = (-2000000000)
      · rw [if_pos c4] at hm
        exact Agr.tr Agr.rf (fbX0_told_20_84_192 x  S (if 0 < (if 9 < v3 then 9 else v3) then (if 9 < v3 then 9 else v3) else 0) _ _ hm)
      · rw [if_neg c4] at hm
        exact Agr.tr Agr.rf (fbX0_told_20_84_192 x  S 1 _ _ hm)
    rw [if_neg c3] at hm
    by_cases c5 : ¬ v3 = (-2000000000)
    · rw [if_pos c5] at hm
      exact Agr.tr Agr.rf (fbX0_told_20_84_204 x  S 1 _ _ hm)
    · rw [if_neg c5] at hm
      exact Agr.tr Agr.rf (fbX0_told_20_84_204 x  S 0 _ _ hm)
set_option maxHeartbeats 4000000 in
set_option maxRecDepth 20000 in
theorem fbX0_told_20_84_105 (x : XT) (k23 : ST → Int32 → Int32 → Nat → Int32 → Option (Int32 × ST)) (ak23 : ∀ (S : ST) (v2 : Int32) (v3 : Int32) (v4 : Nat) (v5 : Int32) (r : Int32) (S' : ST), k23 S v2 v3 v4 v5 = some (r, S') → Agr wX0_told_20_84 S S') (S : ST) (v2 : Int32) (v3 : Int32) (v4 : Nat) (v5 : Int32) (r : Int32) (S' : ST) (hm : bfX0_told_20_84_105 x k23 S v2 v3 v4 v5 = some (r, S')) : Agr wX0_told_20_84 S S' := by
    unfold bfX0_told_20_84_105 at hm
    obtain ⟨o1, hm⟩ := oblk hm
    exact Agr.tr Agr.rf (ak23 S v2 v3 v4 (v5 + (-1)) _ _ hm)
set_option maxHeartbeats 4000000 in
set_option maxRecDepth 20000 in
theorem fbX0_told_20_84_104 (x : XT) (k23 : ST → Int32 → Int32 → Nat → Int32 → Option (Int32 × ST)) (ak23 : ∀ (S : ST) (v2 : Int32) (v3 : Int32) (v4 : Nat) (v5 : Int32) (r : Int32) (S' : ST), k23 S v2 v3 v4 v5 = some (r, S') → Agr wX0_told_20_84 S S') (S : ST) (v2 : Int32) (v4 : Nat) (v5 : Int32) (t0 : Int32) (r : Int32) (S' : ST) (hm : bfX0_told_20_84_104 x k23 S v2 v4 v5 t0 = some (r, S')) : Agr wX0_told_20_84 S S' := by
    unfold bfX0_told_20_84_104 at hm
    obtain ⟨o1, hm⟩ := oblk hm
    exact Agr.tr Agr.rf (fbX0_told_20_84_105 x k23 ak23 S v2 t0 v4 v5 _ _ hm)
set_option maxHeartbeats 4000000 in
set_option maxRecDepth 20000 in
theorem fbX0_told_20_84_77 (x : XT) (k23 : ST → Int32 → Int32 → Nat → Int32 → Option (Int32 × ST)) (ak23 : ∀ (S : ST) (v2 : Int32) (v3 : Int32) (v4 : Nat) (v5 : Int32) (r : Int32) (S' : ST), k23 S v2 v3 v4 v5 = some (r, S') → Agr wX0_told_20_84 S S') (S : ST) (v2 : Int32) (v4 : Nat) (v5 : Int32) (r : Int32) (S' : ST) (hm : bfX0_told_20_84_77 x k23 S v2 v4 v5 = some (r, S')) : Agr wX0_told_20_84 S S' := by
    unfold bfX0_told_20_84_77 at hm
    obtain ⟨o1, hm⟩ := oblk hm
    by_cases c2 : ¬ v2 = 262
    · rw [if_pos c2] at hm
      cases h3 : gfX9_reckon_T_21_22 x S v4 v5 0 with
      | none => rw [h3] at hm; cases hm
      | some q4 =>
        obtain ⟨r5, S6⟩ := q4
        rw [h3] at hm
        dsimp only at hm
        have a_S6 : Agr wX0_told_20_84 S S6 := Agr.tr Agr.rf (Agr.sub (frX9_reckon_T_21_22 x S v4 v5 0 _ _ h3) (by decide))
        exact Agr.tr a_S6 (fbX0_told_20_84_104 x k23 ak23 S6 v2 v4 v5 r5 _ _ hm)
    · rw [if_neg c2] at hm
      exact Agr.tr Agr.rf (fbX0_told_20_84_104 x k23 ak23 S v2 v4 v5 1 _ _ hm)
set_option maxHeartbeats 4000000 in
set_option maxRecDepth 20000 in
theorem fbX0_told_20_84_23 (x : XT) (k23 : ST → Int32 → Int32 → Nat → Int32 → Option (Int32 × ST)) (ak23 : ∀ (S : ST) (v2 : Int32) (v3 : Int32) (v4 : Nat) (v5 : Int32) (r : Int32) (S' : ST), k23 S v2 v3 v4 v5 = some (r, S') → Agr wX0_told_20_84 S S') (S : ST) (v2 : Int32) (v3 : Int32) (v4 : Nat) (v5 : Int32) (r : Int32) (S' : ST) (hm : bfX0_told_20_84_23 x k23 S v2 v3 v4 v5 = some (r, S')) : Agr wX0_told_20_84 S S' := by
    unfold bfX0_told_20_84_23 at hm
    obtain ⟨o1, hm⟩ := oblk hm
    by_cases c2 : v5 < 0
    · rw [if_pos c2] at hm
      exact Agr.tr Agr.rf (fbX0_told_20_84_111 x  S v2 v3 _ _ hm)
    · rw [if_neg c2] at hm
      by_cases c3 : ¬ v3 = (-2000000000)
      · rw [if_pos c3] at hm
        exact Agr.tr Agr.rf (fbX0_told_20_84_111 x  S v2 v3 _ _ hm)
      · rw [if_neg c3] at hm
        obtain ⟨o4, hm⟩ := oblk hm
        by_cases c5 : ¬ (S.2.1 (v4 + 1) v5.toNatClampNeg) = v2
        · rw [if_pos c5] at hm
          exact Agr.tr Agr.rf (fbX0_told_20_84_105 x k23 ak23 S v2 v3 v4 v5 _ _ hm)
        · rw [if_neg c5] at hm
          cases h6 : gfX9_has_T x S v4 v5 2 with
          | none => rw [h6] at hm; cases hm
          | some q7 =>
            obtain ⟨r8, S9⟩ := q7
            rw [h6] at hm
            dsimp only at hm
            have a_S9 : Agr wX0_told_20_84 S S9 := Agr.tr Agr.rf (Agr.sub (frX9_has_T x S v4 v5 2 _ _ h6) (by decide))
            by_cases c10 : r8 = 0
            · rw [if_pos c10] at hm
              exact Agr.tr a_S9 (fbX0_told_20_84_77 x k23 ak23 S9 v2 v4 v5 _ _ hm)
            · rw [if_neg c10] at hm
              cases h11 : gfX9_reckon_T_21_22 x S9 v4 v5 2 with
              | none => rw [h11] at hm; cases hm
              | some q12 =>
                obtain ⟨r13, S14⟩ := q12
                rw [h11] at hm
                dsimp only at hm
                have a_S14 : Agr wX0_told_20_84 S S14 := Agr.tr a_S9 (Agr.sub (frX9_reckon_T_21_22 x S9 v4 v5 2 _ _ h11) (by decide))
                by_cases c15 : ¬ r13 = 1
                · rw [if_pos c15] at hm
                  exact Agr.tr a_S14 (fbX0_told_20_84_105 x k23 ak23 S14 v2 v3 v4 v5 _ _ hm)
                · rw [if_neg c15] at hm
                  exact Agr.tr a_S14 (fbX0_told_20_84_77 x k23 ak23 S14 v2 v4 v5 _ _ hm)
theorem flX0_told_20_84_23 (x : XT)  : ∀ (n : Nat) (S : ST) (v2 : Int32) (v3 : Int32) (v4 : Nat) (v5 : Int32) (r : Int32) (S' : ST), lfX0_told_20_84_23 x  n S v2 v3 v4 v5 = some (r, S') → Agr wX0_told_20_84 S S'
  | 0, _, _, _, _, _, _, _, hm => by cases hm
  | n + 1, S, v2, v3, v4, v5, r, S', hm => fbX0_told_20_84_23 x (lfX0_told_20_84_23 x  n) (flX0_told_20_84_23 x  n) S v2 v3 v4 v5 r S' hm
set_option maxHeartbeats 4000000 in
set_option maxRecDepth 20000 in
theorem fbX0_told_20_84_0 (x : XT)  (S : ST) (p2 : Int32) (r : Int32) (S' : ST) (hm : bfX0_told_20_84_0 x  S p2 = some (r, S')) : Agr wX0_told_20_84 S S' := by
    unfold bfX0_told_20_84_0 at hm
    cases h1 : gfX7_inForce_84 x S with
    | none => rw [h1] at hm; cases hm
    | some q2 =>
      obtain ⟨r3, S4⟩ := q2
      rw [h1] at hm
      dsimp only at hm
      have a_S4 : Agr wX0_told_20_84 S S4 := Agr.tr Agr.rf (Agr.sub (frX7_inForce_84 x S _ _ h1) (by decide))
      rcases hz : r3 with _ | t5
      · rw [hz] at hm
        exact Agr.tr a_S4 (fbX0_told_20_84_111 x  S4 p2 (-2000000000) _ _ hm)
      · rw [hz] at hm
        obtain ⟨o6, hm⟩ := oblk hm
        exact Agr.tr a_S4 (flX0_told_20_84_23 x  20000 S4 p2 (-2000000000) t5 ((S4.1 t5 0) - 1) _ _ hm)
theorem frX0_told_20_84 (x : XT) (S : ST) (p2 : Int32) (r : Int32) (S' : ST) (hm : gfX0_told_20_84 x S p2 = some (r, S')) : Agr wX0_told_20_84 S S' := fbX0_told_20_84_0 x S p2 r S' hm
def wX0_can_20_84 : List (Nat × Nat) × List Nat × List Nat × List Nat := ([], [21, 22], [], [])
set_option maxHeartbeats 4000000 in
set_option maxRecDepth 20000 in
theorem fbX0_can_20_84_24 (x : XT)  (S : ST)  (r : Int32) (S' : ST) (hm : bfX0_can_20_84_24 x  S  = some (r, S')) : Agr wX0_can_20_84 S S' := by
    unfold bfX0_can_20_84_24 at hm
    cases hm
    exact Agr.rf
set_option maxHeartbeats 4000000 in
set_option maxRecDepth 20000 in
theorem fbX0_can_20_84_55 (x : XT)  (S : ST) (t0 : Int32) (r : Int32) (S' : ST) (hm : bfX0_can_20_84_55 x  S t0 = some (r, S')) : Agr wX0_can_20_84 S S' := by
    unfold bfX0_can_20_84_55 at hm
    obtain ⟨o1, hm⟩ := oblk hm
    cases hm
    exact Agr.rf
set_option maxHeartbeats 4000000 in
set_option maxRecDepth 20000 in
theorem fbX0_can_20_84_0 (x : XT)  (S : ST) (p2 : Int32) (p3 : Int32) (r : Int32) (S' : ST) (hm : bfX0_can_20_84_0 x  S p2 p3 = some (r, S')) : Agr wX0_can_20_84 S S' := by
    unfold bfX0_can_20_84_0 at hm
    obtain ⟨o1, hm⟩ := oblk hm
    obtain ⟨o2, hm⟩ := oblk hm
    by_cases c3 : ¬ (S.2.1 90 p2.toNatClampNeg) = (S.2.1 85 p3.toNatClampNeg)
    · rw [if_pos c3] at hm
      exact Agr.tr Agr.rf (fbX0_can_20_84_24 x  S _ _ hm)
    · rw [if_neg c3] at hm
      obtain ⟨o4, hm⟩ := oblk hm
      by_cases c5 : ¬ (S.2.1 89 p3.toNatClampNeg) = 0
      · rw [if_pos c5] at hm
        obtain ⟨o6, hm⟩ := oblk hm
        cases h7 : gfX0_regard_20_84 x S p2 p3 (S.2.1 91 p2.toNatClampNeg) with
        | none => rw [h7] at hm; cases hm
        | some q8 =>
          obtain ⟨r9, S10⟩ := q8
          rw [h7] at hm
          dsimp only at hm
          have a_S10 : Agr wX0_can_20_84 S S10 := Agr.tr Agr.rf (Agr.sub (frX0_regard_20_84 x S p2 p3 (S.2.1 91 p2.toNatClampNeg) _ _ h7) (by decide))
          cases h11 : gfX0_told_20_84 x S10 262 with
          | none => rw [h11] at hm; cases hm
          | some q12 =>
            obtain ⟨r13, S14⟩ := q12
            rw [h11] at hm
            dsimp only at hm
            have a_S14 : Agr wX0_can_20_84 S S14 := Agr.tr a_S10 (Agr.sub (frX0_told_20_84 x S10 262 _ _ h11) (by decide))
            by_cases c15 : ¬ r13 = 0
            · rw [if_pos c15] at hm
              exact Agr.tr a_S14 (fbX0_can_20_84_55 x  S14 0 _ _ hm)
            · rw [if_neg c15] at hm
              exact Agr.tr a_S14 (fbX0_can_20_84_55 x  S14 1 _ _ hm)
      · rw [if_neg c5] at hm
        exact Agr.tr Agr.rf (fbX0_can_20_84_24 x  S _ _ hm)
theorem frX0_can_20_84 (x : XT) (S : ST) (p2 : Int32) (p3 : Int32) (r : Int32) (S' : ST) (hm : gfX0_can_20_84 x S p2 p3 = some (r, S')) : Agr wX0_can_20_84 S S' := fbX0_can_20_84_0 x S p2 p3 r S' hm
def wX0_move_20_84 : List (Nat × Nat) × List Nat × List Nat × List Nat := ([], [21, 22, 90, 91, 93], [], [])
set_option maxHeartbeats 4000000 in
set_option maxRecDepth 20000 in
theorem fbX0_move_20_84_0 (x : XT)  (S : ST) (p2 : Int32) (p3 : Int32) (r : Unit) (S' : ST) (hm : bfX0_move_20_84_0 x  S p2 p3 = some (r, S')) : Agr wX0_move_20_84 S S' := by
    unfold bfX0_move_20_84_0 at hm
    obtain ⟨o1, hm⟩ := oblk hm
    cases h2 : gfX0_regard_20_84 x S p2 p3 (S.2.1 91 p2.toNatClampNeg) with
    | none => rw [h2] at hm; cases hm
    | some q3 =>
      obtain ⟨r4, S5⟩ := q3
      rw [h2] at hm
      dsimp only at hm
      have a_S5 : Agr wX0_move_20_84 S S5 := Agr.tr Agr.rf (Agr.sub (frX0_regard_20_84 x S p2 p3 (S.2.1 91 p2.toNatClampNeg) _ _ h2) (by decide))
      cases h6 : gfX0_told_20_84 x S5 260 with
      | none => rw [h6] at hm; cases hm
      | some q7 =>
        obtain ⟨r8, S9⟩ := q7
        rw [h6] at hm
        dsimp only at hm
        have a_S9 : Agr wX0_move_20_84 S S9 := Agr.tr a_S5 (Agr.sub (frX0_told_20_84 x S5 260 _ _ h6) (by decide))
        cases h10 : gfX0_told_20_84 x S9 261 with
        | none => rw [h10] at hm; cases hm
        | some q11 =>
          obtain ⟨r12, S13⟩ := q11
          rw [h10] at hm
          dsimp only at hm
          have a_S13 : Agr wX0_move_20_84 S S13 := Agr.tr a_S9 (Agr.sub (frX0_told_20_84 x S9 261 _ _ h10) (by decide))
          obtain ⟨o14, hm⟩ := oblk hm
          obtain ⟨o15, hm⟩ := oblk hm
          obtain ⟨o16, hm⟩ := oblk hm
          obtain ⟨o17, hm⟩ := oblk hm
          obtain ⟨o18, hm⟩ := oblk hm
          cases hm
          exact (Agr.i (Agr.i (Agr.i a_S13 90 p2.toNatClampNeg (S13.2.1 86 p3.toNatClampNeg) (by decide)) 91 p2.toNatClampNeg r8 (by decide)) 93 p2.toNatClampNeg (if 9999 < ((S13.2.1 93 p2.toNatClampNeg) + r12) then 9999 else ((S13.2.1 93 p2.toNatClampNeg) + r12)) (by decide))
theorem frX0_move_20_84 (x : XT) (S : ST) (p2 : Int32) (p3 : Int32) (r : Unit) (S' : ST) (hm : gfX0_move_20_84 x S p2 p3 = some (r, S')) : Agr wX0_move_20_84 S S' := fbX0_move_20_84_0 x S p2 p3 r S' hm
def wX7_copyFrom_84_1 : List (Nat × Nat) × List Nat × List Nat × List Nat := ([(84, 0), (84, 6), (84, 11), (84, 16), (84, 18)], [85, 86, 87, 88, 89, 90, 91, 92, 93, 94, 95, 96, 97], [], [98])
set_option maxHeartbeats 4000000 in
set_option maxRecDepth 20000 in
theorem fbX7_copyFrom_84_1_252 (x : XT) (k252 : ST → Int32 → Option (Unit × ST)) (ak252 : ∀ (S : ST) (v2 : Int32) (r : Unit) (S' : ST), k252 S v2 = some (r, S') → Agr wX7_copyFrom_84_1 S S') (S : ST) (v2 : Int32) (r : Unit) (S' : ST) (hm : bfX7_copyFrom_84_1_252 x k252 S v2 = some (r, S')) : Agr wX7_copyFrom_84_1 S S' := by
    unfold bfX7_copyFrom_84_1_252 at hm
    by_cases c1 : 6 ≤ v2
    · rw [if_pos c1] at hm
      cases hm
      exact Agr.rf
    · rw [if_neg c1] at hm
      obtain ⟨o2, hm⟩ := oblk hm
      obtain ⟨o3, hm⟩ := oblk hm
      obtain ⟨o4, hm⟩ := oblk hm
      exact Agr.tr (Agr.q Agr.rf 98 v2.toNatClampNeg (S.2.2.2 15 v2.toNatClampNeg) (by decide)) (ak252 (S.1, S.2.1, S.2.2.1, (u2 S.2.2.2 98 v2.toNatClampNeg (S.2.2.2 15 v2.toNatClampNeg))) (v2 + 1) _ _ hm)
theorem flX7_copyFrom_84_1_252 (x : XT)  : ∀ (n : Nat) (S : ST) (v2 : Int32) (r : Unit) (S' : ST), lfX7_copyFrom_84_1_252 x  n S v2 = some (r, S') → Agr wX7_copyFrom_84_1 S S'
  | 0, _, _, _, _, hm => by cases hm
  | n + 1, S, v2, r, S', hm => fbX7_copyFrom_84_1_252 x (lfX7_copyFrom_84_1_252 x  n) (flX7_copyFrom_84_1_252 x  n) S v2 r S' hm
set_option maxHeartbeats 4000000 in
set_option maxRecDepth 20000 in
theorem fbX7_copyFrom_84_1_227 (x : XT) (k227 : ST → Int32 → Option (Unit × ST)) (ak227 : ∀ (S : ST) (v2 : Int32) (r : Unit) (S' : ST), k227 S v2 = some (r, S') → Agr wX7_copyFrom_84_1 S S') (S : ST) (v2 : Int32) (r : Unit) (S' : ST) (hm : bfX7_copyFrom_84_1_227 x k227 S v2 = some (r, S')) : Agr wX7_copyFrom_84_1 S S' := by
    unfold bfX7_copyFrom_84_1_227 at hm
    by_cases c1 : 3 ≤ v2
    · rw [if_pos c1] at hm
      exact Agr.tr Agr.rf (flX7_copyFrom_84_1_252 x  20000 S 0 _ _ hm)
    · rw [if_neg c1] at hm
      obtain ⟨o2, hm⟩ := oblk hm
      obtain ⟨o3, hm⟩ := oblk hm
      exact Agr.tr (Agr.i Agr.rf 97 v2.toNatClampNeg (S.2.1 14 v2.toNatClampNeg) (by decide)) (ak227 (S.1, (u2 S.2.1 97 v2.toNatClampNeg (S.2.1 14 v2.toNatClampNeg)), S.2.2.1, S.2.2.2) (v2 + 1) _ _ hm)
theorem flX7_copyFrom_84_1_227 (x : XT)  : ∀ (n : Nat) (S : ST) (v2 : Int32) (r : Unit) (S' : ST), lfX7_copyFrom_84_1_227 x  n S v2 = some (r, S') → Agr wX7_copyFrom_84_1 S S'
  | 0, _, _, _, _, hm => by cases hm
  | n + 1, S, v2, r, S', hm => fbX7_copyFrom_84_1_227 x (lfX7_copyFrom_84_1_227 x  n) (flX7_copyFrom_84_1_227 x  n) S v2 r S' hm
set_option maxHeartbeats 4000000 in
set_option maxRecDepth 20000 in
theorem fbX7_copyFrom_84_1_177 (x : XT) (k177 : ST → Int32 → Option (Unit × ST)) (ak177 : ∀ (S : ST) (v2 : Int32) (r : Unit) (S' : ST), k177 S v2 = some (r, S') → Agr wX7_copyFrom_84_1 S S') (S : ST) (v2 : Int32) (r : Unit) (S' : ST) (hm : bfX7_copyFrom_84_1_177 x k177 S v2 = some (r, S')) : Agr wX7_copyFrom_84_1 S S' := by
    unfold bfX7_copyFrom_84_1_177 at hm
    by_cases c1 : 6 ≤ v2
    · rw [if_pos c1] at hm
      exact Agr.tr Agr.rf (flX7_copyFrom_84_1_227 x  20000 S 0 _ _ hm)
    · rw [if_neg c1] at hm
      obtain ⟨o2, hm⟩ := oblk hm
      obtain ⟨o3, hm⟩ := oblk hm
      obtain ⟨o4, hm⟩ := oblk hm
      obtain ⟨o5, hm⟩ := oblk hm
      obtain ⟨o6, hm⟩ := oblk hm
      obtain ⟨o7, hm⟩ := oblk hm
      exact Agr.tr (Agr.i (Agr.i (Agr.i Agr.rf 94 v2.toNatClampNeg (S.2.1 11 v2.toNatClampNeg) (by decide)) 95 v2.toNatClampNeg (S.2.1 12 v2.toNatClampNeg) (by decide)) 96 v2.toNatClampNeg (S.2.1 13 v2.toNatClampNeg) (by decide)) (ak177 (S.1, (u2 (u2 (u2 S.2.1 94 v2.toNatClampNeg (S.2.1 11 v2.toNatClampNeg)) 95 v2.toNatClampNeg (S.2.1 12 v2.toNatClampNeg)) 96 v2.toNatClampNeg (S.2.1 13 v2.toNatClampNeg)), S.2.2.1, S.2.2.2) (v2 + 1) _ _ hm)
theorem flX7_copyFrom_84_1_177 (x : XT)  : ∀ (n : Nat) (S : ST) (v2 : Int32) (r : Unit) (S' : ST), lfX7_copyFrom_84_1_177 x  n S v2 = some (r, S') → Agr wX7_copyFrom_84_1 S S'
  | 0, _, _, _, _, hm => by cases hm
  | n + 1, S, v2, r, S', hm => fbX7_copyFrom_84_1_177 x (lfX7_copyFrom_84_1_177 x  n) (flX7_copyFrom_84_1_177 x  n) S v2 r S' hm
set_option maxHeartbeats 4000000 in
set_option maxRecDepth 20000 in
theorem fbX7_copyFrom_84_1_116 (x : XT) (k116 : ST → Int32 → Option (Unit × ST)) (ak116 : ∀ (S : ST) (v2 : Int32) (r : Unit) (S' : ST), k116 S v2 = some (r, S') → Agr wX7_copyFrom_84_1 S S') (S : ST) (v2 : Int32) (r : Unit) (S' : ST) (hm : bfX7_copyFrom_84_1_116 x k116 S v2 = some (r, S')) : Agr wX7_copyFrom_84_1 S S' := by
    unfold bfX7_copyFrom_84_1_116 at hm
    by_cases c1 : 5 ≤ v2
    · rw [if_pos c1] at hm
      exact Agr.tr Agr.rf (flX7_copyFrom_84_1_177 x  20000 S 0 _ _ hm)
    · rw [if_neg c1] at hm
      obtain ⟨o2, hm⟩ := oblk hm
      obtain ⟨o3, hm⟩ := oblk hm
      obtain ⟨o4, hm⟩ := oblk hm
      obtain ⟨o5, hm⟩ := oblk hm
      obtain ⟨o6, hm⟩ := oblk hm
      obtain ⟨o7, hm⟩ := oblk hm
      obtain ⟨o8, hm⟩ := oblk hm
      obtain ⟨o9, hm⟩ := oblk hm
      exact Agr.tr (Agr.i (Agr.i (Agr.i (Agr.i Agr.rf 90 v2.toNatClampNeg (S.2.1 7 v2.toNatClampNeg) (by decide)) 91 v2.toNatClampNeg (S.2.1 8 v2.toNatClampNeg) (by decide)) 92 v2.toNatClampNeg (S.2.1 9 v2.toNatClampNeg) (by decide)) 93 v2.toNatClampNeg (S.2.1 10 v2.toNatClampNeg) (by decide)) (ak116 (S.1, (u2 (u2 (u2 (u2 S.2.1 90 v2.toNatClampNeg (S.2.1 7 v2.toNatClampNeg)) 91 v2.toNatClampNeg (S.2.1 8 v2.toNatClampNeg)) 92 v2.toNatClampNeg (S.2.1 9 v2.toNatClampNeg)) 93 v2.toNatClampNeg (S.2.1 10 v2.toNatClampNeg)), S.2.2.1, S.2.2.2) (v2 + 1) _ _ hm)
theorem flX7_copyFrom_84_1_116 (x : XT)  : ∀ (n : Nat) (S : ST) (v2 : Int32) (r : Unit) (S' : ST), lfX7_copyFrom_84_1_116 x  n S v2 = some (r, S') → Agr wX7_copyFrom_84_1 S S'
  | 0, _, _, _, _, hm => by cases hm
  | n + 1, S, v2, r, S', hm => fbX7_copyFrom_84_1_116 x (lfX7_copyFrom_84_1_116 x  n) (flX7_copyFrom_84_1_116 x  n) S v2 r S' hm
set_option maxHeartbeats 4000000 in
set_option maxRecDepth 20000 in
theorem fbX7_copyFrom_84_1_42 (x : XT) (k42 : ST → Int32 → Option (Unit × ST)) (ak42 : ∀ (S : ST) (v2 : Int32) (r : Unit) (S' : ST), k42 S v2 = some (r, S') → Agr wX7_copyFrom_84_1 S S') (S : ST) (v2 : Int32) (r : Unit) (S' : ST) (hm : bfX7_copyFrom_84_1_42 x k42 S v2 = some (r, S')) : Agr wX7_copyFrom_84_1 S S' := by
    unfold bfX7_copyFrom_84_1_42 at hm
    by_cases c1 : 10 ≤ v2
    · rw [if_pos c1] at hm
      exact Agr.tr Agr.rf (flX7_copyFrom_84_1_116 x  20000 S 0 _ _ hm)
    · rw [if_neg c1] at hm
      obtain ⟨o2, hm⟩ := oblk hm
      obtain ⟨o3, hm⟩ := oblk hm
      obtain ⟨o4, hm⟩ := oblk hm
      obtain ⟨o5, hm⟩ := oblk hm
      obtain ⟨o6, hm⟩ := oblk hm
      obtain ⟨o7, hm⟩ := oblk hm
      obtain ⟨o8, hm⟩ := oblk hm
      obtain ⟨o9, hm⟩ := oblk hm
      obtain ⟨o10, hm⟩ := oblk hm
      obtain ⟨o11, hm⟩ := oblk hm
      exact Agr.tr (Agr.i (Agr.i (Agr.i (Agr.i (Agr.i Agr.rf 85 v2.toNatClampNeg (S.2.1 2 v2.toNatClampNeg) (by decide)) 86 v2.toNatClampNeg (S.2.1 3 v2.toNatClampNeg) (by decide)) 87 v2.toNatClampNeg (S.2.1 4 v2.toNatClampNeg) (by decide)) 88 v2.toNatClampNeg (S.2.1 5 v2.toNatClampNeg) (by decide)) 89 v2.toNatClampNeg (vp_nar .boolean (S.2.1 6 v2.toNatClampNeg)) (by decide)) (ak42 (S.1, (u2 (u2 (u2 (u2 (u2 S.2.1 85 v2.toNatClampNeg (S.2.1 2 v2.toNatClampNeg)) 86 v2.toNatClampNeg (S.2.1 3 v2.toNatClampNeg)) 87 v2.toNatClampNeg (S.2.1 4 v2.toNatClampNeg)) 88 v2.toNatClampNeg (S.2.1 5 v2.toNatClampNeg)) 89 v2.toNatClampNeg (vp_nar .boolean (S.2.1 6 v2.toNatClampNeg))), S.2.2.1, S.2.2.2) (v2 + 1) _ _ hm)
theorem flX7_copyFrom_84_1_42 (x : XT)  : ∀ (n : Nat) (S : ST) (v2 : Int32) (r : Unit) (S' : ST), lfX7_copyFrom_84_1_42 x  n S v2 = some (r, S') → Agr wX7_copyFrom_84_1 S S'
  | 0, _, _, _, _, hm => by cases hm
  | n + 1, S, v2, r, S', hm => fbX7_copyFrom_84_1_42 x (lfX7_copyFrom_84_1_42 x  n) (flX7_copyFrom_84_1_42 x  n) S v2 r S' hm
set_option maxHeartbeats 4000000 in
set_option maxRecDepth 20000 in
theorem fbX7_copyFrom_84_1_0 (x : XT)  (S : ST)  (r : Unit) (S' : ST) (hm : bfX7_copyFrom_84_1_0 x  S  = some (r, S')) : Agr wX7_copyFrom_84_1 S S' := by
    unfold bfX7_copyFrom_84_1_0 at hm
    exact Agr.tr (Agr.f (Agr.f (Agr.f (Agr.f (Agr.f Agr.rf 84 0 (S.1 1 0) (by decide)) 84 6 (S.1 1 6) (by decide)) 84 11 (S.1 1 11) (by decide)) 84 16 (S.1 1 16) (by decide)) 84 18 (S.1 1 18) (by decide)) (flX7_copyFrom_84_1_42 x  20000 ((u2 (u2 (u2 (u2 (u2 S.1 84 0 (S.1 1 0)) 84 6 (S.1 1 6)) 84 11 (S.1 1 11)) 84 16 (S.1 1 16)) 84 18 (S.1 1 18)), S.2.1, S.2.2.1, S.2.2.2) 0 _ _ hm)
theorem frX7_copyFrom_84_1 (x : XT) (S : ST)  (r : Unit) (S' : ST) (hm : gfX7_copyFrom_84_1 x S  = some (r, S')) : Agr wX7_copyFrom_84_1 S S' := fbX7_copyFrom_84_1_0 x S  r S' hm
def wX2_run_83_1 : List (Nat × Nat) × List Nat × List Nat × List Nat := ([(83, 2), (84, 0), (84, 6), (84, 11), (84, 16), (84, 18)], [21, 22, 85, 86, 87, 88, 89, 90, 91, 92, 93, 94, 95, 96, 97], [], [98])
set_option maxHeartbeats 4000000 in
set_option maxRecDepth 20000 in
theorem fbX2_run_83_1_145 (x : XT)  (S : ST) (v4 : Int32) (r : Int32) (S' : ST) (hm : bfX2_run_83_1_145 x  S v4 = some (r, S')) : Agr wX2_run_83_1 S S' := by
    unfold bfX2_run_83_1_145 at hm
    cases hm
    exact Agr.rf
set_option maxHeartbeats 4000000 in
set_option maxRecDepth 20000 in
theorem fbX2_run_83_1_126 (x : XT) (k19 : ST → Int32 → Int32 → Int32 → Option (Int32 × ST)) (ak19 : ∀ (S : ST) (v3 : Int32) (v4 : Int32) (v5 : Int32) (r : Int32) (S' : ST), k19 S v3 v4 v5 = some (r, S') → Agr wX2_run_83_1 S S') (S : ST) (v3 : Int32) (v4 : Int32) (v5 : Int32) (r : Int32) (S' : ST) (hm : bfX2_run_83_1_126 x k19 S v3 v4 v5 = some (r, S')) : Agr wX2_run_83_1 S S' := by
    unfold bfX2_run_83_1_126 at hm
    exact Agr.tr (Agr.i Agr.rf 97 0 ((S.2.1 97 0) + 1) (by decide)) (ak19 (S.1, (u2 S.2.1 97 0 ((S.2.1 97 0) + 1)), S.2.2.1, S.2.2.2) v3 v4 (v5 + 1) _ _ hm)
set_option maxHeartbeats 4000000 in
set_option maxRecDepth 20000 in
theorem fbX2_run_83_1_19 (x : XT) (k19 : ST → Int32 → Int32 → Int32 → Option (Int32 × ST)) (ak19 : ∀ (S : ST) (v3 : Int32) (v4 : Int32) (v5 : Int32) (r : Int32) (S' : ST), k19 S v3 v4 v5 = some (r, S') → Agr wX2_run_83_1 S S') (S : ST) (v3 : Int32) (v4 : Int32) (v5 : Int32) (r : Int32) (S' : ST) (hm : bfX2_run_83_1_19 x k19 S v3 v4 v5 = some (r, S')) : Agr wX2_run_83_1 S S' := by
    unfold bfX2_run_83_1_19 at hm
    by_cases c1 : v3 ≤ v5
    · rw [if_pos c1] at hm
      exact Agr.tr Agr.rf (fbX2_run_83_1_145 x  S v4 _ _ hm)
    · rw [if_neg c1] at hm
      by_cases c2 : 999 ≤ (S.2.1 97 0)
      · rw [if_pos c2] at hm
        exact Agr.tr Agr.rf (fbX2_run_83_1_145 x  S v4 _ _ hm)
      · rw [if_neg c2] at hm
        cases h3 : gfX2_draw_83 x S (S.1 84 6) with
        | none => rw [h3] at hm; cases hm
        | some q4 =>
          obtain ⟨r5, S6⟩ := q4
          rw [h3] at hm
          dsimp only at hm
          have a_S6 : Agr wX2_run_83_1 S S6 := Agr.tr Agr.rf (Agr.sub (frX2_draw_83 x S (S.1 84 6) _ _ h3) (by decide))
          cases h7 : gfX2_draw_83 x S6 (S6.1 84 0) with
          | none => rw [h7] at hm; cases hm
          | some q8 =>
            obtain ⟨r9, S10⟩ := q8
            rw [h7] at hm
            dsimp only at hm
            have a_S10 : Agr wX2_run_83_1 S S10 := Agr.tr a_S6 (Agr.sub (frX2_draw_83 x S6 (S6.1 84 0) _ _ h7) (by decide))
            cases h11 : gfX7_hasGoer_84 x S10 r5 with
            | none => rw [h11] at hm; cases hm
            | some q12 =>
              obtain ⟨r13, S14⟩ := q12
              rw [h11] at hm
              dsimp only at hm
              have a_S14 : Agr wX2_run_83_1 S S14 := Agr.tr a_S10 (Agr.sub (frX7_hasGoer_84 x S10 r5 _ _ h11) (by decide))
              by_cases c15 : r13 = 0
              · rw [if_pos c15] at hm
                exact Agr.tr a_S14 (fbX2_run_83_1_126 x k19 ak19 S14 v3 v4 v5 _ _ hm)
              · rw [if_neg c15] at hm
                cases h16 : gfX7_hasGate_84 x S14 r9 with
                | none => rw [h16] at hm; cases hm
                | some q17 =>
                  obtain ⟨r18, S19⟩ := q17
                  rw [h16] at hm
                  dsimp only at hm
                  have a_S19 : Agr wX2_run_83_1 S S19 := Agr.tr a_S14 (Agr.sub (frX7_hasGate_84 x S14 r9 _ _ h16) (by decide))
                  by_cases c20 : r18 = 0
                  · rw [if_pos c20] at hm
                    exact Agr.tr a_S19 (fbX2_run_83_1_126 x k19 ak19 S19 v3 v4 v5 _ _ hm)
                  · rw [if_neg c20] at hm
                    cases h21 : gfX0_can_20_84 x S19 r5 r9 with
                    | none => rw [h21] at hm; cases hm
                    | some q22 =>
                      obtain ⟨r23, S24⟩ := q22
                      rw [h21] at hm
                      dsimp only at hm
                      have a_S24 : Agr wX2_run_83_1 S S24 := Agr.tr a_S19 (Agr.sub (frX0_can_20_84 x S19 r5 r9 _ _ h21) (by decide))
                      by_cases c25 : r23 = 0
                      · rw [if_pos c25] at hm
                        exact Agr.tr a_S24 (fbX2_run_83_1_126 x k19 ak19 S24 v3 v4 v5 _ _ hm)
                      · rw [if_neg c25] at hm
                        cases h26 : gfX0_move_20_84 x S24 r5 r9 with
                        | none => rw [h26] at hm; cases hm
                        | some q27 =>
                          obtain ⟨r28, S29⟩ := q27
                          rw [h26] at hm
                          dsimp only at hm
                          have a_S29 : Agr wX2_run_83_1 S S29 := Agr.tr a_S24 (Agr.sub (frX0_move_20_84 x S24 r5 r9 _ _ h26) (by decide))
                          exact Agr.tr a_S29 (fbX2_run_83_1_126 x k19 ak19 S29 v3 (v4 + 1) v5 _ _ hm)
theorem flX2_run_83_1_19 (x : XT)  : ∀ (n : Nat) (S : ST) (v3 : Int32) (v4 : Int32) (v5 : Int32) (r : Int32) (S' : ST), lfX2_run_83_1_19 x  n S v3 v4 v5 = some (r, S') → Agr wX2_run_83_1 S S'
  | 0, _, _, _, _, _, _, hm => by cases hm
  | n + 1, S, v3, v4, v5, r, S', hm => fbX2_run_83_1_19 x (lfX2_run_83_1_19 x  n) (flX2_run_83_1_19 x  n) S v3 v4 v5 r S' hm
set_option maxHeartbeats 4000000 in
set_option maxRecDepth 20000 in
theorem fbX2_run_83_1_0 (x : XT)  (S : ST) (p2 : Int32) (p3 : Int32) (r : Int32) (S' : ST) (hm : bfX2_run_83_1_0 x  S p2 p3 = some (r, S')) : Agr wX2_run_83_1 S S' := by
    unfold bfX2_run_83_1_0 at hm
    cases h1 : gfX7_copyFrom_84_1 x S with
    | none => rw [h1] at hm; cases hm
    | some q2 =>
      obtain ⟨r3, S4⟩ := q2
      rw [h1] at hm
      dsimp only at hm
      have a_S4 : Agr wX2_run_83_1 S S4 := Agr.tr Agr.rf (Agr.sub (frX7_copyFrom_84_1 x S _ _ h1) (by decide))
      exact Agr.tr (Agr.f a_S4 83 2 p2 (by decide)) (flX2_run_83_1_19 x  20000 ((u2 S4.1 83 2 p2), S4.2.1, S4.2.2.1, S4.2.2.2) p3 0 0 _ _ hm)
theorem frX2_run_83_1 (x : XT) (S : ST) (p2 : Int32) (p3 : Int32) (r : Int32) (S' : ST) (hm : gfX2_run_83_1 x S p2 p3 = some (r, S')) : Agr wX2_run_83_1 S S' := fbX2_run_83_1_0 x S p2 p3 r S' hm
end FRA
