section FRA
def wX5_lookRound_51 : List (Nat × Nat) × List Nat × List Nat × List Nat := ([], [52], [], [])
set_option maxHeartbeats 4000000 in
set_option maxRecDepth 20000 in
theorem fbX5_lookRound_51_182 (x : XT) (k144 : ST → Int32 → Option (Unit × ST)) (ak144 : ∀ (S : ST) (v1 : Int32) (r : Unit) (S' : ST), k144 S v1 = some (r, S') → Agr wX5_lookRound_51 S S') (S : ST) (v1 : Int32) (t1 : Int32) (t2 : Int32) (r : Unit) (S' : ST) (hm : bfX5_lookRound_51_182 x k144 S v1 t1 t2 = some (r, S')) : Agr wX5_lookRound_51 S S' := by
    unfold bfX5_lookRound_51_182 at hm
    obtain ⟨o1, hm⟩ := oblk hm
    exact Agr.tr (Agr.i Agr.rf 52 t1.toNatClampNeg t2 (by decide)) (ak144 (S.1, (u2 S.2.1 52 t1.toNatClampNeg t2), S.2.2.1, S.2.2.2) (v1 + 1) _ _ hm)
set_option maxHeartbeats 4000000 in
set_option maxRecDepth 20000 in
theorem fbX5_lookRound_51_144 (x : XT) (k144 : ST → Int32 → Option (Unit × ST)) (ak144 : ∀ (S : ST) (v1 : Int32) (r : Unit) (S' : ST), k144 S v1 = some (r, S') → Agr wX5_lookRound_51 S S') (S : ST) (v1 : Int32) (r : Unit) (S' : ST) (hm : bfX5_lookRound_51_144 x k144 S v1 = some (r, S')) : Agr wX5_lookRound_51 S S' := by
    unfold bfX5_lookRound_51_144 at hm
    by_cases c1 : 10 ≤ v1
    · rw [if_pos c1] at hm
      cases hm
      exact Agr.rf
    · rw [if_neg c1] at hm
      cases h2 : gfX7_hasGate_1 x S v1 with
      | none => rw [h2] at hm; cases hm
      | some q3 =>
        obtain ⟨r4, S5⟩ := q3
        rw [h2] at hm
        dsimp only at hm
        have a_S5 : Agr wX5_lookRound_51 S S5 := Agr.tr Agr.rf (Agr.sub (frX7_hasGate_1 x S v1 _ _ h2) (by decide))
        by_cases c6 : r4 = 0
        · rw [if_pos c6] at hm
          exact Agr.tr a_S5 (fbX5_lookRound_51_182 x k144 ak144 S5 v1 (14 + v1) (-1) _ _ hm)
        · rw [if_neg c6] at hm
          obtain ⟨o7, hm⟩ := oblk hm
          exact Agr.tr a_S5 (fbX5_lookRound_51_182 x k144 ak144 S5 v1 (14 + v1) (S5.2.1 5 v1.toNatClampNeg) _ _ hm)
theorem flX5_lookRound_51_144 (x : XT)  : ∀ (n : Nat) (S : ST) (v1 : Int32) (r : Unit) (S' : ST), lfX5_lookRound_51_144 x  n S v1 = some (r, S') → Agr wX5_lookRound_51 S S'
  | 0, _, _, _, _, hm => by cases hm
  | n + 1, S, v1, r, S', hm => fbX5_lookRound_51_144 x (lfX5_lookRound_51_144 x  n) (flX5_lookRound_51_144 x  n) S v1 r S' hm
set_option maxHeartbeats 4000000 in
set_option maxRecDepth 20000 in
theorem fbX5_lookRound_51_136 (x : XT) (k44 : ST → Int32 → Option (Unit × ST)) (ak44 : ∀ (S : ST) (v1 : Int32) (r : Unit) (S' : ST), k44 S v1 = some (r, S') → Agr wX5_lookRound_51 S S') (S : ST) (v1 : Int32) (r : Unit) (S' : ST) (hm : bfX5_lookRound_51_136 x k44 S v1 = some (r, S')) : Agr wX5_lookRound_51 S S' := by
    unfold bfX5_lookRound_51_136 at hm
    exact Agr.tr Agr.rf (ak44 S (v1 + 1) _ _ hm)
set_option maxHeartbeats 4000000 in
set_option maxRecDepth 20000 in
theorem fbX5_lookRound_51_108 (x : XT) (k44 : ST → Int32 → Option (Unit × ST)) (ak44 : ∀ (S : ST) (v1 : Int32) (r : Unit) (S' : ST), k44 S v1 = some (r, S') → Agr wX5_lookRound_51 S S') (S : ST) (v1 : Int32) (v2 : Int32) (t1 : Int32) (t2 : Int32) (r : Unit) (S' : ST) (hm : bfX5_lookRound_51_108 x k44 S v1 v2 t1 t2 = some (r, S')) : Agr wX5_lookRound_51 S S' := by
    unfold bfX5_lookRound_51_108 at hm
    obtain ⟨o1, hm⟩ := oblk hm
    by_cases c2 : v2 = 0
    · rw [if_pos c2] at hm
      exact Agr.tr (Agr.i Agr.rf 52 t1.toNatClampNeg t2 (by decide)) (fbX5_lookRound_51_136 x k44 ak44 (S.1, (u2 S.2.1 52 t1.toNatClampNeg t2), S.2.2.1, S.2.2.2) v1 _ _ hm)
    · rw [if_neg c2] at hm
      obtain ⟨o3, hm⟩ := oblk hm
      by_cases c4 : ¬ (S.2.1 8 v1.toNatClampNeg) = 1
      · rw [if_pos c4] at hm
        exact Agr.tr (Agr.i Agr.rf 52 t1.toNatClampNeg t2 (by decide)) (fbX5_lookRound_51_136 x k44 ak44 (S.1, (u2 S.2.1 52 t1.toNatClampNeg t2), S.2.2.1, S.2.2.2) v1 _ _ hm)
      · rw [if_neg c4] at hm
        exact Agr.tr (Agr.i (Agr.i Agr.rf 52 t1.toNatClampNeg t2 (by decide)) 52 3 (((u2 S.2.1 52 t1.toNatClampNeg t2) 52 3) + 1) (by decide)) (fbX5_lookRound_51_136 x k44 ak44 (S.1, (u2 (u2 S.2.1 52 t1.toNatClampNeg t2) 52 3 (((u2 S.2.1 52 t1.toNatClampNeg t2) 52 3) + 1)), S.2.2.1, S.2.2.2) v1 _ _ hm)
set_option maxHeartbeats 4000000 in
set_option maxRecDepth 20000 in
theorem fbX5_lookRound_51_82 (x : XT) (k44 : ST → Int32 → Option (Unit × ST)) (ak44 : ∀ (S : ST) (v1 : Int32) (r : Unit) (S' : ST), k44 S v1 = some (r, S') → Agr wX5_lookRound_51 S S') (S : ST) (v1 : Int32) (v2 : Int32) (t1 : Int32) (t2 : Int32) (r : Unit) (S' : ST) (hm : bfX5_lookRound_51_82 x k44 S v1 v2 t1 t2 = some (r, S')) : Agr wX5_lookRound_51 S S' := by
    unfold bfX5_lookRound_51_82 at hm
    obtain ⟨o1, hm⟩ := oblk hm
    by_cases c2 : v2 = 0
    · rw [if_pos c2] at hm
      exact Agr.tr (Agr.i Agr.rf 52 t1.toNatClampNeg t2 (by decide)) (fbX5_lookRound_51_108 x k44 ak44 (S.1, (u2 S.2.1 52 t1.toNatClampNeg t2), S.2.2.1, S.2.2.2) v1 v2 (9 + v1) (-1) _ _ hm)
    · rw [if_neg c2] at hm
      obtain ⟨o3, hm⟩ := oblk hm
      exact Agr.tr (Agr.i Agr.rf 52 t1.toNatClampNeg t2 (by decide)) (fbX5_lookRound_51_108 x k44 ak44 (S.1, (u2 S.2.1 52 t1.toNatClampNeg t2), S.2.2.1, S.2.2.2) v1 v2 (9 + v1) (S.2.1 7 v1.toNatClampNeg) _ _ hm)
set_option maxHeartbeats 4000000 in
set_option maxRecDepth 20000 in
theorem fbX5_lookRound_51_44 (x : XT) (k44 : ST → Int32 → Option (Unit × ST)) (ak44 : ∀ (S : ST) (v1 : Int32) (r : Unit) (S' : ST), k44 S v1 = some (r, S') → Agr wX5_lookRound_51 S S') (S : ST) (v1 : Int32) (r : Unit) (S' : ST) (hm : bfX5_lookRound_51_44 x k44 S v1 = some (r, S')) : Agr wX5_lookRound_51 S S' := by
    unfold bfX5_lookRound_51_44 at hm
    by_cases c1 : 5 ≤ v1
    · rw [if_pos c1] at hm
      exact Agr.tr Agr.rf (flX5_lookRound_51_144 x  20000 S 0 _ _ hm)
    · rw [if_neg c1] at hm
      cases h2 : gfX7_hasGoer_1 x S v1 with
      | none => rw [h2] at hm; cases hm
      | some q3 =>
        obtain ⟨r4, S5⟩ := q3
        rw [h2] at hm
        dsimp only at hm
        have a_S5 : Agr wX5_lookRound_51 S S5 := Agr.tr Agr.rf (Agr.sub (frX7_hasGoer_1 x S v1 _ _ h2) (by decide))
        by_cases c6 : r4 = 0
        · rw [if_pos c6] at hm
          exact Agr.tr a_S5 (fbX5_lookRound_51_82 x k44 ak44 S5 v1 r4 (4 + v1) (-1) _ _ hm)
        · rw [if_neg c6] at hm
          obtain ⟨o7, hm⟩ := oblk hm
          exact Agr.tr a_S5 (fbX5_lookRound_51_82 x k44 ak44 S5 v1 r4 (4 + v1) (S5.2.1 8 v1.toNatClampNeg) _ _ hm)
theorem flX5_lookRound_51_44 (x : XT)  : ∀ (n : Nat) (S : ST) (v1 : Int32) (r : Unit) (S' : ST), lfX5_lookRound_51_44 x  n S v1 = some (r, S') → Agr wX5_lookRound_51 S S'
  | 0, _, _, _, _, hm => by cases hm
  | n + 1, S, v1, r, S', hm => fbX5_lookRound_51_44 x (lfX5_lookRound_51_44 x  n) (flX5_lookRound_51_44 x  n) S v1 r S' hm
set_option maxHeartbeats 4000000 in
set_option maxRecDepth 20000 in
theorem fbX5_lookRound_51_0 (x : XT)  (S : ST)  (r : Unit) (S' : ST) (hm : bfX5_lookRound_51_0 x  S  = some (r, S')) : Agr wX5_lookRound_51 S S' := by
    unfold bfX5_lookRound_51_0 at hm
    exact Agr.tr (Agr.i (Agr.i (Agr.i (Agr.i Agr.rf 52 0 (S.2.1 14 0) (by decide)) 52 1 (S.1 51 0) (by decide)) 52 2 (S.1 51 1) (by decide)) 52 3 0 (by decide)) (flX5_lookRound_51_44 x  20000 (S.1, (u2 (u2 (u2 (u2 S.2.1 52 0 (S.2.1 14 0)) 52 1 (S.1 51 0)) 52 2 (S.1 51 1)) 52 3 0), S.2.2.1, S.2.2.2) 0 _ _ hm)
theorem frX5_lookRound_51 (x : XT) (S : ST)  (r : Unit) (S' : ST) (hm : gfX5_lookRound_51 x S  = some (r, S')) : Agr wX5_lookRound_51 S S' := fbX5_lookRound_51_0 x S  r S' hm
def wX5_runOnce_51_25 : List (Nat × Nat) × List Nat × List Nat × List Nat := ([(33, 0), (51, 0), (51, 1)], [5, 6, 7, 8, 10, 14, 21, 22, 34, 52, 53], [], [])
set_option maxHeartbeats 4000000 in
set_option maxRecDepth 20000 in
theorem fbX5_runOnce_51_25_103 (x : XT)  (S : ST)  (r : Int32) (S' : ST) (hm : bfX5_runOnce_51_25_103 x  S  = some (r, S')) : Agr wX5_runOnce_51_25 S S' := by
    unfold bfX5_runOnce_51_25_103 at hm
    cases hm
    exact Agr.rf
set_option maxHeartbeats 4000000 in
set_option maxRecDepth 20000 in
theorem fbX5_runOnce_51_25_194 (x : XT)  (S : ST) (v5 : Int32) (r : Int32) (S' : ST) (hm : bfX5_runOnce_51_25_194 x  S v5 = some (r, S')) : Agr wX5_runOnce_51_25 S S' := by
    unfold bfX5_runOnce_51_25_194 at hm
    by_cases c1 : 0 ≤ v5
    · rw [if_pos c1] at hm
      cases hm
      exact (Agr.f Agr.rf 51 0 ((S.1 51 0) + 1) (by decide))
    · rw [if_neg c1] at hm
      cases hm
      exact Agr.rf
set_option maxHeartbeats 4000000 in
set_option maxRecDepth 20000 in
theorem fbX5_runOnce_51_25_88 (x : XT)  (S : ST) (v2 : Int32) (v3 : Int32) (t0 : Int32) (r : Int32) (S' : ST) (hm : bfX5_runOnce_51_25_88 x  S v2 v3 t0 = some (r, S')) : Agr wX5_runOnce_51_25 S S' := by
    unfold bfX5_runOnce_51_25_88 at hm
    by_cases c1 : v3 = (-2000000000)
    · rw [if_pos c1] at hm
      exact Agr.tr Agr.rf (fbX5_runOnce_51_25_103 x  S _ _ hm)
    · rw [if_neg c1] at hm
      by_cases c2 : ¬ t0 = (-2000000000)
      · rw [if_pos c2] at hm
        obtain ⟨o3, hm⟩ := oblk hm
        by_cases c4 : (S.2.1 26 v2.toNatClampNeg) = 263
        · rw [if_pos c4] at hm
          cases h5 : gfX1_sendThrough_33 x S v3 t0 with
          | none => rw [h5] at hm; cases hm
          | some q6 =>
            obtain ⟨r7, S8⟩ := q6
            rw [h5] at hm
            dsimp only at hm
            have a_S8 : Agr wX5_runOnce_51_25 S S8 := Agr.tr Agr.rf (Agr.sub (frX1_sendThrough_33 x S v3 t0 _ _ h5) (by decide))
            exact Agr.tr (Agr.f a_S8 51 1 r7 (by decide)) (fbX5_runOnce_51_25_194 x  ((u2 S8.1 51 1 r7), S8.2.1, S8.2.2.1, S8.2.2.2) r7 _ _ hm)
        rw [if_neg c4] at hm
        by_cases c9 : (S.2.1 26 v2.toNatClampNeg) = 264
        · rw [if_pos c9] at hm
          cases h10 : gfX1_flip_33 x S v3 with
          | none => rw [h10] at hm; cases hm
          | some q11 =>
            obtain ⟨r12, S13⟩ := q11
            rw [h10] at hm
            dsimp only at hm
            have a_S13 : Agr wX5_runOnce_51_25 S S13 := Agr.tr Agr.rf (Agr.sub (frX1_flip_33 x S v3 _ _ h10) (by decide))
            exact Agr.tr a_S13 (fbX5_runOnce_51_25_194 x  S13 r12 _ _ hm)
        rw [if_neg c9] at hm
        by_cases c14 : (S.2.1 26 v2.toNatClampNeg) = 265
        · rw [if_pos c14] at hm
          cases h15 : gfX1_changeArm_33 x S v3 t0 with
          | none => rw [h15] at hm; cases hm
          | some q16 =>
            obtain ⟨r17, S18⟩ := q16
            rw [h15] at hm
            dsimp only at hm
            have a_S18 : Agr wX5_runOnce_51_25 S S18 := Agr.tr Agr.rf (Agr.sub (frX1_changeArm_33 x S v3 t0 _ _ h15) (by decide))
            exact Agr.tr a_S18 (fbX5_runOnce_51_25_194 x  S18 r17 _ _ hm)
        rw [if_neg c14] at hm
        cases h19 : gfX1_nextDay_33 x S with
        | none => rw [h19] at hm; cases hm
        | some q20 =>
          obtain ⟨r21, S22⟩ := q20
          rw [h19] at hm
          dsimp only at hm
          have a_S22 : Agr wX5_runOnce_51_25 S S22 := Agr.tr Agr.rf (Agr.sub (frX1_nextDay_33 x S _ _ h19) (by decide))
          exact Agr.tr a_S22 (fbX5_runOnce_51_25_194 x  S22 r21 _ _ hm)
      · rw [if_neg c2] at hm
        exact Agr.tr Agr.rf (fbX5_runOnce_51_25_103 x  S _ _ hm)
set_option maxHeartbeats 4000000 in
set_option maxRecDepth 20000 in
theorem fbX5_runOnce_51_25_60 (x : XT)  (S : ST) (v2 : Int32) (t0 : Int32) (r : Int32) (S' : ST) (hm : bfX5_runOnce_51_25_60 x  S v2 t0 = some (r, S')) : Agr wX5_runOnce_51_25 S S' := by
    unfold bfX5_runOnce_51_25_60 at hm
    cases h1 : gfX9_has_25 x S v2 1 with
    | none => rw [h1] at hm; cases hm
    | some q2 =>
      obtain ⟨r3, S4⟩ := q2
      rw [h1] at hm
      dsimp only at hm
      have a_S4 : Agr wX5_runOnce_51_25 S S4 := Agr.tr Agr.rf (Agr.sub (frX9_has_25 x S v2 1 _ _ h1) (by decide))
      by_cases c5 : r3 = 0
      · rw [if_pos c5] at hm
        exact Agr.tr a_S4 (fbX5_runOnce_51_25_88 x  S4 v2 t0 0 _ _ hm)
      · rw [if_neg c5] at hm
        cases h6 : gfX9_reckon_25_52_53 x S4 v2 1 with
        | none => rw [h6] at hm; cases hm
        | some q7 =>
          obtain ⟨r8, S9⟩ := q7
          rw [h6] at hm
          dsimp only at hm
          have a_S9 : Agr wX5_runOnce_51_25 S S9 := Agr.tr a_S4 (Agr.sub (frX9_reckon_25_52_53 x S4 v2 1 _ _ h6) (by decide))
          exact Agr.tr a_S9 (fbX5_runOnce_51_25_88 x  S9 v2 t0 r8 _ _ hm)
set_option maxHeartbeats 4000000 in
set_option maxRecDepth 20000 in
theorem fbX5_runOnce_51_25_33 (x : XT)  (S : ST) (v2 : Int32) (r : Int32) (S' : ST) (hm : bfX5_runOnce_51_25_33 x  S v2 = some (r, S')) : Agr wX5_runOnce_51_25 S S' := by
    unfold bfX5_runOnce_51_25_33 at hm
    cases h1 : gfX9_has_25 x S v2 0 with
    | none => rw [h1] at hm; cases hm
    | some q2 =>
      obtain ⟨r3, S4⟩ := q2
      rw [h1] at hm
      dsimp only at hm
      have a_S4 : Agr wX5_runOnce_51_25 S S4 := Agr.tr Agr.rf (Agr.sub (frX9_has_25 x S v2 0 _ _ h1) (by decide))
      by_cases c5 : r3 = 0
      · rw [if_pos c5] at hm
        exact Agr.tr a_S4 (fbX5_runOnce_51_25_60 x  S4 v2 0 _ _ hm)
      · rw [if_neg c5] at hm
        cases h6 : gfX9_reckon_25_52_53 x S4 v2 0 with
        | none => rw [h6] at hm; cases hm
        | some q7 =>
          obtain ⟨r8, S9⟩ := q7
          rw [h6] at hm
          dsimp only at hm
          have a_S9 : Agr wX5_runOnce_51_25 S S9 := Agr.tr a_S4 (Agr.sub (frX9_reckon_25_52_53 x S4 v2 0 _ _ h6) (by decide))
          exact Agr.tr a_S9 (fbX5_runOnce_51_25_60 x  S9 v2 r8 _ _ hm)
set_option maxHeartbeats 4000000 in
set_option maxRecDepth 20000 in
theorem fbX5_runOnce_51_25_0 (x : XT)  (S : ST) (p2 : Int32) (r : Int32) (S' : ST) (hm : bfX5_runOnce_51_25_0 x  S p2 = some (r, S')) : Agr wX5_runOnce_51_25 S S' := by
    unfold bfX5_runOnce_51_25_0 at hm
    cases h1 : gfX5_lookRound_51 x S with
    | none => rw [h1] at hm; cases hm
    | some q2 =>
      obtain ⟨r3, S4⟩ := q2
      rw [h1] at hm
      dsimp only at hm
      have a_S4 : Agr wX5_runOnce_51_25 S S4 := Agr.tr Agr.rf (Agr.sub (frX5_lookRound_51 x S _ _ h1) (by decide))
      cases h5 : gfX9_has_25 x S4 p2 2 with
      | none => rw [h5] at hm; cases hm
      | some q6 =>
        obtain ⟨r7, S8⟩ := q6
        rw [h5] at hm
        dsimp only at hm
        have a_S8 : Agr wX5_runOnce_51_25 S S8 := Agr.tr a_S4 (Agr.sub (frX9_has_25 x S4 p2 2 _ _ h5) (by decide))
        by_cases c9 : r7 = 0
        · rw [if_pos c9] at hm
          exact Agr.tr a_S8 (fbX5_runOnce_51_25_33 x  S8 p2 _ _ hm)
        · rw [if_neg c9] at hm
          cases h10 : gfX9_reckon_25_52_53 x S8 p2 2 with
          | none => rw [h10] at hm; cases hm
          | some q11 =>
            obtain ⟨r12, S13⟩ := q11
            rw [h10] at hm
            dsimp only at hm
            have a_S13 : Agr wX5_runOnce_51_25 S S13 := Agr.tr a_S8 (Agr.sub (frX9_reckon_25_52_53 x S8 p2 2 _ _ h10) (by decide))
            by_cases c14 : r12 = 1
            · rw [if_pos c14] at hm
              exact Agr.tr a_S13 (fbX5_runOnce_51_25_33 x  S13 p2 _ _ hm)
            · rw [if_neg c14] at hm
              cases hm
              exact a_S13
theorem frX5_runOnce_51_25 (x : XT) (S : ST) (p2 : Int32) (r : Int32) (S' : ST) (hm : gfX5_runOnce_51_25 x S p2 = some (r, S')) : Agr wX5_runOnce_51_25 S S' := fbX5_runOnce_51_25_0 x S p2 r S' hm
def wX5_run_51_25 : List (Nat × Nat) × List Nat × List Nat × List Nat := ([(33, 0), (51, 0), (51, 1)], [5, 6, 7, 8, 10, 14, 21, 22, 34, 52, 53], [], [])
set_option maxHeartbeats 4000000 in
set_option maxRecDepth 20000 in
theorem fbX5_run_51_25_22 (x : XT) (k12 : ST → Int32 → Option (Int32 × ST)) (ak12 : ∀ (S : ST) (v2 : Int32) (r : Int32) (S' : ST), k12 S v2 = some (r, S') → Agr wX5_run_51_25 S S') (k22 : ST → Int32 → Int32 → Option (Int32 × ST)) (ak22 : ∀ (S : ST) (v2 : Int32) (v3 : Int32) (r : Int32) (S' : ST), k22 S v2 v3 = some (r, S') → Agr wX5_run_51_25 S S') (S : ST) (v2 : Int32) (v3 : Int32) (r : Int32) (S' : ST) (hm : bfX5_run_51_25_22 x k12 k22 S v2 v3 = some (r, S')) : Agr wX5_run_51_25 S S' := by
    unfold bfX5_run_51_25_22 at hm
    obtain ⟨o1, hm⟩ := oblk hm
    by_cases c2 : (S.2.1 27 v2.toNatClampNeg) ≤ v3
    · rw [if_pos c2] at hm
      exact Agr.tr Agr.rf (ak12 S (v2 + 1) _ _ hm)
    · rw [if_neg c2] at hm
      cases h3 : gfX5_runOnce_51_25 x S v2 with
      | none => rw [h3] at hm; cases hm
      | some q4 =>
        obtain ⟨r5, S6⟩ := q4
        rw [h3] at hm
        dsimp only at hm
        have a_S6 : Agr wX5_run_51_25 S S6 := Agr.tr Agr.rf (Agr.sub (frX5_runOnce_51_25 x S v2 _ _ h3) (by decide))
        by_cases c7 : ¬ r5 = 0
        · rw [if_pos c7] at hm
          exact Agr.tr a_S6 (ak22 S6 v2 (v3 + 1) _ _ hm)
        · rw [if_neg c7] at hm
          cases hm
          exact a_S6
theorem flX5_run_51_25_22 (x : XT) (k12 : ST → Int32 → Option (Int32 × ST)) (ak12 : ∀ (S : ST) (v2 : Int32) (r : Int32) (S' : ST), k12 S v2 = some (r, S') → Agr wX5_run_51_25 S S') : ∀ (n : Nat) (S : ST) (v2 : Int32) (v3 : Int32) (r : Int32) (S' : ST), lfX5_run_51_25_22 x k12 n S v2 v3 = some (r, S') → Agr wX5_run_51_25 S S'
  | 0, _, _, _, _, _, hm => by cases hm
  | n + 1, S, v2, v3, r, S', hm => fbX5_run_51_25_22 x k12 ak12 (lfX5_run_51_25_22 x k12 n) (flX5_run_51_25_22 x k12 ak12 n) S v2 v3 r S' hm
set_option maxHeartbeats 4000000 in
set_option maxRecDepth 20000 in
theorem fbX5_run_51_25_12 (x : XT) (k12 : ST → Int32 → Option (Int32 × ST)) (ak12 : ∀ (S : ST) (v2 : Int32) (r : Int32) (S' : ST), k12 S v2 = some (r, S') → Agr wX5_run_51_25 S S') (S : ST) (v2 : Int32) (r : Int32) (S' : ST) (hm : bfX5_run_51_25_12 x k12 S v2 = some (r, S')) : Agr wX5_run_51_25 S S' := by
    unfold bfX5_run_51_25_12 at hm
    by_cases c1 : (S.1 25 0) ≤ v2
    · rw [if_pos c1] at hm
      cases hm
      exact Agr.rf
    · rw [if_neg c1] at hm
      exact Agr.tr Agr.rf (flX5_run_51_25_22 x k12 ak12 20000 S v2 0 _ _ hm)
theorem flX5_run_51_25_12 (x : XT)  : ∀ (n : Nat) (S : ST) (v2 : Int32) (r : Int32) (S' : ST), lfX5_run_51_25_12 x  n S v2 = some (r, S') → Agr wX5_run_51_25 S S'
  | 0, _, _, _, _, hm => by cases hm
  | n + 1, S, v2, r, S', hm => fbX5_run_51_25_12 x (lfX5_run_51_25_12 x  n) (flX5_run_51_25_12 x  n) S v2 r S' hm
set_option maxHeartbeats 4000000 in
set_option maxRecDepth 20000 in
theorem fbX5_run_51_25_0 (x : XT)  (S : ST)  (r : Int32) (S' : ST) (hm : bfX5_run_51_25_0 x  S  = some (r, S')) : Agr wX5_run_51_25 S S' := by
    unfold bfX5_run_51_25_0 at hm
    exact Agr.tr (Agr.f (Agr.f Agr.rf 51 0 0 (by decide)) 51 1 (-1) (by decide)) (flX5_run_51_25_12 x  20000 ((u2 (u2 S.1 51 0 0) 51 1 (-1)), S.2.1, S.2.2.1, S.2.2.2) 0 _ _ hm)
theorem frX5_run_51_25 (x : XT) (S : ST)  (r : Int32) (S' : ST) (hm : gfX5_run_51_25 x S  = some (r, S')) : Agr wX5_run_51_25 S S' := fbX5_run_51_25_0 x S  r S' hm
def wX7_copyFrom_1_35 : List (Nat × Nat) × List Nat × List Nat × List Nat := ([(1, 0), (1, 6), (1, 11), (1, 16), (1, 18)], [2, 3, 4, 5, 6, 7, 8, 9, 10, 11, 12, 13, 14], [], [15])
set_option maxHeartbeats 4000000 in
set_option maxRecDepth 20000 in
theorem fbX7_copyFrom_1_35_252 (x : XT) (k252 : ST → Int32 → Option (Unit × ST)) (ak252 : ∀ (S : ST) (v2 : Int32) (r : Unit) (S' : ST), k252 S v2 = some (r, S') → Agr wX7_copyFrom_1_35 S S') (S : ST) (v2 : Int32) (r : Unit) (S' : ST) (hm : bfX7_copyFrom_1_35_252 x k252 S v2 = some (r, S')) : Agr wX7_copyFrom_1_35 S S' := by
    unfold bfX7_copyFrom_1_35_252 at hm
    by_cases c1 : 6 ≤ v2
    · rw [if_pos c1] at hm
      cases hm
      exact Agr.rf
    · rw [if_neg c1] at hm
      obtain ⟨o2, hm⟩ := oblk hm
      obtain ⟨o3, hm⟩ := oblk hm
      obtain ⟨o4, hm⟩ := oblk hm
      exact Agr.tr (Agr.q Agr.rf 15 v2.toNatClampNeg (S.2.2.2 49 v2.toNatClampNeg) (by decide)) (ak252 (S.1, S.2.1, S.2.2.1, (u2 S.2.2.2 15 v2.toNatClampNeg (S.2.2.2 49 v2.toNatClampNeg))) (v2 + 1) _ _ hm)
theorem flX7_copyFrom_1_35_252 (x : XT)  : ∀ (n : Nat) (S : ST) (v2 : Int32) (r : Unit) (S' : ST), lfX7_copyFrom_1_35_252 x  n S v2 = some (r, S') → Agr wX7_copyFrom_1_35 S S'
  | 0, _, _, _, _, hm => by cases hm
  | n + 1, S, v2, r, S', hm => fbX7_copyFrom_1_35_252 x (lfX7_copyFrom_1_35_252 x  n) (flX7_copyFrom_1_35_252 x  n) S v2 r S' hm
set_option maxHeartbeats 4000000 in
set_option maxRecDepth 20000 in
theorem fbX7_copyFrom_1_35_227 (x : XT) (k227 : ST → Int32 → Option (Unit × ST)) (ak227 : ∀ (S : ST) (v2 : Int32) (r : Unit) (S' : ST), k227 S v2 = some (r, S') → Agr wX7_copyFrom_1_35 S S') (S : ST) (v2 : Int32) (r : Unit) (S' : ST) (hm : bfX7_copyFrom_1_35_227 x k227 S v2 = some (r, S')) : Agr wX7_copyFrom_1_35 S S' := by
    unfold bfX7_copyFrom_1_35_227 at hm
    by_cases c1 : 3 ≤ v2
    · rw [if_pos c1] at hm
      exact Agr.tr Agr.rf (flX7_copyFrom_1_35_252 x  20000 S 0 _ _ hm)
    · rw [if_neg c1] at hm
      obtain ⟨o2, hm⟩ := oblk hm
      obtain ⟨o3, hm⟩ := oblk hm
      exact Agr.tr (Agr.i Agr.rf 14 v2.toNatClampNeg (S.2.1 48 v2.toNatClampNeg) (by decide)) (ak227 (S.1, (u2 S.2.1 14 v2.toNatClampNeg (S.2.1 48 v2.toNatClampNeg)), S.2.2.1, S.2.2.2) (v2 + 1) _ _ hm)
theorem flX7_copyFrom_1_35_227 (x : XT)  : ∀ (n : Nat) (S : ST) (v2 : Int32) (r : Unit) (S' : ST), lfX7_copyFrom_1_35_227 x  n S v2 = some (r, S') → Agr wX7_copyFrom_1_35 S S'
  | 0, _, _, _, _, hm => by cases hm
  | n + 1, S, v2, r, S', hm => fbX7_copyFrom_1_35_227 x (lfX7_copyFrom_1_35_227 x  n) (flX7_copyFrom_1_35_227 x  n) S v2 r S' hm
set_option maxHeartbeats 4000000 in
set_option maxRecDepth 20000 in
theorem fbX7_copyFrom_1_35_177 (x : XT) (k177 : ST → Int32 → Option (Unit × ST)) (ak177 : ∀ (S : ST) (v2 : Int32) (r : Unit) (S' : ST), k177 S v2 = some (r, S') → Agr wX7_copyFrom_1_35 S S') (S : ST) (v2 : Int32) (r : Unit) (S' : ST) (hm : bfX7_copyFrom_1_35_177 x k177 S v2 = some (r, S')) : Agr wX7_copyFrom_1_35 S S' := by
    unfold bfX7_copyFrom_1_35_177 at hm
    by_cases c1 : 6 ≤ v2
    · rw [if_pos c1] at hm
      exact Agr.tr Agr.rf (flX7_copyFrom_1_35_227 x  20000 S 0 _ _ hm)
    · rw [if_neg c1] at hm
      obtain ⟨o2, hm⟩ := oblk hm
      obtain ⟨o3, hm⟩ := oblk hm
      obtain ⟨o4, hm⟩ := oblk hm
      obtain ⟨o5, hm⟩ := oblk hm
      obtain ⟨o6, hm⟩ := oblk hm
      obtain ⟨o7, hm⟩ := oblk hm
      exact Agr.tr (Agr.i (Agr.i (Agr.i Agr.rf 11 v2.toNatClampNeg (S.2.1 45 v2.toNatClampNeg) (by decide)) 12 v2.toNatClampNeg (S.2.1 46 v2.toNatClampNeg) (by decide)) 13 v2.toNatClampNeg (S.2.1 47 v2.toNatClampNeg) (by decide)) (ak177 (S.1, (u2 (u2 (u2 S.2.1 11 v2.toNatClampNeg (S.2.1 45 v2.toNatClampNeg)) 12 v2.toNatClampNeg (S.2.1 46 v2.toNatClampNeg)) 13 v2.toNatClampNeg (S.2.1 47 v2.toNatClampNeg)), S.2.2.1, S.2.2.2) (v2 + 1) _ _ hm)
theorem flX7_copyFrom_1_35_177 (x : XT)  : ∀ (n : Nat) (S : ST) (v2 : Int32) (r : Unit) (S' : ST), lfX7_copyFrom_1_35_177 x  n S v2 = some (r, S') → Agr wX7_copyFrom_1_35 S S'
  | 0, _, _, _, _, hm => by cases hm
  | n + 1, S, v2, r, S', hm => fbX7_copyFrom_1_35_177 x (lfX7_copyFrom_1_35_177 x  n) (flX7_copyFrom_1_35_177 x  n) S v2 r S' hm
set_option maxHeartbeats 4000000 in
set_option maxRecDepth 20000 in
theorem fbX7_copyFrom_1_35_116 (x : XT) (k116 : ST → Int32 → Option (Unit × ST)) (ak116 : ∀ (S : ST) (v2 : Int32) (r : Unit) (S' : ST), k116 S v2 = some (r, S') → Agr wX7_copyFrom_1_35 S S') (S : ST) (v2 : Int32) (r : Unit) (S' : ST) (hm : bfX7_copyFrom_1_35_116 x k116 S v2 = some (r, S')) : Agr wX7_copyFrom_1_35 S S' := by
    unfold bfX7_copyFrom_1_35_116 at hm
    by_cases c1 : 5 ≤ v2
    · rw [if_pos c1] at hm
      exact Agr.tr Agr.rf (flX7_copyFrom_1_35_177 x  20000 S 0 _ _ hm)
    · rw [if_neg c1] at hm
      obtain ⟨o2, hm⟩ := oblk hm
      obtain ⟨o3, hm⟩ := oblk hm
      obtain ⟨o4, hm⟩ := oblk hm
      obtain ⟨o5, hm⟩ := oblk hm
      obtain ⟨o6, hm⟩ := oblk hm
      obtain ⟨o7, hm⟩ := oblk hm
      obtain ⟨o8, hm⟩ := oblk hm
      obtain ⟨o9, hm⟩ := oblk hm
      exact Agr.tr (Agr.i (Agr.i (Agr.i (Agr.i Agr.rf 7 v2.toNatClampNeg (S.2.1 41 v2.toNatClampNeg) (by decide)) 8 v2.toNatClampNeg (S.2.1 42 v2.toNatClampNeg) (by decide)) 9 v2.toNatClampNeg (S.2.1 43 v2.toNatClampNeg) (by decide)) 10 v2.toNatClampNeg (S.2.1 44 v2.toNatClampNeg) (by decide)) (ak116 (S.1, (u2 (u2 (u2 (u2 S.2.1 7 v2.toNatClampNeg (S.2.1 41 v2.toNatClampNeg)) 8 v2.toNatClampNeg (S.2.1 42 v2.toNatClampNeg)) 9 v2.toNatClampNeg (S.2.1 43 v2.toNatClampNeg)) 10 v2.toNatClampNeg (S.2.1 44 v2.toNatClampNeg)), S.2.2.1, S.2.2.2) (v2 + 1) _ _ hm)
theorem flX7_copyFrom_1_35_116 (x : XT)  : ∀ (n : Nat) (S : ST) (v2 : Int32) (r : Unit) (S' : ST), lfX7_copyFrom_1_35_116 x  n S v2 = some (r, S') → Agr wX7_copyFrom_1_35 S S'
  | 0, _, _, _, _, hm => by cases hm
  | n + 1, S, v2, r, S', hm => fbX7_copyFrom_1_35_116 x (lfX7_copyFrom_1_35_116 x  n) (flX7_copyFrom_1_35_116 x  n) S v2 r S' hm
set_option maxHeartbeats 4000000 in
set_option maxRecDepth 20000 in
theorem fbX7_copyFrom_1_35_42 (x : XT) (k42 : ST → Int32 → Option (Unit × ST)) (ak42 : ∀ (S : ST) (v2 : Int32) (r : Unit) (S' : ST), k42 S v2 = some (r, S') → Agr wX7_copyFrom_1_35 S S') (S : ST) (v2 : Int32) (r : Unit) (S' : ST) (hm : bfX7_copyFrom_1_35_42 x k42 S v2 = some (r, S')) : Agr wX7_copyFrom_1_35 S S' := by
    unfold bfX7_copyFrom_1_35_42 at hm
    by_cases c1 : 10 ≤ v2
    · rw [if_pos c1] at hm
      exact Agr.tr Agr.rf (flX7_copyFrom_1_35_116 x  20000 S 0 _ _ hm)
    · rw [if_neg c1] at hm
      obtain ⟨o2, hm⟩ := oblk hm
      obtain ⟨o3, hm⟩ := oblk hm
      obtain ⟨o4, hm⟩ := oblk hm
      obtain ⟨o5, hm⟩ := oblk hm
      obtain ⟨o6, hm⟩ := oblk hm
      obtain ⟨o7, hm⟩ := oblk hm
      obtain ⟨o8, hm⟩ := oblk hm
      obtain ⟨o9, hm⟩ := oblk hm
      obtain ⟨o10, hm⟩ := oblk hm
      obtain ⟨o11, hm⟩ := oblk hm
      exact Agr.tr (Agr.i (Agr.i (Agr.i (Agr.i (Agr.i Agr.rf 2 v2.toNatClampNeg (S.2.1 36 v2.toNatClampNeg) (by decide)) 3 v2.toNatClampNeg (S.2.1 37 v2.toNatClampNeg) (by decide)) 4 v2.toNatClampNeg (S.2.1 38 v2.toNatClampNeg) (by decide)) 5 v2.toNatClampNeg (S.2.1 39 v2.toNatClampNeg) (by decide)) 6 v2.toNatClampNeg (vp_nar .boolean (S.2.1 40 v2.toNatClampNeg)) (by decide)) (ak42 (S.1, (u2 (u2 (u2 (u2 (u2 S.2.1 2 v2.toNatClampNeg (S.2.1 36 v2.toNatClampNeg)) 3 v2.toNatClampNeg (S.2.1 37 v2.toNatClampNeg)) 4 v2.toNatClampNeg (S.2.1 38 v2.toNatClampNeg)) 5 v2.toNatClampNeg (S.2.1 39 v2.toNatClampNeg)) 6 v2.toNatClampNeg (vp_nar .boolean (S.2.1 40 v2.toNatClampNeg))), S.2.2.1, S.2.2.2) (v2 + 1) _ _ hm)
theorem flX7_copyFrom_1_35_42 (x : XT)  : ∀ (n : Nat) (S : ST) (v2 : Int32) (r : Unit) (S' : ST), lfX7_copyFrom_1_35_42 x  n S v2 = some (r, S') → Agr wX7_copyFrom_1_35 S S'
  | 0, _, _, _, _, hm => by cases hm
  | n + 1, S, v2, r, S', hm => fbX7_copyFrom_1_35_42 x (lfX7_copyFrom_1_35_42 x  n) (flX7_copyFrom_1_35_42 x  n) S v2 r S' hm
set_option maxHeartbeats 4000000 in
set_option maxRecDepth 20000 in
theorem fbX7_copyFrom_1_35_0 (x : XT)  (S : ST)  (r : Unit) (S' : ST) (hm : bfX7_copyFrom_1_35_0 x  S  = some (r, S')) : Agr wX7_copyFrom_1_35 S S' := by
    unfold bfX7_copyFrom_1_35_0 at hm
    exact Agr.tr (Agr.f (Agr.f (Agr.f (Agr.f (Agr.f Agr.rf 1 0 (S.1 35 0) (by decide)) 1 6 (S.1 35 6) (by decide)) 1 11 (S.1 35 11) (by decide)) 1 16 (S.1 35 16) (by decide)) 1 18 (S.1 35 18) (by decide)) (flX7_copyFrom_1_35_42 x  20000 ((u2 (u2 (u2 (u2 (u2 S.1 1 0 (S.1 35 0)) 1 6 (S.1 35 6)) 1 11 (S.1 35 11)) 1 16 (S.1 35 16)) 1 18 (S.1 35 18)), S.2.1, S.2.2.1, S.2.2.2) 0 _ _ hm)
theorem frX7_copyFrom_1_35 (x : XT) (S : ST)  (r : Unit) (S' : ST) (hm : gfX7_copyFrom_1_35 x S  = some (r, S')) : Agr wX7_copyFrom_1_35 S S' := fbX7_copyFrom_1_35_0 x S  r S' hm
def wX1_restoreAhead_33 : List (Nat × Nat) × List Nat × List Nat × List Nat := ([(1, 0), (1, 6), (1, 11), (1, 16), (1, 18), (33, 0)], [2, 3, 4, 5, 6, 7, 8, 9, 10, 11, 12, 13, 14, 34], [], [15])
set_option maxHeartbeats 4000000 in
set_option maxRecDepth 20000 in
theorem fbX1_restoreAhead_33_0 (x : XT)  (S : ST)  (r : Unit) (S' : ST) (hm : bfX1_restoreAhead_33_0 x  S  = some (r, S')) : Agr wX1_restoreAhead_33 S S' := by
    unfold bfX1_restoreAhead_33_0 at hm
    cases h1 : gfX7_copyFrom_1_35 x S with
    | none => rw [h1] at hm; cases hm
    | some q2 =>
      obtain ⟨r3, S4⟩ := q2
      rw [h1] at hm
      dsimp only at hm
      have a_S4 : Agr wX1_restoreAhead_33 S S4 := Agr.tr Agr.rf (Agr.sub (frX7_copyFrom_1_35 x S _ _ h1) (by decide))
      cases hm
      exact (Agr.ic (Agr.f a_S4 33 0 (S4.1 33 6) (by decide)) 34 _ (by decide))
theorem frX1_restoreAhead_33 (x : XT) (S : ST)  (r : Unit) (S' : ST) (hm : gfX1_restoreAhead_33 x S  = some (r, S')) : Agr wX1_restoreAhead_33 S S' := fbX1_restoreAhead_33_0 x S  r S' hm
def wX10_orders_0 : List (Nat × Nat) × List Nat × List Nat × List Nat := ([(0, 12), (0, 13), (0, 14), (1, 0), (1, 6), (1, 11), (1, 16), (1, 18), (18, 1), (24, 1), (24, 5), (24, 6), (24, 7), (24, 8), (25, 0), (25, 1), (33, 0), (33, 6), (35, 0), (35, 6), (35, 11), (35, 16), (35, 18), (51, 0), (51, 1)], [2, 3, 4, 5, 6, 7, 8, 9, 10, 11, 12, 13, 14, 21, 22, 26, 27, 28, 29, 30, 31, 32, 34, 36, 37, 38, 39, 40, 41, 42, 43, 44, 45, 46, 47, 48, 50, 52, 53, 99], [], [15, 49])
set_option maxHeartbeats 4000000 in
set_option maxRecDepth 20000 in
theorem fbX10_orders_0_0 (x : XT)  (S : ST)  (r : Int32) (S' : ST) (hm : bfX10_orders_0_0 x  S  = some (r, S')) : Agr wX10_orders_0 S S' := by
    unfold bfX10_orders_0_0 at hm
    cases h1 : gfX10_readTape_0 x ((u2 S.1 0 14 (-1)), S.2.1, S.2.2.1, S.2.2.2) 1 with
    | none => rw [h1] at hm; cases hm
    | some q2 =>
      obtain ⟨r3, S4⟩ := q2
      rw [h1] at hm
      dsimp only at hm
      have a_S4 : Agr wX10_orders_0 S S4 := Agr.tr (Agr.f Agr.rf 0 14 (-1) (by decide)) (Agr.sub (frX10_readTape_0 x ((u2 S.1 0 14 (-1)), S.2.1, S.2.2.1, S.2.2.2) 1 _ _ h1) (by decide))
      by_cases c5 : ¬ r3 = 0
      · rw [if_pos c5] at hm
        cases h6 : gfX1_keepAhead_33 x S4 with
        | none => rw [h6] at hm; cases hm
        | some q7 =>
          obtain ⟨r8, S9⟩ := q7
          rw [h6] at hm
          dsimp only at hm
          have a_S9 : Agr wX10_orders_0 S S9 := Agr.tr a_S4 (Agr.sub (frX1_keepAhead_33 x S4 _ _ h6) (by decide))
          cases h10 : gfX5_run_51_25 x S9 with
          | none => rw [h10] at hm; cases hm
          | some q11 =>
            obtain ⟨r12, S13⟩ := q11
            rw [h10] at hm
            dsimp only at hm
            have a_S13 : Agr wX10_orders_0 S S13 := Agr.tr a_S9 (Agr.sub (frX5_run_51_25 x S9 _ _ h10) (by decide))
            by_cases c14 : r12 = (-1)
            · rw [if_pos c14] at hm
              cases h15 : gfX10_told_0 x ((u2 S13.1 0 14 r12), S13.2.1, S13.2.2.1, S13.2.2.2) (S13.1 51 0) with
              | none => rw [h15] at hm; cases hm
              | some q16 =>
                obtain ⟨r17, S18⟩ := q16
                rw [h15] at hm
                dsimp only at hm
                have a_S18 : Agr wX10_orders_0 S S18 := Agr.tr (Agr.f a_S13 0 14 r12 (by decide)) (Agr.sub (frX10_told_0 x ((u2 S13.1 0 14 r12), S13.2.1, S13.2.2.1, S13.2.2.2) (S13.1 51 0) _ _ h15) (by decide))
                cases hm
                exact a_S18
            · rw [if_neg c14] at hm
              cases h19 : gfX1_restoreAhead_33 x ((u2 S13.1 0 14 r12), S13.2.1, S13.2.2.1, S13.2.2.2) with
              | none => rw [h19] at hm; cases hm
              | some q20 =>
                obtain ⟨r21, S22⟩ := q20
                rw [h19] at hm
                dsimp only at hm
                have a_S22 : Agr wX10_orders_0 S S22 := Agr.tr (Agr.f a_S13 0 14 r12 (by decide)) (Agr.sub (frX1_restoreAhead_33 x ((u2 S13.1 0 14 r12), S13.2.1, S13.2.2.1, S13.2.2.2) _ _ h19) (by decide))
                cases h23 : gfX10_told_0 x S22 (-3) with
                | none => rw [h23] at hm; cases hm
                | some q24 =>
                  obtain ⟨r25, S26⟩ := q24
                  rw [h23] at hm
                  dsimp only at hm
                  have a_S26 : Agr wX10_orders_0 S S26 := Agr.tr a_S22 (Agr.sub (frX10_told_0 x S22 (-3) _ _ h23) (by decide))
                  cases hm
                  exact a_S26
      · rw [if_neg c5] at hm
        cases h27 : gfX10_told_0 x S4 (-6) with
        | none => rw [h27] at hm; cases hm
        | some q28 =>
          obtain ⟨r29, S30⟩ := q28
          rw [h27] at hm
          dsimp only at hm
          have a_S30 : Agr wX10_orders_0 S S30 := Agr.tr a_S4 (Agr.sub (frX10_told_0 x S4 (-6) _ _ h27) (by decide))
          cases hm
          exact a_S30
theorem frX10_orders_0 (x : XT) (S : ST)  (r : Int32) (S' : ST) (hm : gfX10_orders_0 x S  = some (r, S')) : Agr wX10_orders_0 S S' := fbX10_orders_0_0 x S  r S' hm
def wX10_fault_0 : List (Nat × Nat) × List Nat × List Nat × List Nat := ([], [], [], [])
set_option maxHeartbeats 4000000 in
set_option maxRecDepth 20000 in
theorem fbX10_fault_0_0 (x : XT)  (S : ST)  (r : Int32) (S' : ST) (hm : bfX10_fault_0_0 x  S  = some (r, S')) : Agr wX10_fault_0 S S' := by
    unfold bfX10_fault_0_0 at hm
    cases hm
    exact Agr.rf
theorem frX10_fault_0 (x : XT) (S : ST)  (r : Int32) (S' : ST) (hm : gfX10_fault_0 x S  = some (r, S')) : Agr wX10_fault_0 S S' := fbX10_fault_0_0 x S  r S' hm
def wX10_stopped_0 : List (Nat × Nat) × List Nat × List Nat × List Nat := ([], [], [], [])
set_option maxHeartbeats 4000000 in
set_option maxRecDepth 20000 in
theorem fbX10_stopped_0_0 (x : XT)  (S : ST)  (r : Int32) (S' : ST) (hm : bfX10_stopped_0_0 x  S  = some (r, S')) : Agr wX10_stopped_0 S S' := by
    unfold bfX10_stopped_0_0 at hm
    cases hm
    exact Agr.rf
theorem frX10_stopped_0 (x : XT) (S : ST)  (r : Int32) (S' : ST) (hm : gfX10_stopped_0 x S  = some (r, S')) : Agr wX10_stopped_0 S S' := fbX10_stopped_0_0 x S  r S' hm
def wX10_force_0 : List (Nat × Nat) × List Nat × List Nat × List Nat := ([(0, 12), (1, 18)], [99], [], [])
set_option maxHeartbeats 4000000 in
set_option maxRecDepth 20000 in
theorem fbX10_force_0_23 (x : XT)  (S : ST) (v1 : Int32) (r : Int32) (S' : ST) (hm : bfX10_force_0_23 x  S v1 = some (r, S')) : Agr wX10_force_0 S S' := by
    unfold bfX10_force_0_23 at hm
    cases h1 : gfX10_told_0 x S 0 with
    | none => rw [h1] at hm; cases hm
    | some q2 =>
      obtain ⟨r3, S4⟩ := q2
      rw [h1] at hm
      dsimp only at hm
      have a_S4 : Agr wX10_force_0 S S4 := Agr.tr Agr.rf (Agr.sub (frX10_told_0 x S 0 _ _ h1) (by decide))
      cases hm
      exact (Agr.f a_S4 1 18 v1 (by decide))
set_option maxHeartbeats 4000000 in
set_option maxRecDepth 20000 in
theorem fbX10_force_0_0 (x : XT)  (S : ST) (p1 : Int32) (r : Int32) (S' : ST) (hm : bfX10_force_0_0 x  S p1 = some (r, S')) : Agr wX10_force_0 S S' := by
    unfold bfX10_force_0_0 at hm
    by_cases c1 : p1 = (-1)
    · rw [if_pos c1] at hm
      exact Agr.tr Agr.rf (fbX10_force_0_23 x  S p1 _ _ hm)
    · rw [if_neg c1] at hm
      cases h2 : gfX7_hasLaw_1 x S p1 with
      | none => rw [h2] at hm; cases hm
      | some q3 =>
        obtain ⟨r4, S5⟩ := q3
        rw [h2] at hm
        dsimp only at hm
        have a_S5 : Agr wX10_force_0 S S5 := Agr.tr Agr.rf (Agr.sub (frX7_hasLaw_1 x S p1 _ _ h2) (by decide))
        by_cases c6 : ¬ r4 = 0
        · rw [if_pos c6] at hm
          exact Agr.tr a_S5 (fbX10_force_0_23 x  S5 p1 _ _ hm)
        · rw [if_neg c6] at hm
          cases h7 : gfX10_told_0 x S5 (-2) with
          | none => rw [h7] at hm; cases hm
          | some q8 =>
            obtain ⟨r9, S10⟩ := q8
            rw [h7] at hm
            dsimp only at hm
            have a_S10 : Agr wX10_force_0 S S10 := Agr.tr a_S5 (Agr.sub (frX10_told_0 x S5 (-2) _ _ h7) (by decide))
            cases hm
            exact a_S10
theorem frX10_force_0 (x : XT) (S : ST) (p1 : Int32) (r : Int32) (S' : ST) (hm : gfX10_force_0 x S p1 = some (r, S')) : Agr wX10_force_0 S S' := fbX10_force_0_0 x S p1 r S' hm
def wX10_go_0 : List (Nat × Nat) × List Nat × List Nat × List Nat := ([(0, 12), (33, 0)], [7, 8, 10, 21, 22, 34, 99], [], [])
set_option maxHeartbeats 4000000 in
set_option maxRecDepth 20000 in
theorem fbX10_go_0_0 (x : XT)  (S : ST) (p1 : Int32) (p2 : Int32) (r : Int32) (S' : ST) (hm : bfX10_go_0_0 x  S p1 p2 = some (r, S')) : Agr wX10_go_0 S S' := by
    unfold bfX10_go_0_0 at hm
    cases h1 : gfX1_sendThrough_33 x S p1 p2 with
    | none => rw [h1] at hm; cases hm
    | some q2 =>
      obtain ⟨r3, S4⟩ := q2
      rw [h1] at hm
      dsimp only at hm
      have a_S4 : Agr wX10_go_0 S S4 := Agr.tr Agr.rf (Agr.sub (frX1_sendThrough_33 x S p1 p2 _ _ h1) (by decide))
      cases h5 : gfX10_told_0 x S4 r3 with
      | none => rw [h5] at hm; cases hm
      | some q6 =>
        obtain ⟨r7, S8⟩ := q6
        rw [h5] at hm
        dsimp only at hm
        have a_S8 : Agr wX10_go_0 S S8 := Agr.tr a_S4 (Agr.sub (frX10_told_0 x S4 r3 _ _ h5) (by decide))
        cases hm
        exact a_S8
theorem frX10_go_0 (x : XT) (S : ST) (p1 : Int32) (p2 : Int32) (r : Int32) (S' : ST) (hm : gfX10_go_0 x S p1 p2 = some (r, S')) : Agr wX10_go_0 S S' := fbX10_go_0_0 x S p1 p2 r S' hm
def wX10_latch_0 : List (Nat × Nat) × List Nat × List Nat × List Nat := ([(0, 12), (33, 0)], [6, 34, 99], [], [])
set_option maxHeartbeats 4000000 in
set_option maxRecDepth 20000 in
theorem fbX10_latch_0_0 (x : XT)  (S : ST) (p1 : Int32) (r : Int32) (S' : ST) (hm : bfX10_latch_0_0 x  S p1 = some (r, S')) : Agr wX10_latch_0 S S' := by
    unfold bfX10_latch_0_0 at hm
    cases h1 : gfX1_flip_33 x S p1 with
    | none => rw [h1] at hm; cases hm
    | some q2 =>
      obtain ⟨r3, S4⟩ := q2
      rw [h1] at hm
      dsimp only at hm
      have a_S4 : Agr wX10_latch_0 S S4 := Agr.tr Agr.rf (Agr.sub (frX1_flip_33 x S p1 _ _ h1) (by decide))
      cases h5 : gfX10_told_0 x S4 r3 with
      | none => rw [h5] at hm; cases hm
      | some q6 =>
        obtain ⟨r7, S8⟩ := q6
        rw [h5] at hm
        dsimp only at hm
        have a_S8 : Agr wX10_latch_0 S S8 := Agr.tr a_S4 (Agr.sub (frX10_told_0 x S4 r3 _ _ h5) (by decide))
        cases hm
        exact a_S8
theorem frX10_latch_0 (x : XT) (S : ST) (p1 : Int32) (r : Int32) (S' : ST) (hm : gfX10_latch_0 x S p1 = some (r, S')) : Agr wX10_latch_0 S S' := fbX10_latch_0_0 x S p1 r S' hm
def wX10_set_0 : List (Nat × Nat) × List Nat × List Nat × List Nat := ([(0, 12), (33, 0)], [5, 34, 99], [], [])
set_option maxHeartbeats 4000000 in
set_option maxRecDepth 20000 in
theorem fbX10_set_0_0 (x : XT)  (S : ST) (p1 : Int32) (p2 : Int32) (r : Int32) (S' : ST) (hm : bfX10_set_0_0 x  S p1 p2 = some (r, S')) : Agr wX10_set_0 S S' := by
    unfold bfX10_set_0_0 at hm
    cases h1 : gfX1_changeArm_33 x S p1 p2 with
    | none => rw [h1] at hm; cases hm
    | some q2 =>
      obtain ⟨r3, S4⟩ := q2
      rw [h1] at hm
      dsimp only at hm
      have a_S4 : Agr wX10_set_0 S S4 := Agr.tr Agr.rf (Agr.sub (frX1_changeArm_33 x S p1 p2 _ _ h1) (by decide))
      cases h5 : gfX10_told_0 x S4 r3 with
      | none => rw [h5] at hm; cases hm
      | some q6 =>
        obtain ⟨r7, S8⟩ := q6
        rw [h5] at hm
        dsimp only at hm
        have a_S8 : Agr wX10_set_0 S S8 := Agr.tr a_S4 (Agr.sub (frX10_told_0 x S4 r3 _ _ h5) (by decide))
        cases hm
        exact a_S8
theorem frX10_set_0 (x : XT) (S : ST) (p1 : Int32) (p2 : Int32) (r : Int32) (S' : ST) (hm : gfX10_set_0 x S p1 p2 = some (r, S')) : Agr wX10_set_0 S S' := fbX10_set_0_0 x S p1 p2 r S' hm
def wX10_pass_0 : List (Nat × Nat) × List Nat × List Nat × List Nat := ([(0, 12), (33, 0)], [14, 34, 99], [], [])
set_option maxHeartbeats 4000000 in
set_option maxRecDepth 20000 in
theorem fbX10_pass_0_0 (x : XT)  (S : ST)  (r : Int32) (S' : ST) (hm : bfX10_pass_0_0 x  S  = some (r, S')) : Agr wX10_pass_0 S S' := by
    unfold bfX10_pass_0_0 at hm
    cases h1 : gfX1_nextDay_33 x S with
    | none => rw [h1] at hm; cases hm
    | some q2 =>
      obtain ⟨r3, S4⟩ := q2
      rw [h1] at hm
      dsimp only at hm
      have a_S4 : Agr wX10_pass_0 S S4 := Agr.tr Agr.rf (Agr.sub (frX1_nextDay_33 x S _ _ h1) (by decide))
      cases h5 : gfX10_told_0 x S4 r3 with
      | none => rw [h5] at hm; cases hm
      | some q6 =>
        obtain ⟨r7, S8⟩ := q6
        rw [h5] at hm
        dsimp only at hm
        have a_S8 : Agr wX10_pass_0 S S8 := Agr.tr a_S4 (Agr.sub (frX10_told_0 x S4 r3 _ _ h5) (by decide))
        cases hm
        exact a_S8
theorem frX10_pass_0 (x : XT) (S : ST)  (r : Int32) (S' : ST) (hm : gfX10_pass_0 x S  = some (r, S')) : Agr wX10_pass_0 S S' := fbX10_pass_0_0 x S  r S' hm
def wX1_takeBack_33 : List (Nat × Nat) × List Nat × List Nat × List Nat := ([(33, 0)], [5, 6, 7, 8, 10, 14], [], [])
set_option maxHeartbeats 4000000 in
set_option maxRecDepth 20000 in
theorem fbX1_takeBack_33_233 (x : XT)  (S : ST) (v1 : Int32) (r : Int32) (S' : ST) (hm : bfX1_takeBack_33_233 x  S v1 = some (r, S')) : Agr wX1_takeBack_33 S S' := by
    unfold bfX1_takeBack_33_233 at hm
    obtain ⟨o1, hm⟩ := oblk hm
    cases hm
    exact Agr.rf
set_option maxHeartbeats 4000000 in
set_option maxRecDepth 20000 in
theorem fbX1_takeBack_33_208 (x : XT)  (S : ST) (v1 : Int32) (r : Int32) (S' : ST) (hm : bfX1_takeBack_33_208 x  S v1 = some (r, S')) : Agr wX1_takeBack_33 S S' := by
    unfold bfX1_takeBack_33_208 at hm
    obtain ⟨o1, hm⟩ := oblk hm
    by_cases c2 : ¬ (S.2.1 34 v1.toNatClampNeg) = 266
    · rw [if_pos c2] at hm
      exact Agr.tr Agr.rf (fbX1_takeBack_33_233 x  S v1 _ _ hm)
    · rw [if_neg c2] at hm
      exact Agr.tr (Agr.i Agr.rf 14 0 ((S.2.1 14 0) - 1) (by decide)) (fbX1_takeBack_33_233 x  (S.1, (u2 S.2.1 14 0 ((S.2.1 14 0) - 1)), S.2.2.1, S.2.2.2) v1 _ _ hm)
set_option maxHeartbeats 4000000 in
set_option maxRecDepth 20000 in
theorem fbX1_takeBack_33_165 (x : XT)  (S : ST) (v1 : Int32) (v2 : Int32) (r : Int32) (S' : ST) (hm : bfX1_takeBack_33_165 x  S v1 v2 = some (r, S')) : Agr wX1_takeBack_33 S S' := by
    unfold bfX1_takeBack_33_165 at hm
    obtain ⟨o1, hm⟩ := oblk hm
    by_cases c2 : ¬ (S.2.1 34 v1.toNatClampNeg) = 265
    · rw [if_pos c2] at hm
      exact Agr.tr Agr.rf (fbX1_takeBack_33_208 x  S v1 _ _ hm)
    · rw [if_neg c2] at hm
      cases h3 : gfX7_hasGate_1 x S v2 with
      | none => rw [h3] at hm; cases hm
      | some q4 =>
        obtain ⟨r5, S6⟩ := q4
        rw [h3] at hm
        dsimp only at hm
        have a_S6 : Agr wX1_takeBack_33 S S6 := Agr.tr Agr.rf (Agr.sub (frX7_hasGate_1 x S v2 _ _ h3) (by decide))
        by_cases c7 : r5 = 0
        · rw [if_pos c7] at hm
          exact Agr.tr a_S6 (fbX1_takeBack_33_208 x  S6 v1 _ _ hm)
        · rw [if_neg c7] at hm
          obtain ⟨o8, hm⟩ := oblk hm
          obtain ⟨o9, hm⟩ := oblk hm
          exact Agr.tr (Agr.i a_S6 5 v2.toNatClampNeg (S6.2.1 34 ((v1 + 2).toNatClampNeg)) (by decide)) (fbX1_takeBack_33_233 x  (S6.1, (u2 S6.2.1 5 v2.toNatClampNeg (S6.2.1 34 ((v1 + 2).toNatClampNeg))), S6.2.2.1, S6.2.2.2) v1 _ _ hm)
set_option maxHeartbeats 4000000 in
set_option maxRecDepth 20000 in
theorem fbX1_takeBack_33_161 (x : XT)  (S : ST) (v1 : Int32) (t1 : Int32) (t2 : Int32) (r : Int32) (S' : ST) (hm : bfX1_takeBack_33_161 x  S v1 t1 t2 = some (r, S')) : Agr wX1_takeBack_33 S S' := by
    unfold bfX1_takeBack_33_161 at hm
    obtain ⟨o1, hm⟩ := oblk hm
    exact Agr.tr (Agr.i Agr.rf 6 t1.toNatClampNeg (vp_nar .boolean t2) (by decide)) (fbX1_takeBack_33_233 x  (S.1, (u2 S.2.1 6 t1.toNatClampNeg (vp_nar .boolean t2)), S.2.2.1, S.2.2.2) v1 _ _ hm)
set_option maxHeartbeats 4000000 in
set_option maxRecDepth 20000 in
theorem fbX1_takeBack_33_113 (x : XT)  (S : ST) (v1 : Int32) (v2 : Int32) (r : Int32) (S' : ST) (hm : bfX1_takeBack_33_113 x  S v1 v2 = some (r, S')) : Agr wX1_takeBack_33 S S' := by
    unfold bfX1_takeBack_33_113 at hm
    obtain ⟨o1, hm⟩ := oblk hm
    by_cases c2 : ¬ (S.2.1 34 v1.toNatClampNeg) = 264
    · rw [if_pos c2] at hm
      exact Agr.tr Agr.rf (fbX1_takeBack_33_165 x  S v1 v2 _ _ hm)
    · rw [if_neg c2] at hm
      cases h3 : gfX7_hasGate_1 x S v2 with
      | none => rw [h3] at hm; cases hm
      | some q4 =>
        obtain ⟨r5, S6⟩ := q4
        rw [h3] at hm
        dsimp only at hm
        have a_S6 : Agr wX1_takeBack_33 S S6 := Agr.tr Agr.rf (Agr.sub (frX7_hasGate_1 x S v2 _ _ h3) (by decide))
        by_cases c7 : r5 = 0
        · rw [if_pos c7] at hm
          exact Agr.tr a_S6 (fbX1_takeBack_33_165 x  S6 v1 v2 _ _ hm)
        · rw [if_neg c7] at hm
          obtain ⟨o8, hm⟩ := oblk hm
          by_cases c9 : ¬ (S6.2.1 6 v2.toNatClampNeg) = 0
          · rw [if_pos c9] at hm
            exact Agr.tr a_S6 (fbX1_takeBack_33_161 x  S6 v1 v2 0 _ _ hm)
          · rw [if_neg c9] at hm
            exact Agr.tr a_S6 (fbX1_takeBack_33_161 x  S6 v1 v2 1 _ _ hm)
set_option maxHeartbeats 4000000 in
set_option maxRecDepth 20000 in
theorem fbX1_takeBack_33_0 (x : XT)  (S : ST)  (r : Int32) (S' : ST) (hm : bfX1_takeBack_33_0 x  S  = some (r, S')) : Agr wX1_takeBack_33 S S' := by
    unfold bfX1_takeBack_33_0 at hm
    by_cases c1 : 0 < (S.1 33 0)
    · rw [if_pos c1] at hm
      obtain ⟨o2, hm⟩ := oblk hm
      obtain ⟨o3, hm⟩ := oblk hm
      by_cases c4 : ¬ (S.2.1 34 ((((S.1 33 0) - 1) * 5).toNatClampNeg)) = 263
      · rw [if_pos c4] at hm
        exact Agr.tr (Agr.f Agr.rf 33 0 ((S.1 33 0) - 1) (by decide)) (fbX1_takeBack_33_113 x  ((u2 S.1 33 0 ((S.1 33 0) - 1)), S.2.1, S.2.2.1, S.2.2.2) (((S.1 33 0) - 1) * 5) (S.2.1 34 (((((S.1 33 0) - 1) * 5) + 1).toNatClampNeg)) _ _ hm)
      · rw [if_neg c4] at hm
        cases h5 : gfX7_hasGoer_1 x ((u2 S.1 33 0 ((S.1 33 0) - 1)), S.2.1, S.2.2.1, S.2.2.2) (S.2.1 34 (((((S.1 33 0) - 1) * 5) + 1).toNatClampNeg)) with
        | none => rw [h5] at hm; cases hm
        | some q6 =>
          obtain ⟨r7, S8⟩ := q6
          rw [h5] at hm
          dsimp only at hm
          have a_S8 : Agr wX1_takeBack_33 S S8 := Agr.tr (Agr.f Agr.rf 33 0 ((S.1 33 0) - 1) (by decide)) (Agr.sub (frX7_hasGoer_1 x ((u2 S.1 33 0 ((S.1 33 0) - 1)), S.2.1, S.2.2.1, S.2.2.2) (S.2.1 34 (((((S.1 33 0) - 1) * 5) + 1).toNatClampNeg)) _ _ h5) (by decide))
          by_cases c9 : r7 = 0
          · rw [if_pos c9] at hm
            exact Agr.tr a_S8 (fbX1_takeBack_33_113 x  S8 (((S.1 33 0) - 1) * 5) (S.2.1 34 (((((S.1 33 0) - 1) * 5) + 1).toNatClampNeg)) _ _ hm)
          · rw [if_neg c9] at hm
            obtain ⟨o10, hm⟩ := oblk hm
            obtain ⟨o11, hm⟩ := oblk hm
            obtain ⟨o12, hm⟩ := oblk hm
            obtain ⟨o13, hm⟩ := oblk hm
            obtain ⟨o14, hm⟩ := oblk hm
            obtain ⟨o15, hm⟩ := oblk hm
            exact Agr.tr (Agr.i (Agr.i (Agr.i a_S8 7 ((S.2.1 34 (((((S.1 33 0) - 1) * 5) + 1).toNatClampNeg)).toNatClampNeg) (S8.2.1 34 (((((S.1 33 0) - 1) * 5) + 2).toNatClampNeg)) (by decide)) 8 ((S.2.1 34 (((((S.1 33 0) - 1) * 5) + 1).toNatClampNeg)).toNatClampNeg) (S8.2.1 34 (((((S.1 33 0) - 1) * 5) + 3).toNatClampNeg)) (by decide)) 10 ((S.2.1 34 (((((S.1 33 0) - 1) * 5) + 1).toNatClampNeg)).toNatClampNeg) (S8.2.1 34 (((((S.1 33 0) - 1) * 5) + 4).toNatClampNeg)) (by decide)) (fbX1_takeBack_33_233 x  (S8.1, (u2 (u2 (u2 S8.2.1 7 ((S.2.1 34 (((((S.1 33 0) - 1) * 5) + 1).toNatClampNeg)).toNatClampNeg) (S8.2.1 34 (((((S.1 33 0) - 1) * 5) + 2).toNatClampNeg))) 8 ((S.2.1 34 (((((S.1 33 0) - 1) * 5) + 1).toNatClampNeg)).toNatClampNeg) (S8.2.1 34 (((((S.1 33 0) - 1) * 5) + 3).toNatClampNeg))) 10 ((S.2.1 34 (((((S.1 33 0) - 1) * 5) + 1).toNatClampNeg)).toNatClampNeg) (S8.2.1 34 (((((S.1 33 0) - 1) * 5) + 4).toNatClampNeg))), S8.2.2.1, S8.2.2.2) (((S.1 33 0) - 1) * 5) _ _ hm)
    · rw [if_neg c1] at hm
      cases hm
      exact Agr.rf
theorem frX1_takeBack_33 (x : XT) (S : ST)  (r : Int32) (S' : ST) (hm : gfX1_takeBack_33 x S  = some (r, S')) : Agr wX1_takeBack_33 S S' := fbX1_takeBack_33_0 x S  r S' hm
def wX10_undo_0 : List (Nat × Nat) × List Nat × List Nat × List Nat := ([(0, 12), (33, 0)], [5, 6, 7, 8, 10, 14, 99], [], [])
set_option maxHeartbeats 4000000 in
set_option maxRecDepth 20000 in
theorem fbX10_undo_0_0 (x : XT)  (S : ST)  (r : Int32) (S' : ST) (hm : bfX10_undo_0_0 x  S  = some (r, S')) : Agr wX10_undo_0 S S' := by
    unfold bfX10_undo_0_0 at hm
    cases h1 : gfX1_takeBack_33 x S with
    | none => rw [h1] at hm; cases hm
    | some q2 =>
      obtain ⟨r3, S4⟩ := q2
      rw [h1] at hm
      dsimp only at hm
      have a_S4 : Agr wX10_undo_0 S S4 := Agr.tr Agr.rf (Agr.sub (frX1_takeBack_33 x S _ _ h1) (by decide))
      cases h5 : gfX10_told_0 x S4 r3 with
      | none => rw [h5] at hm; cases hm
      | some q6 =>
        obtain ⟨r7, S8⟩ := q6
        rw [h5] at hm
        dsimp only at hm
        have a_S8 : Agr wX10_undo_0 S S8 := Agr.tr a_S4 (Agr.sub (frX10_told_0 x S4 r3 _ _ h5) (by decide))
        cases hm
        exact a_S8
theorem frX10_undo_0 (x : XT) (S : ST)  (r : Int32) (S' : ST) (hm : gfX10_undo_0 x S  = some (r, S')) : Agr wX10_undo_0 S S' := fbX10_undo_0_0 x S  r S' hm
def wX10_canSeek_0 : List (Nat × Nat) × List Nat × List Nat × List Nat := ([], [], [], [])
set_option maxHeartbeats 4000000 in
set_option maxRecDepth 20000 in
theorem fbX10_canSeek_0_39 (x : XT)  (S : ST) (t0 : Int32) (r : Int32) (S' : ST) (hm : bfX10_canSeek_0_39 x  S t0 = some (r, S')) : Agr wX10_canSeek_0 S S' := by
    unfold bfX10_canSeek_0_39 at hm
    obtain ⟨o1, hm⟩ := oblk hm
    cases hm
    exact Agr.rf
set_option maxHeartbeats 4000000 in
set_option maxRecDepth 20000 in
theorem fbX10_canSeek_0_38 (x : XT)  (S : ST)  (r : Int32) (S' : ST) (hm : bfX10_canSeek_0_38 x  S  = some (r, S')) : Agr wX10_canSeek_0 S S' := by
    unfold bfX10_canSeek_0_38 at hm
    exact Agr.tr Agr.rf (fbX10_canSeek_0_39 x  S 0 _ _ hm)
set_option maxHeartbeats 4000000 in
set_option maxRecDepth 20000 in
theorem fbX10_canSeek_0_34 (x : XT)  (S : ST)  (r : Int32) (S' : ST) (hm : bfX10_canSeek_0_34 x  S  = some (r, S')) : Agr wX10_canSeek_0 S S' := by
    unfold bfX10_canSeek_0_34 at hm
    exact Agr.tr Agr.rf (fbX10_canSeek_0_39 x  S 1 _ _ hm)
set_option maxHeartbeats 4000000 in
set_option maxRecDepth 20000 in
theorem fbX10_canSeek_0_0 (x : XT)  (S : ST) (p1 : Int32) (p2 : Int32) (p3 : Int32) (r : Int32) (S' : ST) (hm : bfX10_canSeek_0_0 x  S p1 p2 p3 = some (r, S')) : Agr wX10_canSeek_0 S S' := by
    unfold bfX10_canSeek_0_0 at hm
    cases h1 : gfX7_hasGoer_1 x S p1 with
    | none => rw [h1] at hm; cases hm
    | some q2 =>
      obtain ⟨r3, S4⟩ := q2
      rw [h1] at hm
      dsimp only at hm
      have a_S4 : Agr wX10_canSeek_0 S S4 := Agr.tr Agr.rf (Agr.sub (frX7_hasGoer_1 x S p1 _ _ h1) (by decide))
      by_cases c5 : r3 = 0
      · rw [if_pos c5] at hm
        exact Agr.tr a_S4 (fbX10_canSeek_0_38 x  S4 _ _ hm)
      · rw [if_neg c5] at hm
        cases h6 : gfX10_within x S4 p2 6 with
        | none => rw [h6] at hm; cases hm
        | some q7 =>
          obtain ⟨r8, S9⟩ := q7
          rw [h6] at hm
          dsimp only at hm
          have a_S9 : Agr wX10_canSeek_0 S S9 := Agr.tr a_S4 (Agr.sub (frX10_within x S4 p2 6 _ _ h6) (by decide))
          by_cases c10 : r8 = 0
          · rw [if_pos c10] at hm
            exact Agr.tr a_S9 (fbX10_canSeek_0_38 x  S9 _ _ hm)
          · rw [if_neg c10] at hm
            by_cases c11 : p3 = (-1)
            · rw [if_pos c11] at hm
              exact Agr.tr a_S9 (fbX10_canSeek_0_34 x  S9 _ _ hm)
            · rw [if_neg c11] at hm
              cases h12 : gfX10_within x S9 p3 20 with
              | none => rw [h12] at hm; cases hm
              | some q13 =>
                obtain ⟨r14, S15⟩ := q13
                rw [h12] at hm
                dsimp only at hm
                have a_S15 : Agr wX10_canSeek_0 S S15 := Agr.tr a_S9 (Agr.sub (frX10_within x S9 p3 20 _ _ h12) (by decide))
                by_cases c16 : r14 = 0
                · rw [if_pos c16] at hm
                  exact Agr.tr a_S15 (fbX10_canSeek_0_38 x  S15 _ _ hm)
                · rw [if_neg c16] at hm
                  exact Agr.tr a_S15 (fbX10_canSeek_0_34 x  S15 _ _ hm)
theorem frX10_canSeek_0 (x : XT) (S : ST) (p1 : Int32) (p2 : Int32) (p3 : Int32) (r : Int32) (S' : ST) (hm : gfX10_canSeek_0 x S p1 p2 p3 = some (r, S')) : Agr wX10_canSeek_0 S S' := fbX10_canSeek_0_0 x S p1 p2 p3 r S' hm
def wX7_copyFrom_55_1 : List (Nat × Nat) × List Nat × List Nat × List Nat := ([(55, 0), (55, 6), (55, 11), (55, 16), (55, 18)], [56, 57, 58, 59, 60, 61, 62, 63, 64, 65, 66, 67, 68], [], [69])
set_option maxHeartbeats 4000000 in
set_option maxRecDepth 20000 in
theorem fbX7_copyFrom_55_1_252 (x : XT) (k252 : ST → Int32 → Option (Unit × ST)) (ak252 : ∀ (S : ST) (v2 : Int32) (r : Unit) (S' : ST), k252 S v2 = some (r, S') → Agr wX7_copyFrom_55_1 S S') (S : ST) (v2 : Int32) (r : Unit) (S' : ST) (hm : bfX7_copyFrom_55_1_252 x k252 S v2 = some (r, S')) : Agr wX7_copyFrom_55_1 S S' := by
    unfold bfX7_copyFrom_55_1_252 at hm
    by_cases c1 : 6 ≤ v2
    · rw [if_pos c1] at hm
      cases hm
      exact Agr.rf
    · rw [if_neg c1] at hm
      obtain ⟨o2, hm⟩ := oblk hm
      obtain ⟨o3, hm⟩ := oblk hm
      obtain ⟨o4, hm⟩ := oblk hm
      exact Agr.tr (Agr.q Agr.rf 69 v2.toNatClampNeg (S.2.2.2 15 v2.toNatClampNeg) (by decide)) (ak252 (S.1, S.2.1, S.2.2.1, (u2 S.2.2.2 69 v2.toNatClampNeg (S.2.2.2 15 v2.toNatClampNeg))) (v2 + 1) _ _ hm)
theorem flX7_copyFrom_55_1_252 (x : XT)  : ∀ (n : Nat) (S : ST) (v2 : Int32) (r : Unit) (S' : ST), lfX7_copyFrom_55_1_252 x  n S v2 = some (r, S') → Agr wX7_copyFrom_55_1 S S'
  | 0, _, _, _, _, hm => by cases hm
  | n + 1, S, v2, r, S', hm => fbX7_copyFrom_55_1_252 x (lfX7_copyFrom_55_1_252 x  n) (flX7_copyFrom_55_1_252 x  n) S v2 r S' hm
set_option maxHeartbeats 4000000 in
set_option maxRecDepth 20000 in
theorem fbX7_copyFrom_55_1_227 (x : XT) (k227 : ST → Int32 → Option (Unit × ST)) (ak227 : ∀ (S : ST) (v2 : Int32) (r : Unit) (S' : ST), k227 S v2 = some (r, S') → Agr wX7_copyFrom_55_1 S S') (S : ST) (v2 : Int32) (r : Unit) (S' : ST) (hm : bfX7_copyFrom_55_1_227 x k227 S v2 = some (r, S')) : Agr wX7_copyFrom_55_1 S S' := by
    unfold bfX7_copyFrom_55_1_227 at hm
    by_cases c1 : 3 ≤ v2
    · rw [if_pos c1] at hm
      exact Agr.tr Agr.rf (flX7_copyFrom_55_1_252 x  20000 S 0 _ _ hm)
    · rw [if_neg c1] at hm
      obtain ⟨o2, hm⟩ := oblk hm
      obtain ⟨o3, hm⟩ := oblk hm
      exact Agr.tr (Agr.i Agr.rf 68 v2.toNatClampNeg (S.2.1 14 v2.toNatClampNeg) (by decide)) (ak227 (S.1, (u2 S.2.1 68 v2.toNatClampNeg (S.2.1 14 v2.toNatClampNeg)), S.2.2.1, S.2.2.2) (v2 + 1) _ _ hm)
theorem flX7_copyFrom_55_1_227 (x : XT)  : ∀ (n : Nat) (S : ST) (v2 : Int32) (r : Unit) (S' : ST), lfX7_copyFrom_55_1_227 x  n S v2 = some (r, S') → Agr wX7_copyFrom_55_1 S S'
  | 0, _, _, _, _, hm => by cases hm
  | n + 1, S, v2, r, S', hm => fbX7_copyFrom_55_1_227 x (lfX7_copyFrom_55_1_227 x  n) (flX7_copyFrom_55_1_227 x  n) S v2 r S' hm
set_option maxHeartbeats 4000000 in
set_option maxRecDepth 20000 in
theorem fbX7_copyFrom_55_1_177 (x : XT) (k177 : ST → Int32 → Option (Unit × ST)) (ak177 : ∀ (S : ST) (v2 : Int32) (r : Unit) (S' : ST), k177 S v2 = some (r, S') → Agr wX7_copyFrom_55_1 S S') (S : ST) (v2 : Int32) (r : Unit) (S' : ST) (hm : bfX7_copyFrom_55_1_177 x k177 S v2 = some (r, S')) : Agr wX7_copyFrom_55_1 S S' := by
    unfold bfX7_copyFrom_55_1_177 at hm
    by_cases c1 : 6 ≤ v2
    · rw [if_pos c1] at hm
      exact Agr.tr Agr.rf (flX7_copyFrom_55_1_227 x  20000 S 0 _ _ hm)
    · rw [if_neg c1] at hm
      obtain ⟨o2, hm⟩ := oblk hm
      obtain ⟨o3, hm⟩ := oblk hm
      obtain ⟨o4, hm⟩ := oblk hm
      obtain ⟨o5, hm⟩ := oblk hm
      obtain ⟨o6, hm⟩ := oblk hm
      obtain ⟨o7, hm⟩ := oblk hm
      exact Agr.tr (Agr.i (Agr.i (Agr.i Agr.rf 65 v2.toNatClampNeg (S.2.1 11 v2.toNatClampNeg) (by decide)) 66 v2.toNatClampNeg (S.2.1 12 v2.toNatClampNeg) (by decide)) 67 v2.toNatClampNeg (S.2.1 13 v2.toNatClampNeg) (by decide)) (ak177 (S.1, (u2 (u2 (u2 S.2.1 65 v2.toNatClampNeg (S.2.1 11 v2.toNatClampNeg)) 66 v2.toNatClampNeg (S.2.1 12 v2.toNatClampNeg)) 67 v2.toNatClampNeg (S.2.1 13 v2.toNatClampNeg)), S.2.2.1, S.2.2.2) (v2 + 1) _ _ hm)
theorem flX7_copyFrom_55_1_177 (x : XT)  : ∀ (n : Nat) (S : ST) (v2 : Int32) (r : Unit) (S' : ST), lfX7_copyFrom_55_1_177 x  n S v2 = some (r, S') → Agr wX7_copyFrom_55_1 S S'
  | 0, _, _, _, _, hm => by cases hm
  | n + 1, S, v2, r, S', hm => fbX7_copyFrom_55_1_177 x (lfX7_copyFrom_55_1_177 x  n) (flX7_copyFrom_55_1_177 x  n) S v2 r S' hm
set_option maxHeartbeats 4000000 in
set_option maxRecDepth 20000 in
theorem fbX7_copyFrom_55_1_116 (x : XT) (k116 : ST → Int32 → Option (Unit × ST)) (ak116 : ∀ (S : ST) (v2 : Int32) (r : Unit) (S' : ST), k116 S v2 = some (r, S') → Agr wX7_copyFrom_55_1 S S') (S : ST) (v2 : Int32) (r : Unit) (S' : ST) (hm : bfX7_copyFrom_55_1_116 x k116 S v2 = some (r, S')) : Agr wX7_copyFrom_55_1 S S' := by
    unfold bfX7_copyFrom_55_1_116 at hm
    by_cases c1 : 5 ≤ v2
    · rw [if_pos c1] at hm
      exact Agr.tr Agr.rf (flX7_copyFrom_55_1_177 x  20000 S 0 _ _ hm)
    · rw [if_neg c1] at hm
      obtain ⟨o2, hm⟩ := oblk hm
      obtain ⟨o3, hm⟩ := oblk hm
      obtain ⟨o4, hm⟩ := oblk hm
      obtain ⟨o5, hm⟩ := oblk hm
      obtain ⟨o6, hm⟩ := oblk hm
      obtain ⟨o7, hm⟩ := oblk hm
      obtain ⟨o8, hm⟩ := oblk hm
      obtain ⟨o9, hm⟩ := oblk hm
      exact Agr.tr (Agr.i (Agr.i (Agr.i (Agr.i Agr.rf 61 v2.toNatClampNeg (S.2.1 7 v2.toNatClampNeg) (by decide)) 62 v2.toNatClampNeg (S.2.1 8 v2.toNatClampNeg) (by decide)) 63 v2.toNatClampNeg (S.2.1 9 v2.toNatClampNeg) (by decide)) 64 v2.toNatClampNeg (S.2.1 10 v2.toNatClampNeg) (by decide)) (ak116 (S.1, (u2 (u2 (u2 (u2 S.2.1 61 v2.toNatClampNeg (S.2.1 7 v2.toNatClampNeg)) 62 v2.toNatClampNeg (S.2.1 8 v2.toNatClampNeg)) 63 v2.toNatClampNeg (S.2.1 9 v2.toNatClampNeg)) 64 v2.toNatClampNeg (S.2.1 10 v2.toNatClampNeg)), S.2.2.1, S.2.2.2) (v2 + 1) _ _ hm)
theorem flX7_copyFrom_55_1_116 (x : XT)  : ∀ (n : Nat) (S : ST) (v2 : Int32) (r : Unit) (S' : ST), lfX7_copyFrom_55_1_116 x  n S v2 = some (r, S') → Agr wX7_copyFrom_55_1 S S'
  | 0, _, _, _, _, hm => by cases hm
  | n + 1, S, v2, r, S', hm => fbX7_copyFrom_55_1_116 x (lfX7_copyFrom_55_1_116 x  n) (flX7_copyFrom_55_1_116 x  n) S v2 r S' hm
set_option maxHeartbeats 4000000 in
set_option maxRecDepth 20000 in
theorem fbX7_copyFrom_55_1_42 (x : XT) (k42 : ST → Int32 → Option (Unit × ST)) (ak42 : ∀ (S : ST) (v2 : Int32) (r : Unit) (S' : ST), k42 S v2 = some (r, S') → Agr wX7_copyFrom_55_1 S S') (S : ST) (v2 : Int32) (r : Unit) (S' : ST) (hm : bfX7_copyFrom_55_1_42 x k42 S v2 = some (r, S')) : Agr wX7_copyFrom_55_1 S S' := by
    unfold bfX7_copyFrom_55_1_42 at hm
    by_cases c1 : 10 ≤ v2
    · rw [if_pos c1] at hm
      exact Agr.tr Agr.rf (flX7_copyFrom_55_1_116 x  20000 S 0 _ _ hm)
    · rw [if_neg c1] at hm
      obtain ⟨o2, hm⟩ := oblk hm
      obtain ⟨o3, hm⟩ := oblk hm
      obtain ⟨o4, hm⟩ := oblk hm
      obtain ⟨o5, hm⟩ := oblk hm
      obtain ⟨o6, hm⟩ := oblk hm
      obtain ⟨o7, hm⟩ := oblk hm
      obtain ⟨o8, hm⟩ := oblk hm
      obtain ⟨o9, hm⟩ := oblk hm
      obtain ⟨o10, hm⟩ := oblk hm
      obtain ⟨o11, hm⟩ := oblk hm
      exact Agr.tr (Agr.i (Agr.i (Agr.i (Agr.i (Agr.i Agr.rf 56 v2.toNatClampNeg (S.2.1 2 v2.toNatClampNeg) (by decide)) 57 v2.toNatClampNeg (S.2.1 3 v2.toNatClampNeg) (by decide)) 58 v2.toNatClampNeg (S.2.1 4 v2.toNatClampNeg) (by decide)) 59 v2.toNatClampNeg (S.2.1 5 v2.toNatClampNeg) (by decide)) 60 v2.toNatClampNeg (vp_nar .boolean (S.2.1 6 v2.toNatClampNeg)) (by decide)) (ak42 (S.1, (u2 (u2 (u2 (u2 (u2 S.2.1 56 v2.toNatClampNeg (S.2.1 2 v2.toNatClampNeg)) 57 v2.toNatClampNeg (S.2.1 3 v2.toNatClampNeg)) 58 v2.toNatClampNeg (S.2.1 4 v2.toNatClampNeg)) 59 v2.toNatClampNeg (S.2.1 5 v2.toNatClampNeg)) 60 v2.toNatClampNeg (vp_nar .boolean (S.2.1 6 v2.toNatClampNeg))), S.2.2.1, S.2.2.2) (v2 + 1) _ _ hm)
theorem flX7_copyFrom_55_1_42 (x : XT)  : ∀ (n : Nat) (S : ST) (v2 : Int32) (r : Unit) (S' : ST), lfX7_copyFrom_55_1_42 x  n S v2 = some (r, S') → Agr wX7_copyFrom_55_1 S S'
  | 0, _, _, _, _, hm => by cases hm
  | n + 1, S, v2, r, S', hm => fbX7_copyFrom_55_1_42 x (lfX7_copyFrom_55_1_42 x  n) (flX7_copyFrom_55_1_42 x  n) S v2 r S' hm
set_option maxHeartbeats 4000000 in
set_option maxRecDepth 20000 in
theorem fbX7_copyFrom_55_1_0 (x : XT)  (S : ST)  (r : Unit) (S' : ST) (hm : bfX7_copyFrom_55_1_0 x  S  = some (r, S')) : Agr wX7_copyFrom_55_1 S S' := by
    unfold bfX7_copyFrom_55_1_0 at hm
    exact Agr.tr (Agr.f (Agr.f (Agr.f (Agr.f (Agr.f Agr.rf 55 0 (S.1 1 0) (by decide)) 55 6 (S.1 1 6) (by decide)) 55 11 (S.1 1 11) (by decide)) 55 16 (S.1 1 16) (by decide)) 55 18 (S.1 1 18) (by decide)) (flX7_copyFrom_55_1_42 x  20000 ((u2 (u2 (u2 (u2 (u2 S.1 55 0 (S.1 1 0)) 55 6 (S.1 1 6)) 55 11 (S.1 1 11)) 55 16 (S.1 1 16)) 55 18 (S.1 1 18)), S.2.1, S.2.2.1, S.2.2.2) 0 _ _ hm)
theorem frX7_copyFrom_55_1 (x : XT) (S : ST)  (r : Unit) (S' : ST) (hm : gfX7_copyFrom_55_1 x S  = some (r, S')) : Agr wX7_copyFrom_55_1 S S' := fbX7_copyFrom_55_1_0 x S  r S' hm
def wJ7_fill_53178_70 : List (Nat × Nat) × List Nat × List Nat × List Nat := ([], [70], [], [])
set_option maxHeartbeats 4000000 in
set_option maxRecDepth 20000 in
theorem fbJ7_fill_53178_70_5 (x : XT) (k5 : ST → Int32 → Int32 → Int32 → Option (Unit × ST)) (ak5 : ∀ (S : ST) (v1 : Int32) (v2 : Int32) (v3 : Int32) (r : Unit) (S' : ST), k5 S v1 v2 v3 = some (r, S') → Agr wJ7_fill_53178_70 S S') (S : ST) (v1 : Int32) (v2 : Int32) (v3 : Int32) (r : Unit) (S' : ST) (hm : bfJ7_fill_53178_70_5 x k5 S v1 v2 v3 = some (r, S')) : Agr wJ7_fill_53178_70 S S' := by
    unfold bfJ7_fill_53178_70_5 at hm
    by_cases c1 : v3 ≤ v2
    · rw [if_pos c1] at hm
      cases hm
      exact Agr.rf
    · rw [if_neg c1] at hm
      obtain ⟨o2, hm⟩ := oblk hm
      exact Agr.tr (Agr.i Agr.rf 70 v2.toNatClampNeg v1 (by decide)) (ak5 (S.1, (u2 S.2.1 70 v2.toNatClampNeg v1), S.2.2.1, S.2.2.2) v1 (v2 + 1) v3 _ _ hm)
theorem flJ7_fill_53178_70_5 (x : XT)  : ∀ (n : Nat) (S : ST) (v1 : Int32) (v2 : Int32) (v3 : Int32) (r : Unit) (S' : ST), lfJ7_fill_53178_70_5 x  n S v1 v2 v3 = some (r, S') → Agr wJ7_fill_53178_70 S S'
  | 0, _, _, _, _, _, _, hm => by cases hm
  | n + 1, S, v1, v2, v3, r, S', hm => fbJ7_fill_53178_70_5 x (lfJ7_fill_53178_70_5 x  n) (flJ7_fill_53178_70_5 x  n) S v1 v2 v3 r S' hm
set_option maxHeartbeats 4000000 in
set_option maxRecDepth 20000 in
theorem fbJ7_fill_53178_70_0 (x : XT)  (S : ST) (p1 : Int32) (r : Unit) (S' : ST) (hm : bfJ7_fill_53178_70_0 x  S p1 = some (r, S')) : Agr wJ7_fill_53178_70 S S' := by
    unfold bfJ7_fill_53178_70_0 at hm
    exact Agr.tr Agr.rf (flJ7_fill_53178_70_5 x  20000 S p1 0 200 _ _ hm)
theorem frJ7_fill_53178_70 (x : XT) (S : ST) (p1 : Int32) (r : Unit) (S' : ST) (hm : gfJ7_fill_53178_70 x S p1 = some (r, S')) : Agr wJ7_fill_53178_70 S S' := fbJ7_fill_53178_70_0 x S p1 r S' hm
def wX6_begin_54_1 : List (Nat × Nat) × List Nat × List Nat × List Nat := ([(54, 2), (55, 0), (55, 6), (55, 11), (55, 16), (55, 18)], [56, 57, 58, 59, 60, 61, 62, 63, 64, 65, 66, 67, 68, 70], [], [69])
set_option maxHeartbeats 4000000 in
set_option maxRecDepth 20000 in
theorem fbX6_begin_54_1_0 (x : XT)  (S : ST) (p2 : Int32) (r : Unit) (S' : ST) (hm : bfX6_begin_54_1_0 x  S p2 = some (r, S')) : Agr wX6_begin_54_1 S S' := by
    unfold bfX6_begin_54_1_0 at hm
    cases h1 : gfX7_copyFrom_55_1 x S with
    | none => rw [h1] at hm; cases hm
    | some q2 =>
      obtain ⟨r3, S4⟩ := q2
      rw [h1] at hm
      dsimp only at hm
      have a_S4 : Agr wX6_begin_54_1 S S4 := Agr.tr Agr.rf (Agr.sub (frX7_copyFrom_55_1 x S _ _ h1) (by decide))
      cases h5 : gfJ7_fill_53178_70 x ((u2 S4.1 54 2 p2), S4.2.1, S4.2.2.1, S4.2.2.2) (-2) with
      | none => rw [h5] at hm; cases hm
      | some q6 =>
        obtain ⟨r7, S8⟩ := q6
        rw [h5] at hm
        dsimp only at hm
        have a_S8 : Agr wX6_begin_54_1 S S8 := Agr.tr (Agr.f a_S4 54 2 p2 (by decide)) (Agr.sub (frJ7_fill_53178_70 x ((u2 S4.1 54 2 p2), S4.2.1, S4.2.2.1, S4.2.2.2) (-2) _ _ h5) (by decide))
        cases hm
        exact a_S8
theorem frX6_begin_54_1 (x : XT) (S : ST) (p2 : Int32) (r : Unit) (S' : ST) (hm : gfX6_begin_54_1 x S p2 = some (r, S')) : Agr wX6_begin_54_1 S S' := fbX6_begin_54_1_0 x S p2 r S' hm
def wX6_isAt : List (Nat × Nat) × List Nat × List Nat × List Nat := ([], [], [], [])
set_option maxHeartbeats 4000000 in
set_option maxRecDepth 20000 in
theorem fbX6_isAt_26 (x : XT)  (S : ST) (t0 : Int32) (r : Int32) (S' : ST) (hm : bfX6_isAt_26 x  S t0 = some (r, S')) : Agr wX6_isAt S S' := by
    unfold bfX6_isAt_26 at hm
    obtain ⟨o1, hm⟩ := oblk hm
    cases hm
    exact Agr.rf
set_option maxHeartbeats 4000000 in
set_option maxRecDepth 20000 in
theorem fbX6_isAt_25 (x : XT)  (S : ST)  (r : Int32) (S' : ST) (hm : bfX6_isAt_25 x  S  = some (r, S')) : Agr wX6_isAt S S' := by
    unfold bfX6_isAt_25 at hm
    exact Agr.tr Agr.rf (fbX6_isAt_26 x  S 0 _ _ hm)
set_option maxHeartbeats 4000000 in
set_option maxRecDepth 20000 in
theorem fbX6_isAt_21 (x : XT)  (S : ST)  (r : Int32) (S' : ST) (hm : bfX6_isAt_21 x  S  = some (r, S')) : Agr wX6_isAt S S' := by
    unfold bfX6_isAt_21 at hm
    exact Agr.tr Agr.rf (fbX6_isAt_26 x  S 1 _ _ hm)
set_option maxHeartbeats 4000000 in
set_option maxRecDepth 20000 in
theorem fbX6_isAt_0 (x : XT)  (S : ST) (p0 : Int32) (p1 : Int32) (p2 : Int32) (r : Int32) (S' : ST) (hm : bfX6_isAt_0 x  S p0 p1 p2 = some (r, S')) : Agr wX6_isAt S S' := by
    unfold bfX6_isAt_0 at hm
    by_cases c1 : ¬ (p0 / 20) = p1
    · rw [if_pos c1] at hm
      exact Agr.tr Agr.rf (fbX6_isAt_25 x  S _ _ hm)
    · rw [if_neg c1] at hm
      by_cases c2 : p2 = (-1)
      · rw [if_pos c2] at hm
        exact Agr.tr Agr.rf (fbX6_isAt_21 x  S _ _ hm)
      · rw [if_neg c2] at hm
        by_cases c3 : ¬ (p0 - p0 / 20 * 20) = p2
        · rw [if_pos c3] at hm
          exact Agr.tr Agr.rf (fbX6_isAt_25 x  S _ _ hm)
        · rw [if_neg c3] at hm
          exact Agr.tr Agr.rf (fbX6_isAt_21 x  S _ _ hm)
theorem frX6_isAt (x : XT) (S : ST) (p0 : Int32) (p1 : Int32) (p2 : Int32) (r : Int32) (S' : ST) (hm : gfX6_isAt x S p0 p1 p2 = some (r, S')) : Agr wX6_isAt S S' := fbX6_isAt_0 x S p0 p1 p2 r S' hm
def wX0_regardUnknown_20_55 : List (Nat × Nat) × List Nat × List Nat × List Nat := ([], [21], [], [])
set_option maxHeartbeats 4000000 in
set_option maxRecDepth 20000 in
theorem fbX0_regardUnknown_20_55_0 (x : XT)  (S : ST) (p2 : Int32) (p3 : Int32) (p4 : Int32) (r : Unit) (S' : ST) (hm : bfX0_regardUnknown_20_55_0 x  S p2 p3 p4 = some (r, S')) : Agr wX0_regardUnknown_20_55 S S' := by
    unfold bfX0_regardUnknown_20_55_0 at hm
    cases hm
    exact (Agr.i (Agr.i (Agr.i (Agr.i (Agr.i (Agr.i (Agr.i (Agr.i Agr.rf 21 0 p2 (by decide)) 21 1 p3 (by decide)) 21 2 p4 (by decide)) 21 3 0 (by decide)) 21 4 (-1) (by decide)) 21 5 (-1) (by decide)) 21 6 (S.2.1 68 0) (by decide)) 21 7 (S.2.1 68 2) (by decide))
theorem frX0_regardUnknown_20_55 (x : XT) (S : ST) (p2 : Int32) (p3 : Int32) (p4 : Int32) (r : Unit) (S' : ST) (hm : gfX0_regardUnknown_20_55 x S p2 p3 p4 = some (r, S')) : Agr wX0_regardUnknown_20_55 S S' := fbX0_regardUnknown_20_55_0 x S p2 p3 p4 r S' hm
def wX0_regard_20_55 : List (Nat × Nat) × List Nat × List Nat × List Nat := ([], [21], [], [])
set_option maxHeartbeats 4000000 in
set_option maxRecDepth 20000 in
theorem fbX0_regard_20_55_0 (x : XT)  (S : ST) (p2 : Int32) (p3 : Int32) (p4 : Int32) (r : Unit) (S' : ST) (hm : bfX0_regard_20_55_0 x  S p2 p3 p4 = some (r, S')) : Agr wX0_regard_20_55 S S' := by
    unfold bfX0_regard_20_55_0 at hm
    obtain ⟨o1, hm⟩ := oblk hm
    obtain ⟨o2, hm⟩ := oblk hm
    cases h3 : gfX0_regardUnknown_20_55 x S (S.2.1 58 p3.toNatClampNeg) (S.2.1 59 p3.toNatClampNeg) p4 with
    | none => rw [h3] at hm; cases hm
    | some q4 =>
      obtain ⟨r5, S6⟩ := q4
      rw [h3] at hm
      dsimp only at hm
      have a_S6 : Agr wX0_regard_20_55 S S6 := Agr.tr Agr.rf (Agr.sub (frX0_regardUnknown_20_55 x S (S.2.1 58 p3.toNatClampNeg) (S.2.1 59 p3.toNatClampNeg) p4 _ _ h3) (by decide))
      obtain ⟨o7, hm⟩ := oblk hm
      cases hm
      exact (Agr.i (Agr.i (Agr.i a_S6 21 3 (S6.2.1 63 p2.toNatClampNeg) (by decide)) 21 4 p3 (by decide)) 21 5 p2 (by decide))
theorem frX0_regard_20_55 (x : XT) (S : ST) (p2 : Int32) (p3 : Int32) (p4 : Int32) (r : Unit) (S' : ST) (hm : gfX0_regard_20_55 x S p2 p3 p4 = some (r, S')) : Agr wX0_regard_20_55 S S' := fbX0_regard_20_55_0 x S p2 p3 p4 r S' hm
def wX7_hasLaw_55 : List (Nat × Nat) × List Nat × List Nat × List Nat := ([], [], [], [])
set_option maxHeartbeats 4000000 in
set_option maxRecDepth 20000 in
theorem fbX7_hasLaw_55_17 (x : XT)  (S : ST) (t0 : Int32) (r : Int32) (S' : ST) (hm : bfX7_hasLaw_55_17 x  S t0 = some (r, S')) : Agr wX7_hasLaw_55 S S' := by
    unfold bfX7_hasLaw_55_17 at hm
    obtain ⟨o1, hm⟩ := oblk hm
    cases hm
    exact Agr.rf
set_option maxHeartbeats 4000000 in
set_option maxRecDepth 20000 in
theorem fbX7_hasLaw_55_16 (x : XT)  (S : ST)  (r : Int32) (S' : ST) (hm : bfX7_hasLaw_55_16 x  S  = some (r, S')) : Agr wX7_hasLaw_55 S S' := by
    unfold bfX7_hasLaw_55_16 at hm
    exact Agr.tr Agr.rf (fbX7_hasLaw_55_17 x  S 0 _ _ hm)
set_option maxHeartbeats 4000000 in
set_option maxRecDepth 20000 in
theorem fbX7_hasLaw_55_0 (x : XT)  (S : ST) (p1 : Int32) (r : Int32) (S' : ST) (hm : bfX7_hasLaw_55_0 x  S p1 = some (r, S')) : Agr wX7_hasLaw_55 S S' := by
    unfold bfX7_hasLaw_55_0 at hm
    by_cases c1 : p1 < 0
    · rw [if_pos c1] at hm
      exact Agr.tr Agr.rf (fbX7_hasLaw_55_16 x  S _ _ hm)
    · rw [if_neg c1] at hm
      by_cases c2 : (S.1 55 16) ≤ p1
      · rw [if_pos c2] at hm
        exact Agr.tr Agr.rf (fbX7_hasLaw_55_16 x  S _ _ hm)
      · rw [if_neg c2] at hm
        exact Agr.tr Agr.rf (fbX7_hasLaw_55_17 x  S 1 _ _ hm)
theorem frX7_hasLaw_55 (x : XT) (S : ST) (p1 : Int32) (r : Int32) (S' : ST) (hm : gfX7_hasLaw_55 x S p1 = some (r, S')) : Agr wX7_hasLaw_55 S S' := fbX7_hasLaw_55_0 x S p1 r S' hm
def wX7_inForce_55 : List (Nat × Nat) × List Nat × List Nat × List Nat := ([], [], [], [])
set_option maxHeartbeats 4000000 in
set_option maxRecDepth 20000 in
theorem fbX7_inForce_55_24 (x : XT)  (S : ST) (t0 : Option Nat) (r : Option Nat) (S' : ST) (hm : bfX7_inForce_55_24 x  S t0 = some (r, S')) : Agr wX7_inForce_55 S S' := by
    unfold bfX7_inForce_55_24 at hm
    cases hm
    exact Agr.rf
set_option maxHeartbeats 4000000 in
set_option maxRecDepth 20000 in
theorem fbX7_inForce_55_0 (x : XT)  (S : ST)  (r : Option Nat) (S' : ST) (hm : bfX7_inForce_55_0 x  S  = some (r, S')) : Agr wX7_inForce_55 S S' := by
    unfold bfX7_inForce_55_0 at hm
    cases h1 : gfX7_hasLaw_55 x S (S.1 55 18) with
    | none => rw [h1] at hm; cases hm
    | some q2 =>
      obtain ⟨r3, S4⟩ := q2
      rw [h1] at hm
      dsimp only at hm
      have a_S4 : Agr wX7_inForce_55 S S4 := Agr.tr Agr.rf (Agr.sub (frX7_hasLaw_55 x S (S.1 55 18) _ _ h1) (by decide))
      by_cases c5 : r3 = 0
      · rw [if_pos c5] at hm
        exact Agr.tr a_S4 (fbX7_inForce_55_24 x  S4 none _ _ hm)
      · rw [if_neg c5] at hm
        obtain ⟨o6, hm⟩ := oblk hm
        exact Agr.tr a_S4 (fbX7_inForce_55_24 x  S4 (S4.2.2.2 69 ((S4.1 55 18).toNatClampNeg)) _ _ hm)
theorem frX7_inForce_55 (x : XT) (S : ST)  (r : Option Nat) (S' : ST) (hm : gfX7_inForce_55 x S  = some (r, S')) : Agr wX7_inForce_55 S S' := fbX7_inForce_55_0 x S  r S' hm
end FRA
