section FRA
def wX4_times_24 : List (Nat × Nat) × List Nat × List Nat × List Nat := ([(24, 1), (24, 6)], [27], [], [])
set_option maxHeartbeats 4000000 in
set_option maxRecDepth 20000 in
theorem fbX4_times_24_47 (x : XT)  (S : ST)  (r : Int32) (S' : ST) (hm : bfX4_times_24_47 x  S  = some (r, S')) : Agr wX4_times_24 S S' := by
    unfold bfX4_times_24_47 at hm
    cases h1 : gfX4_faulty_24 x S with
    | none => rw [h1] at hm; cases hm
    | some q2 =>
      obtain ⟨r3, S4⟩ := q2
      rw [h1] at hm
      dsimp only at hm
      have a_S4 : Agr wX4_times_24 S S4 := Agr.tr Agr.rf (Agr.sub (frX4_faulty_24 x S _ _ h1) (by decide))
      obtain ⟨o5, hm⟩ := oblk hm
      cases hm
      exact a_S4
set_option maxHeartbeats 4000000 in
set_option maxRecDepth 20000 in
theorem fbX4_times_24_0 (x : XT)  (S : ST) (p1 : Int32) (r : Int32) (S' : ST) (hm : bfX4_times_24_0 x  S p1 = some (r, S')) : Agr wX4_times_24 S S' := by
    unfold bfX4_times_24_0 at hm
    cases h1 : gfX4_here_24 x ((u2 S.1 24 6 ((S.1 24 6) + 1)), S.2.1, S.2.2.1, S.2.2.2) with
    | none => rw [h1] at hm; cases hm
    | some q2 =>
      obtain ⟨r3, S4⟩ := q2
      rw [h1] at hm
      dsimp only at hm
      have a_S4 : Agr wX4_times_24 S S4 := Agr.tr (Agr.f Agr.rf 24 6 ((S.1 24 6) + 1) (by decide)) (Agr.sub (frX4_here_24 x ((u2 S.1 24 6 ((S.1 24 6) + 1)), S.2.1, S.2.2.1, S.2.2.2) _ _ h1) (by decide))
      by_cases c5 : ¬ r3 = 256
      · rw [if_pos c5] at hm
        exact Agr.tr a_S4 (fbX4_times_24_47 x  S4 _ _ hm)
      · rw [if_neg c5] at hm
        obtain ⟨o6, hm⟩ := oblk hm
        by_cases c7 : (S4.2.1 31 ((S4.1 24 6).toNatClampNeg)) < 1
        · rw [if_pos c7] at hm
          exact Agr.tr a_S4 (fbX4_times_24_47 x  S4 _ _ hm)
        · rw [if_neg c7] at hm
          obtain ⟨o8, hm⟩ := oblk hm
          by_cases c9 : (S4.2.1 31 ((S4.1 24 6).toNatClampNeg)) ≤ 20
          · rw [if_pos c9] at hm
            obtain ⟨o10, hm⟩ := oblk hm
            obtain ⟨o11, hm⟩ := oblk hm
            cases hm
            exact (Agr.i (Agr.f a_S4 24 6 ((S4.1 24 6) + 1) (by decide)) 27 p1.toNatClampNeg (S4.2.1 31 ((S4.1 24 6).toNatClampNeg)) (by decide))
          · rw [if_neg c9] at hm
            exact Agr.tr a_S4 (fbX4_times_24_47 x  S4 _ _ hm)
theorem frX4_times_24 (x : XT) (S : ST) (p1 : Int32) (r : Int32) (S' : ST) (hm : gfX4_times_24 x S p1 = some (r, S')) : Agr wX4_times_24 S S' := fbX4_times_24_0 x S p1 r S' hm
def wX4_clause_24 : List (Nat × Nat) × List Nat × List Nat × List Nat := ([(24, 1), (24, 6), (24, 7), (25, 0), (25, 1)], [26, 27, 28, 29], [], [])
set_option maxHeartbeats 4000000 in
set_option maxRecDepth 20000 in
theorem fbX4_clause_24_57 (x : XT)  (S : ST)  (r : Int32) (S' : ST) (hm : bfX4_clause_24_57 x  S  = some (r, S')) : Agr wX4_clause_24 S S' := by
    unfold bfX4_clause_24_57 at hm
    cases h1 : gfX4_faulty_24 x S with
    | none => rw [h1] at hm; cases hm
    | some q2 =>
      obtain ⟨r3, S4⟩ := q2
      rw [h1] at hm
      dsimp only at hm
      have a_S4 : Agr wX4_clause_24 S S4 := Agr.tr Agr.rf (Agr.sub (frX4_faulty_24 x S _ _ h1) (by decide))
      obtain ⟨o5, hm⟩ := oblk hm
      cases hm
      exact a_S4
set_option maxHeartbeats 4000000 in
set_option maxRecDepth 20000 in
theorem fbX4_clause_24_286 (x : XT)  (S : ST) (v1 : Int32) (r : Int32) (S' : ST) (hm : bfX4_clause_24_286 x  S v1 = some (r, S')) : Agr wX4_clause_24 S S' := by
    unfold bfX4_clause_24_286 at hm
    obtain ⟨o1, hm⟩ := oblk hm
    cases hm
    exact (Agr.i (Agr.f Agr.rf 25 0 ((S.1 25 0) + 1) (by decide)) 28 (((4 * v1) + 3).toNatClampNeg) (S.1 25 1) (by decide))
set_option maxHeartbeats 4000000 in
set_option maxRecDepth 20000 in
theorem fbX4_clause_24_253 (x : XT)  (S : ST) (v1 : Int32) (r : Int32) (S' : ST) (hm : bfX4_clause_24_253 x  S v1 = some (r, S')) : Agr wX4_clause_24 S S' := by
    unfold bfX4_clause_24_253 at hm
    cases h1 : gfX4_here_24 x S with
    | none => rw [h1] at hm; cases hm
    | some q2 =>
      obtain ⟨r3, S4⟩ := q2
      rw [h1] at hm
      dsimp only at hm
      have a_S4 : Agr wX4_clause_24 S S4 := Agr.tr Agr.rf (Agr.sub (frX4_here_24 x S _ _ h1) (by decide))
      by_cases c5 : ¬ r3 = 267
      · rw [if_pos c5] at hm
        exact Agr.tr a_S4 (fbX4_clause_24_286 x  S4 v1 _ _ hm)
      · rw [if_neg c5] at hm
        cases h6 : gfX4_test_24 x ((u2 S4.1 24 6 ((S4.1 24 6) + 1)), S4.2.1, S4.2.2.1, S4.2.2.2) 0 271 with
        | none => rw [h6] at hm; cases hm
        | some q7 =>
          obtain ⟨r8, S9⟩ := q7
          rw [h6] at hm
          dsimp only at hm
          have a_S9 : Agr wX4_clause_24 S S9 := Agr.tr (Agr.f a_S4 24 6 ((S4.1 24 6) + 1) (by decide)) (Agr.sub (frX4_test_24 x ((u2 S4.1 24 6 ((S4.1 24 6) + 1)), S4.2.1, S4.2.2.1, S4.2.2.2) 0 271 _ _ h6) (by decide))
          by_cases c10 : ¬ r8 = 0
          · rw [if_pos c10] at hm
            exact Agr.tr a_S9 (fbX4_clause_24_286 x  S9 v1 _ _ hm)
          · rw [if_neg c10] at hm
            cases hm
            exact a_S9
set_option maxHeartbeats 4000000 in
set_option maxRecDepth 20000 in
theorem fbX4_clause_24_206 (x : XT)  (S : ST) (v1 : Int32) (r : Int32) (S' : ST) (hm : bfX4_clause_24_206 x  S v1 = some (r, S')) : Agr wX4_clause_24 S S' := by
    unfold bfX4_clause_24_206 at hm
    obtain ⟨o1, hm⟩ := oblk hm
    by_cases c2 : (S.1 24 8) = 0
    · rw [if_pos c2] at hm
      exact Agr.tr (Agr.i Agr.rf 28 (((4 * v1) + 2).toNatClampNeg) (S.1 25 1) (by decide)) (fbX4_clause_24_253 x  (S.1, (u2 S.2.1 28 (((4 * v1) + 2).toNatClampNeg) (S.1 25 1)), S.2.2.1, S.2.2.2) v1 _ _ hm)
    · rw [if_neg c2] at hm
      cases h3 : gfX4_here_24 x (S.1, (u2 S.2.1 28 (((4 * v1) + 2).toNatClampNeg) (S.1 25 1)), S.2.2.1, S.2.2.2) with
      | none => rw [h3] at hm; cases hm
      | some q4 =>
        obtain ⟨r5, S6⟩ := q4
        rw [h3] at hm
        dsimp only at hm
        have a_S6 : Agr wX4_clause_24 S S6 := Agr.tr (Agr.i Agr.rf 28 (((4 * v1) + 2).toNatClampNeg) (S.1 25 1) (by decide)) (Agr.sub (frX4_here_24 x (S.1, (u2 S.2.1 28 (((4 * v1) + 2).toNatClampNeg) (S.1 25 1)), S.2.2.1, S.2.2.2) _ _ h3) (by decide))
        by_cases c7 : ¬ r5 = 270
        · rw [if_pos c7] at hm
          exact Agr.tr a_S6 (fbX4_clause_24_253 x  S6 v1 _ _ hm)
        · rw [if_neg c7] at hm
          cases h8 : gfX4_times_24 x S6 v1 with
          | none => rw [h8] at hm; cases hm
          | some q9 =>
            obtain ⟨r10, S11⟩ := q9
            rw [h8] at hm
            dsimp only at hm
            have a_S11 : Agr wX4_clause_24 S S11 := Agr.tr a_S6 (Agr.sub (frX4_times_24 x S6 v1 _ _ h8) (by decide))
            by_cases c12 : ¬ r10 = 0
            · rw [if_pos c12] at hm
              exact Agr.tr a_S11 (fbX4_clause_24_253 x  S11 v1 _ _ hm)
            · rw [if_neg c12] at hm
              cases hm
              exact a_S11
set_option maxHeartbeats 4000000 in
set_option maxRecDepth 20000 in
theorem fbX4_clause_24_204 (x : XT)  (S : ST)  (r : Int32) (S' : ST) (hm : bfX4_clause_24_204 x  S  = some (r, S')) : Agr wX4_clause_24 S S' := by
    unfold bfX4_clause_24_204 at hm
    cases hm
    exact Agr.rf
set_option maxHeartbeats 4000000 in
set_option maxRecDepth 20000 in
theorem fbX4_clause_24_179 (x : XT)  (S : ST) (v1 : Int32) (v2 : Int32) (r : Int32) (S' : ST) (hm : bfX4_clause_24_179 x  S v1 v2 = some (r, S')) : Agr wX4_clause_24 S S' := by
    unfold bfX4_clause_24_179 at hm
    by_cases c1 : ¬ v2 = 265
    · rw [if_pos c1] at hm
      exact Agr.tr Agr.rf (fbX4_clause_24_206 x  S v1 _ _ hm)
    · rw [if_neg c1] at hm
      cases h2 : gfX4_take_24 x S 269 with
      | none => rw [h2] at hm; cases hm
      | some q3 =>
        obtain ⟨r4, S5⟩ := q3
        rw [h2] at hm
        dsimp only at hm
        have a_S5 : Agr wX4_clause_24 S S5 := Agr.tr Agr.rf (Agr.sub (frX4_take_24 x S 269 _ _ h2) (by decide))
        by_cases c6 : r4 = 0
        · rw [if_pos c6] at hm
          exact Agr.tr a_S5 (fbX4_clause_24_204 x  S5 _ _ hm)
        · rw [if_neg c6] at hm
          cases h7 : gfX4_sum_24 x S5 0 with
          | none => rw [h7] at hm; cases hm
          | some q8 =>
            obtain ⟨r9, S10⟩ := q8
            rw [h7] at hm
            dsimp only at hm
            have a_S10 : Agr wX4_clause_24 S S10 := Agr.tr a_S5 (Agr.sub (frX4_sum_24 x S5 0 _ _ h7) (by decide))
            by_cases c11 : ¬ r9 = 0
            · rw [if_pos c11] at hm
              exact Agr.tr a_S10 (fbX4_clause_24_206 x  S10 v1 _ _ hm)
            · rw [if_neg c11] at hm
              exact Agr.tr a_S10 (fbX4_clause_24_204 x  S10 _ _ hm)
set_option maxHeartbeats 4000000 in
set_option maxRecDepth 20000 in
theorem fbX4_clause_24_134 (x : XT)  (S : ST) (v1 : Int32) (v2 : Int32) (r : Int32) (S' : ST) (hm : bfX4_clause_24_134 x  S v1 v2 = some (r, S')) : Agr wX4_clause_24 S S' := by
    unfold bfX4_clause_24_134 at hm
    obtain ⟨o1, hm⟩ := oblk hm
    by_cases c2 : ¬ v2 = 263
    · rw [if_pos c2] at hm
      exact Agr.tr (Agr.i Agr.rf 28 (((4 * v1) + 1).toNatClampNeg) (S.1 25 1) (by decide)) (fbX4_clause_24_179 x  (S.1, (u2 S.2.1 28 (((4 * v1) + 1).toNatClampNeg) (S.1 25 1)), S.2.2.1, S.2.2.2) v1 v2 _ _ hm)
    · rw [if_neg c2] at hm
      cases h3 : gfX4_take_24 x (S.1, (u2 S.2.1 28 (((4 * v1) + 1).toNatClampNeg) (S.1 25 1)), S.2.2.1, S.2.2.2) 268 with
      | none => rw [h3] at hm; cases hm
      | some q4 =>
        obtain ⟨r5, S6⟩ := q4
        rw [h3] at hm
        dsimp only at hm
        have a_S6 : Agr wX4_clause_24 S S6 := Agr.tr (Agr.i Agr.rf 28 (((4 * v1) + 1).toNatClampNeg) (S.1 25 1) (by decide)) (Agr.sub (frX4_take_24 x (S.1, (u2 S.2.1 28 (((4 * v1) + 1).toNatClampNeg) (S.1 25 1)), S.2.2.1, S.2.2.2) 268 _ _ h3) (by decide))
        by_cases c7 : r5 = 0
        · rw [if_pos c7] at hm
          exact Agr.tr a_S6 (fbX4_clause_24_204 x  S6 _ _ hm)
        · rw [if_neg c7] at hm
          cases h8 : gfX4_sum_24 x S6 0 with
          | none => rw [h8] at hm; cases hm
          | some q9 =>
            obtain ⟨r10, S11⟩ := q9
            rw [h8] at hm
            dsimp only at hm
            have a_S11 : Agr wX4_clause_24 S S11 := Agr.tr a_S6 (Agr.sub (frX4_sum_24 x S6 0 _ _ h8) (by decide))
            by_cases c12 : r10 = 0
            · rw [if_pos c12] at hm
              exact Agr.tr a_S11 (fbX4_clause_24_204 x  S11 _ _ hm)
            · rw [if_neg c12] at hm
              exact Agr.tr a_S11 (fbX4_clause_24_179 x  S11 v1 v2 _ _ hm)
set_option maxHeartbeats 4000000 in
set_option maxRecDepth 20000 in
theorem fbX4_clause_24_62 (x : XT)  (S : ST) (v1 : Int32) (v2 : Int32) (r : Int32) (S' : ST) (hm : bfX4_clause_24_62 x  S v1 v2 = some (r, S')) : Agr wX4_clause_24 S S' := by
    unfold bfX4_clause_24_62 at hm
    obtain ⟨o1, hm⟩ := oblk hm
    obtain ⟨o2, hm⟩ := oblk hm
    obtain ⟨o3, hm⟩ := oblk hm
    by_cases c4 : v2 = 262
    · rw [if_pos c4] at hm
      exact Agr.tr (Agr.i (Agr.i (Agr.i (Agr.f Agr.rf 24 6 ((S.1 24 6) + 1) (by decide)) 26 v1.toNatClampNeg v2 (by decide)) 27 v1.toNatClampNeg 1 (by decide)) 28 ((4 * v1).toNatClampNeg) (S.1 25 1) (by decide)) (fbX4_clause_24_134 x  ((u2 S.1 24 6 ((S.1 24 6) + 1)), (u2 (u2 (u2 S.2.1 26 v1.toNatClampNeg v2) 27 v1.toNatClampNeg 1) 28 ((4 * v1).toNatClampNeg) (S.1 25 1)), S.2.2.1, S.2.2.2) v1 v2 _ _ hm)
    · rw [if_neg c4] at hm
      by_cases c5 : v2 = 266
      · rw [if_pos c5] at hm
        exact Agr.tr (Agr.i (Agr.i (Agr.i (Agr.f Agr.rf 24 6 ((S.1 24 6) + 1) (by decide)) 26 v1.toNatClampNeg v2 (by decide)) 27 v1.toNatClampNeg 1 (by decide)) 28 ((4 * v1).toNatClampNeg) (S.1 25 1) (by decide)) (fbX4_clause_24_134 x  ((u2 S.1 24 6 ((S.1 24 6) + 1)), (u2 (u2 (u2 S.2.1 26 v1.toNatClampNeg v2) 27 v1.toNatClampNeg 1) 28 ((4 * v1).toNatClampNeg) (S.1 25 1)), S.2.2.1, S.2.2.2) v1 v2 _ _ hm)
      · rw [if_neg c5] at hm
        cases h6 : gfX4_sum_24 x ((u2 S.1 24 6 ((S.1 24 6) + 1)), (u2 (u2 (u2 S.2.1 26 v1.toNatClampNeg v2) 27 v1.toNatClampNeg 1) 28 ((4 * v1).toNatClampNeg) (S.1 25 1)), S.2.2.1, S.2.2.2) 0 with
        | none => rw [h6] at hm; cases hm
        | some q7 =>
          obtain ⟨r8, S9⟩ := q7
          rw [h6] at hm
          dsimp only at hm
          have a_S9 : Agr wX4_clause_24 S S9 := Agr.tr (Agr.i (Agr.i (Agr.i (Agr.f Agr.rf 24 6 ((S.1 24 6) + 1) (by decide)) 26 v1.toNatClampNeg v2 (by decide)) 27 v1.toNatClampNeg 1 (by decide)) 28 ((4 * v1).toNatClampNeg) (S.1 25 1) (by decide)) (Agr.sub (frX4_sum_24 x ((u2 S.1 24 6 ((S.1 24 6) + 1)), (u2 (u2 (u2 S.2.1 26 v1.toNatClampNeg v2) 27 v1.toNatClampNeg 1) 28 ((4 * v1).toNatClampNeg) (S.1 25 1)), S.2.2.1, S.2.2.2) 0 _ _ h6) (by decide))
          by_cases c10 : ¬ r8 = 0
          · rw [if_pos c10] at hm
            exact Agr.tr a_S9 (fbX4_clause_24_134 x  S9 v1 v2 _ _ hm)
          · rw [if_neg c10] at hm
            cases hm
            exact a_S9
set_option maxHeartbeats 4000000 in
set_option maxRecDepth 20000 in
theorem fbX4_clause_24_0 (x : XT)  (S : ST)  (r : Int32) (S' : ST) (hm : bfX4_clause_24_0 x  S  = some (r, S')) : Agr wX4_clause_24 S S' := by
    unfold bfX4_clause_24_0 at hm
    cases h1 : gfX4_here_24 x S with
    | none => rw [h1] at hm; cases hm
    | some q2 =>
      obtain ⟨r3, S4⟩ := q2
      rw [h1] at hm
      dsimp only at hm
      have a_S4 : Agr wX4_clause_24 S S4 := Agr.tr Agr.rf (Agr.sub (frX4_here_24 x S _ _ h1) (by decide))
      by_cases c5 : 12 ≤ (S.1 25 0)
      · rw [if_pos c5] at hm
        exact Agr.tr a_S4 (fbX4_clause_24_57 x  S4 _ _ hm)
      · rw [if_neg c5] at hm
        by_cases c6 : (S4.1 24 8) = 0
        · rw [if_pos c6] at hm
          by_cases c7 : r3 < 260
          · rw [if_pos c7] at hm
            exact Agr.tr a_S4 (fbX4_clause_24_57 x  S4 _ _ hm)
          · rw [if_neg c7] at hm
            by_cases c8 : r3 ≤ 262
            · rw [if_pos c8] at hm
              exact Agr.tr a_S4 (fbX4_clause_24_62 x  S4 (S.1 25 0) r3 _ _ hm)
            · rw [if_neg c8] at hm
              exact Agr.tr a_S4 (fbX4_clause_24_57 x  S4 _ _ hm)
        · rw [if_neg c6] at hm
          by_cases c9 : r3 < 263
          · rw [if_pos c9] at hm
            exact Agr.tr a_S4 (fbX4_clause_24_57 x  S4 _ _ hm)
          · rw [if_neg c9] at hm
            by_cases c10 : r3 ≤ 266
            · rw [if_pos c10] at hm
              exact Agr.tr a_S4 (fbX4_clause_24_62 x  S4 (S.1 25 0) r3 _ _ hm)
            · rw [if_neg c10] at hm
              exact Agr.tr a_S4 (fbX4_clause_24_57 x  S4 _ _ hm)
theorem frX4_clause_24 (x : XT) (S : ST)  (r : Int32) (S' : ST) (hm : gfX4_clause_24 x S  = some (r, S')) : Agr wX4_clause_24 S S' := fbX4_clause_24_0 x S  r S' hm
def wX4_sortOf : List (Nat × Nat) × List Nat × List Nat × List Nat := ([], [], [], [])
set_option maxHeartbeats 4000000 in
set_option maxRecDepth 20000 in
theorem fbX4_sortOf_33 (x : XT)  (S : ST) (t0 : Int32) (r : Int32) (S' : ST) (hm : bfX4_sortOf_33 x  S t0 = some (r, S')) : Agr wX4_sortOf S S' := by
    unfold bfX4_sortOf_33 at hm
    cases hm
    exact Agr.rf
set_option maxHeartbeats 4000000 in
set_option maxRecDepth 20000 in
theorem fbX4_sortOf_32 (x : XT)  (S : ST)  (r : Int32) (S' : ST) (hm : bfX4_sortOf_32 x  S  = some (r, S')) : Agr wX4_sortOf S S' := by
    unfold bfX4_sortOf_32 at hm
    exact Agr.tr Agr.rf (fbX4_sortOf_33 x  S 3 _ _ hm)
set_option maxHeartbeats 4000000 in
set_option maxRecDepth 20000 in
theorem fbX4_sortOf_16 (x : XT)  (S : ST) (v0 : Int32) (r : Int32) (S' : ST) (hm : bfX4_sortOf_16 x  S v0 = some (r, S')) : Agr wX4_sortOf S S' := by
    unfold bfX4_sortOf_16 at hm
    by_cases c1 : v0 < 48
    · rw [if_pos c1] at hm
      exact Agr.tr Agr.rf (fbX4_sortOf_32 x  S _ _ hm)
    · rw [if_neg c1] at hm
      by_cases c2 : 57 < v0
      · rw [if_pos c2] at hm
        exact Agr.tr Agr.rf (fbX4_sortOf_32 x  S _ _ hm)
      · rw [if_neg c2] at hm
        exact Agr.tr Agr.rf (fbX4_sortOf_33 x  S 2 _ _ hm)
set_option maxHeartbeats 4000000 in
set_option maxRecDepth 20000 in
theorem fbX4_sortOf_0 (x : XT)  (S : ST) (p0 : Int32) (r : Int32) (S' : ST) (hm : bfX4_sortOf_0 x  S p0 = some (r, S')) : Agr wX4_sortOf S S' := by
    unfold bfX4_sortOf_0 at hm
    by_cases c1 : p0 < 97
    · rw [if_pos c1] at hm
      exact Agr.tr Agr.rf (fbX4_sortOf_16 x  S p0 _ _ hm)
    · rw [if_neg c1] at hm
      by_cases c2 : 122 < p0
      · rw [if_pos c2] at hm
        exact Agr.tr Agr.rf (fbX4_sortOf_16 x  S p0 _ _ hm)
      · rw [if_neg c2] at hm
        exact Agr.tr Agr.rf (fbX4_sortOf_33 x  S 1 _ _ hm)
theorem frX4_sortOf (x : XT) (S : ST) (p0 : Int32) (r : Int32) (S' : ST) (hm : gfX4_sortOf x S p0 = some (r, S')) : Agr wX4_sortOf S S' := fbX4_sortOf_0 x S p0 r S' hm
def wX4_behindToken_24_18 : List (Nat × Nat) × List Nat × List Nat × List Nat := ([], [], [], [])
set_option maxHeartbeats 4000000 in
set_option maxRecDepth 20000 in
theorem fbX4_behindToken_24_18_49 (x : XT)  (S : ST) (v4 : Int32) (r : Int32) (S' : ST) (hm : bfX4_behindToken_24_18_49 x  S v4 = some (r, S')) : Agr wX4_behindToken_24_18 S S' := by
    unfold bfX4_behindToken_24_18_49 at hm
    cases hm
    exact Agr.rf
set_option maxHeartbeats 4000000 in
set_option maxRecDepth 20000 in
theorem fbX4_behindToken_24_18_15 (x : XT) (k15 : ST → Int32 → Int32 → Option (Int32 × ST)) (ak15 : ∀ (S : ST) (v3 : Int32) (v4 : Int32) (r : Int32) (S' : ST), k15 S v3 v4 = some (r, S') → Agr wX4_behindToken_24_18 S S') (S : ST) (v3 : Int32) (v4 : Int32) (r : Int32) (S' : ST) (hm : bfX4_behindToken_24_18_15 x k15 S v3 v4 = some (r, S')) : Agr wX4_behindToken_24_18 S S' := by
    unfold bfX4_behindToken_24_18_15 at hm
    by_cases c1 : v3 = 3
    · rw [if_pos c1] at hm
      exact Agr.tr Agr.rf (fbX4_behindToken_24_18_49 x  S v4 _ _ hm)
    · rw [if_neg c1] at hm
      by_cases c2 : (S.1 18 1) ≤ v4
      · rw [if_pos c2] at hm
        exact Agr.tr Agr.rf (fbX4_behindToken_24_18_49 x  S v4 _ _ hm)
      · rw [if_neg c2] at hm
        obtain ⟨o3, hm⟩ := oblk hm
        cases h4 : gfX4_sortOf x S (S.2.1 19 v4.toNatClampNeg) with
        | none => rw [h4] at hm; cases hm
        | some q5 =>
          obtain ⟨r6, S7⟩ := q5
          rw [h4] at hm
          dsimp only at hm
          have a_S7 : Agr wX4_behindToken_24_18 S S7 := Agr.tr Agr.rf (Agr.sub (frX4_sortOf x S (S.2.1 19 v4.toNatClampNeg) _ _ h4) (by decide))
          by_cases c8 : ¬ r6 = v3
          · rw [if_pos c8] at hm
            exact Agr.tr a_S7 (fbX4_behindToken_24_18_49 x  S7 v4 _ _ hm)
          · rw [if_neg c8] at hm
            exact Agr.tr a_S7 (ak15 S7 v3 (v4 + 1) _ _ hm)
theorem flX4_behindToken_24_18_15 (x : XT)  : ∀ (n : Nat) (S : ST) (v3 : Int32) (v4 : Int32) (r : Int32) (S' : ST), lfX4_behindToken_24_18_15 x  n S v3 v4 = some (r, S') → Agr wX4_behindToken_24_18 S S'
  | 0, _, _, _, _, _, hm => by cases hm
  | n + 1, S, v3, v4, r, S', hm => fbX4_behindToken_24_18_15 x (lfX4_behindToken_24_18_15 x  n) (flX4_behindToken_24_18_15 x  n) S v3 v4 r S' hm
set_option maxHeartbeats 4000000 in
set_option maxRecDepth 20000 in
theorem fbX4_behindToken_24_18_0 (x : XT)  (S : ST) (p2 : Int32) (r : Int32) (S' : ST) (hm : bfX4_behindToken_24_18_0 x  S p2 = some (r, S')) : Agr wX4_behindToken_24_18 S S' := by
    unfold bfX4_behindToken_24_18_0 at hm
    obtain ⟨o1, hm⟩ := oblk hm
    cases h2 : gfX4_sortOf x S (S.2.1 19 p2.toNatClampNeg) with
    | none => rw [h2] at hm; cases hm
    | some q3 =>
      obtain ⟨r4, S5⟩ := q3
      rw [h2] at hm
      dsimp only at hm
      have a_S5 : Agr wX4_behindToken_24_18 S S5 := Agr.tr Agr.rf (Agr.sub (frX4_sortOf x S (S.2.1 19 p2.toNatClampNeg) _ _ h2) (by decide))
      exact Agr.tr a_S5 (flX4_behindToken_24_18_15 x  20000 S5 r4 (p2 + 1) _ _ hm)
theorem frX4_behindToken_24_18 (x : XT) (S : ST) (p2 : Int32) (r : Int32) (S' : ST) (hm : gfX4_behindToken_24_18 x S p2 = some (r, S')) : Agr wX4_behindToken_24_18 S S' := fbX4_behindToken_24_18_0 x S p2 r S' hm
def wX4_wordOf_18 : List (Nat × Nat) × List Nat × List Nat × List Nat := ([], [], [], [])
set_option maxHeartbeats 4000000 in
set_option maxRecDepth 20000 in
theorem fbX4_wordOf_18_97 (x : XT) (k13 : ST → Int32 → Int32 → Int32 → Int32 → Int32 → Int32 → Option (Int32 × ST)) (ak13 : ∀ (S : ST) (v1 : Int32) (v2 : Int32) (v3 : Int32) (v4 : Int32) (v5 : Int32) (v6 : Int32) (r : Int32) (S' : ST), k13 S v1 v2 v3 v4 v5 v6 = some (r, S') → Agr wX4_wordOf_18 S S') (S : ST) (v1 : Int32) (v2 : Int32) (v3 : Int32) (v4 : Int32) (v5 : Int32) (v6 : Int32) (r : Int32) (S' : ST) (hm : bfX4_wordOf_18_97 x k13 S v1 v2 v3 v4 v5 v6 = some (r, S')) : Agr wX4_wordOf_18 S S' := by
    unfold bfX4_wordOf_18_97 at hm
    exact Agr.tr Agr.rf (ak13 S v1 v2 v3 v4 v5 (v6 + 1) _ _ hm)
set_option maxHeartbeats 4000000 in
set_option maxRecDepth 20000 in
theorem fbX4_wordOf_18_92 (x : XT) (k13 : ST → Int32 → Int32 → Int32 → Int32 → Int32 → Int32 → Option (Int32 × ST)) (ak13 : ∀ (S : ST) (v1 : Int32) (v2 : Int32) (v3 : Int32) (v4 : Int32) (v5 : Int32) (v6 : Int32) (r : Int32) (S' : ST), k13 S v1 v2 v3 v4 v5 v6 = some (r, S') → Agr wX4_wordOf_18 S S') (S : ST) (v1 : Int32) (v2 : Int32) (v3 : Int32) (v4 : Int32) (v6 : Int32) (t0 : Int32) (r : Int32) (S' : ST) (hm : bfX4_wordOf_18_92 x k13 S v1 v2 v3 v4 v6 t0 = some (r, S')) : Agr wX4_wordOf_18 S S' := by
    unfold bfX4_wordOf_18_92 at hm
    exact Agr.tr Agr.rf (fbX4_wordOf_18_97 x k13 ak13 S v1 v2 v3 (v4 + 1) t0 v6 _ _ hm)
set_option maxHeartbeats 4000000 in
set_option maxRecDepth 20000 in
theorem fbX4_wordOf_18_91 (x : XT) (k13 : ST → Int32 → Int32 → Int32 → Int32 → Int32 → Int32 → Option (Int32 × ST)) (ak13 : ∀ (S : ST) (v1 : Int32) (v2 : Int32) (v3 : Int32) (v4 : Int32) (v5 : Int32) (v6 : Int32) (r : Int32) (S' : ST), k13 S v1 v2 v3 v4 v5 v6 = some (r, S') → Agr wX4_wordOf_18 S S') (S : ST) (v1 : Int32) (v2 : Int32) (v3 : Int32) (v4 : Int32) (v6 : Int32) (r : Int32) (S' : ST) (hm : bfX4_wordOf_18_91 x k13 S v1 v2 v3 v4 v6 = some (r, S')) : Agr wX4_wordOf_18 S S' := by
    unfold bfX4_wordOf_18_91 at hm
    exact Agr.tr Agr.rf (fbX4_wordOf_18_92 x k13 ak13 S v1 v2 v3 v4 v6 0 _ _ hm)
set_option maxHeartbeats 4000000 in
set_option maxRecDepth 20000 in
theorem fbX4_wordOf_18_52 (x : XT) (k13 : ST → Int32 → Int32 → Int32 → Int32 → Int32 → Int32 → Option (Int32 × ST)) (ak13 : ∀ (S : ST) (v1 : Int32) (v2 : Int32) (v3 : Int32) (v4 : Int32) (v5 : Int32) (v6 : Int32) (r : Int32) (S' : ST), k13 S v1 v2 v3 v4 v5 v6 = some (r, S') → Agr wX4_wordOf_18 S S') (S : ST) (v1 : Int32) (v2 : Int32) (v3 : Int32) (v6 : Int32) (r : Int32) (S' : ST) (hm : bfX4_wordOf_18_52 x k13 S v1 v2 v3 v6 = some (r, S')) : Agr wX4_wordOf_18 S S' := by
    unfold bfX4_wordOf_18_52 at hm
    exact Agr.tr Agr.rf (fbX4_wordOf_18_97 x k13 ak13 S v1 v2 (v3 + 1) v1 1 v6 _ _ hm)
set_option maxHeartbeats 4000000 in
set_option maxRecDepth 20000 in
theorem fbX4_wordOf_18_13 (x : XT) (k13 : ST → Int32 → Int32 → Int32 → Int32 → Int32 → Int32 → Option (Int32 × ST)) (ak13 : ∀ (S : ST) (v1 : Int32) (v2 : Int32) (v3 : Int32) (v4 : Int32) (v5 : Int32) (v6 : Int32) (r : Int32) (S' : ST), k13 S v1 v2 v3 v4 v5 v6 = some (r, S') → Agr wX4_wordOf_18 S S') (S : ST) (v1 : Int32) (v2 : Int32) (v3 : Int32) (v4 : Int32) (v5 : Int32) (v6 : Int32) (r : Int32) (S' : ST) (hm : bfX4_wordOf_18_13 x k13 S v1 v2 v3 v4 v5 v6 = some (r, S')) : Agr wX4_wordOf_18 S S' := by
    unfold bfX4_wordOf_18_13 at hm
    by_cases c1 : 122 ≤ v6
    · rw [if_pos c1] at hm
      cases hm
      exact Agr.rf
    · rw [if_neg c1] at hm
      obtain ⟨o2, hm⟩ := oblk hm
      by_cases c3 : ¬ (chA v6) = 32
      · rw [if_pos c3] at hm
        by_cases c4 : v5 = 0
        · rw [if_pos c4] at hm
          exact Agr.tr Agr.rf (fbX4_wordOf_18_91 x k13 ak13 S v1 v2 v3 v4 v6 _ _ hm)
        · rw [if_neg c4] at hm
          by_cases c5 : v2 ≤ v4
          · rw [if_pos c5] at hm
            exact Agr.tr Agr.rf (fbX4_wordOf_18_91 x k13 ak13 S v1 v2 v3 v4 v6 _ _ hm)
          · rw [if_neg c5] at hm
            obtain ⟨o6, hm⟩ := oblk hm
            by_cases c7 : ¬ (S.2.1 19 v4.toNatClampNeg) = (chA v6)
            · rw [if_pos c7] at hm
              exact Agr.tr Agr.rf (fbX4_wordOf_18_91 x k13 ak13 S v1 v2 v3 v4 v6 _ _ hm)
            · rw [if_neg c7] at hm
              exact Agr.tr Agr.rf (fbX4_wordOf_18_92 x k13 ak13 S v1 v2 v3 v4 v6 1 _ _ hm)
      · rw [if_neg c3] at hm
        by_cases c8 : v5 = 0
        · rw [if_pos c8] at hm
          exact Agr.tr Agr.rf (fbX4_wordOf_18_52 x k13 ak13 S v1 v2 v3 v6 _ _ hm)
        · rw [if_neg c8] at hm
          by_cases c9 : ¬ v4 = v2
          · rw [if_pos c9] at hm
            exact Agr.tr Agr.rf (fbX4_wordOf_18_52 x k13 ak13 S v1 v2 v3 v6 _ _ hm)
          · rw [if_neg c9] at hm
            cases hm
            exact Agr.rf
theorem flX4_wordOf_18_13 (x : XT)  : ∀ (n : Nat) (S : ST) (v1 : Int32) (v2 : Int32) (v3 : Int32) (v4 : Int32) (v5 : Int32) (v6 : Int32) (r : Int32) (S' : ST), lfX4_wordOf_18_13 x  n S v1 v2 v3 v4 v5 v6 = some (r, S') → Agr wX4_wordOf_18 S S'
  | 0, _, _, _, _, _, _, _, _, _, hm => by cases hm
  | n + 1, S, v1, v2, v3, v4, v5, v6, r, S', hm => fbX4_wordOf_18_13 x (lfX4_wordOf_18_13 x  n) (flX4_wordOf_18_13 x  n) S v1 v2 v3 v4 v5 v6 r S' hm
set_option maxHeartbeats 4000000 in
set_option maxRecDepth 20000 in
theorem fbX4_wordOf_18_0 (x : XT)  (S : ST) (p1 : Int32) (p2 : Int32) (r : Int32) (S' : ST) (hm : bfX4_wordOf_18_0 x  S p1 p2 = some (r, S')) : Agr wX4_wordOf_18 S S' := by
    unfold bfX4_wordOf_18_0 at hm
    exact Agr.tr Agr.rf (flX4_wordOf_18_13 x  20000 S p1 p2 260 p1 1 0 _ _ hm)
theorem frX4_wordOf_18 (x : XT) (S : ST) (p1 : Int32) (p2 : Int32) (r : Int32) (S' : ST) (hm : gfX4_wordOf_18 x S p1 p2 = some (r, S')) : Agr wX4_wordOf_18 S S' := fbX4_wordOf_18_0 x S p1 p2 r S' hm
def wX4_addToken_24_18 : List (Nat × Nat) × List Nat × List Nat × List Nat := ([(24, 5)], [30, 31, 32], [], [])
set_option maxHeartbeats 4000000 in
set_option maxRecDepth 20000 in
theorem fbX4_addToken_24_18_144 (x : XT)  (S : ST)  (r : Unit) (S' : ST) (hm : bfX4_addToken_24_18_144 x  S  = some (r, S')) : Agr wX4_addToken_24_18 S S' := by
    unfold bfX4_addToken_24_18_144 at hm
    cases hm
    exact (Agr.f Agr.rf 24 5 ((S.1 24 5) + 1) (by decide))
set_option maxHeartbeats 4000000 in
set_option maxRecDepth 20000 in
theorem fbX4_addToken_24_18_76 (x : XT) (k76 : ST → Int32 → Int32 → Option (Unit × ST)) (ak76 : ∀ (S : ST) (v3 : Int32) (v5 : Int32) (r : Unit) (S' : ST), k76 S v3 v5 = some (r, S') → Agr wX4_addToken_24_18 S S') (S : ST) (v3 : Int32) (v5 : Int32) (r : Unit) (S' : ST) (hm : bfX4_addToken_24_18_76 x k76 S v3 v5 = some (r, S')) : Agr wX4_addToken_24_18 S S' := by
    unfold bfX4_addToken_24_18_76 at hm
    by_cases c1 : v3 ≤ v5
    · rw [if_pos c1] at hm
      exact Agr.tr Agr.rf (fbX4_addToken_24_18_144 x  S _ _ hm)
    · rw [if_neg c1] at hm
      obtain ⟨o2, hm⟩ := oblk hm
      obtain ⟨o3, hm⟩ := oblk hm
      obtain ⟨o4, hm⟩ := oblk hm
      exact Agr.tr (Agr.i Agr.rf 31 ((S.1 24 5).toNatClampNeg) (if 1001 < (((10 * (S.2.1 31 ((S.1 24 5).toNatClampNeg))) + (S.2.1 19 v5.toNatClampNeg)) - 48) then 1001 else (((10 * (S.2.1 31 ((S.1 24 5).toNatClampNeg))) + (S.2.1 19 v5.toNatClampNeg)) - 48)) (by decide)) (ak76 (S.1, (u2 S.2.1 31 ((S.1 24 5).toNatClampNeg) (if 1001 < (((10 * (S.2.1 31 ((S.1 24 5).toNatClampNeg))) + (S.2.1 19 v5.toNatClampNeg)) - 48) then 1001 else (((10 * (S.2.1 31 ((S.1 24 5).toNatClampNeg))) + (S.2.1 19 v5.toNatClampNeg)) - 48))), S.2.2.1, S.2.2.2) v3 (v5 + 1) _ _ hm)
theorem flX4_addToken_24_18_76 (x : XT)  : ∀ (n : Nat) (S : ST) (v3 : Int32) (v5 : Int32) (r : Unit) (S' : ST), lfX4_addToken_24_18_76 x  n S v3 v5 = some (r, S') → Agr wX4_addToken_24_18 S S'
  | 0, _, _, _, _, _, hm => by cases hm
  | n + 1, S, v3, v5, r, S', hm => fbX4_addToken_24_18_76 x (lfX4_addToken_24_18_76 x  n) (flX4_addToken_24_18_76 x  n) S v3 v5 r S' hm
set_option maxHeartbeats 4000000 in
set_option maxRecDepth 20000 in
theorem fbX4_addToken_24_18_0 (x : XT)  (S : ST) (p2 : Int32) (p3 : Int32) (r : Unit) (S' : ST) (hm : bfX4_addToken_24_18_0 x  S p2 p3 = some (r, S')) : Agr wX4_addToken_24_18 S S' := by
    unfold bfX4_addToken_24_18_0 at hm
    obtain ⟨o1, hm⟩ := oblk hm
    cases h2 : gfX4_sortOf x S (S.2.1 19 p2.toNatClampNeg) with
    | none => rw [h2] at hm; cases hm
    | some q3 =>
      obtain ⟨r4, S5⟩ := q3
      rw [h2] at hm
      dsimp only at hm
      have a_S5 : Agr wX4_addToken_24_18 S S5 := Agr.tr Agr.rf (Agr.sub (frX4_sortOf x S (S.2.1 19 p2.toNatClampNeg) _ _ h2) (by decide))
      obtain ⟨o6, hm⟩ := oblk hm
      obtain ⟨o7, hm⟩ := oblk hm
      by_cases c8 : ¬ r4 = 1
      · rw [if_pos c8] at hm
        by_cases c9 : ¬ r4 = 2
        · rw [if_pos c9] at hm
          obtain ⟨o10, hm⟩ := oblk hm
          obtain ⟨o11, hm⟩ := oblk hm
          exact Agr.tr (Agr.i (Agr.i (Agr.i a_S5 32 ((S5.1 24 5).toNatClampNeg) p2 (by decide)) 31 ((S5.1 24 5).toNatClampNeg) 0 (by decide)) 30 ((S5.1 24 5).toNatClampNeg) (S5.2.1 19 p2.toNatClampNeg) (by decide)) (fbX4_addToken_24_18_144 x  (S5.1, (u2 (u2 (u2 S5.2.1 32 ((S5.1 24 5).toNatClampNeg) p2) 31 ((S5.1 24 5).toNatClampNeg) 0) 30 ((S5.1 24 5).toNatClampNeg) (S5.2.1 19 p2.toNatClampNeg)), S5.2.2.1, S5.2.2.2) _ _ hm)
        · rw [if_neg c9] at hm
          obtain ⟨o12, hm⟩ := oblk hm
          exact Agr.tr (Agr.i (Agr.i (Agr.i a_S5 32 ((S5.1 24 5).toNatClampNeg) p2 (by decide)) 31 ((S5.1 24 5).toNatClampNeg) 0 (by decide)) 30 ((S5.1 24 5).toNatClampNeg) 256 (by decide)) (flX4_addToken_24_18_76 x  20000 (S5.1, (u2 (u2 (u2 S5.2.1 32 ((S5.1 24 5).toNatClampNeg) p2) 31 ((S5.1 24 5).toNatClampNeg) 0) 30 ((S5.1 24 5).toNatClampNeg) 256), S5.2.2.1, S5.2.2.2) p3 p2 _ _ hm)
      · rw [if_neg c8] at hm
        cases h13 : gfX4_wordOf_18 x (S5.1, (u2 (u2 S5.2.1 32 ((S5.1 24 5).toNatClampNeg) p2) 31 ((S5.1 24 5).toNatClampNeg) 0), S5.2.2.1, S5.2.2.2) p2 p3 with
        | none => rw [h13] at hm; cases hm
        | some q14 =>
          obtain ⟨r15, S16⟩ := q14
          rw [h13] at hm
          dsimp only at hm
          have a_S16 : Agr wX4_addToken_24_18 S S16 := Agr.tr (Agr.i (Agr.i a_S5 32 ((S5.1 24 5).toNatClampNeg) p2 (by decide)) 31 ((S5.1 24 5).toNatClampNeg) 0 (by decide)) (Agr.sub (frX4_wordOf_18 x (S5.1, (u2 (u2 S5.2.1 32 ((S5.1 24 5).toNatClampNeg) p2) 31 ((S5.1 24 5).toNatClampNeg) 0), S5.2.2.1, S5.2.2.2) p2 p3 _ _ h13) (by decide))
          obtain ⟨o17, hm⟩ := oblk hm
          exact Agr.tr (Agr.i a_S16 30 ((S5.1 24 5).toNatClampNeg) r15 (by decide)) (fbX4_addToken_24_18_144 x  (S16.1, (u2 S16.2.1 30 ((S5.1 24 5).toNatClampNeg) r15), S16.2.2.1, S16.2.2.2) _ _ hm)
theorem frX4_addToken_24_18 (x : XT) (S : ST) (p2 : Int32) (p3 : Int32) (r : Unit) (S' : ST) (hm : gfX4_addToken_24_18 x S p2 p3 = some (r, S')) : Agr wX4_addToken_24_18 S S' := fbX4_addToken_24_18_0 x S p2 p3 r S' hm
def wX4_split_24_18 : List (Nat × Nat) × List Nat × List Nat × List Nat := ([(24, 5)], [30, 31, 32], [], [])
set_option maxHeartbeats 4000000 in
set_option maxRecDepth 20000 in
theorem fbX4_split_24_18_65 (x : XT)  (S : ST)  (r : Unit) (S' : ST) (hm : bfX4_split_24_18_65 x  S  = some (r, S')) : Agr wX4_split_24_18 S S' := by
    unfold bfX4_split_24_18_65 at hm
    obtain ⟨o1, hm⟩ := oblk hm
    obtain ⟨o2, hm⟩ := oblk hm
    cases hm
    exact (Agr.i (Agr.i (Agr.f Agr.rf 24 5 ((S.1 24 5) + 1) (by decide)) 30 ((S.1 24 5).toNatClampNeg) 257 (by decide)) 32 ((S.1 24 5).toNatClampNeg) (S.1 18 1) (by decide))
set_option maxHeartbeats 4000000 in
set_option maxRecDepth 20000 in
theorem fbX4_split_24_18_56 (x : XT) (k9 : ST → Int32 → Int32 → Option (Unit × ST)) (ak9 : ∀ (S : ST) (v2 : Int32) (v3 : Int32) (r : Unit) (S' : ST), k9 S v2 v3 = some (r, S') → Agr wX4_split_24_18 S S') (S : ST) (v3 : Int32) (v4 : Int32) (r : Unit) (S' : ST) (hm : bfX4_split_24_18_56 x k9 S v3 v4 = some (r, S')) : Agr wX4_split_24_18 S S' := by
    unfold bfX4_split_24_18_56 at hm
    exact Agr.tr Agr.rf (ak9 S v4 (v3 + 1) _ _ hm)
set_option maxHeartbeats 4000000 in
set_option maxRecDepth 20000 in
theorem fbX4_split_24_18_9 (x : XT) (k9 : ST → Int32 → Int32 → Option (Unit × ST)) (ak9 : ∀ (S : ST) (v2 : Int32) (v3 : Int32) (r : Unit) (S' : ST), k9 S v2 v3 = some (r, S') → Agr wX4_split_24_18 S S') (S : ST) (v2 : Int32) (v3 : Int32) (r : Unit) (S' : ST) (hm : bfX4_split_24_18_9 x k9 S v2 v3 = some (r, S')) : Agr wX4_split_24_18 S S' := by
    unfold bfX4_split_24_18_9 at hm
    by_cases c1 : 400 ≤ v3
    · rw [if_pos c1] at hm
      exact Agr.tr Agr.rf (fbX4_split_24_18_65 x  S _ _ hm)
    · rw [if_neg c1] at hm
      by_cases c2 : (S.1 18 1) ≤ v2
      · rw [if_pos c2] at hm
        exact Agr.tr Agr.rf (fbX4_split_24_18_65 x  S _ _ hm)
      · rw [if_neg c2] at hm
        obtain ⟨o3, hm⟩ := oblk hm
        by_cases c4 : (S.2.1 19 v2.toNatClampNeg) = 32
        · rw [if_pos c4] at hm
          exact Agr.tr Agr.rf (fbX4_split_24_18_56 x k9 ak9 S v3 (v2 + 1) _ _ hm)
        · rw [if_neg c4] at hm
          cases h5 : gfX4_behindToken_24_18 x S v2 with
          | none => rw [h5] at hm; cases hm
          | some q6 =>
            obtain ⟨r7, S8⟩ := q6
            rw [h5] at hm
            dsimp only at hm
            have a_S8 : Agr wX4_split_24_18 S S8 := Agr.tr Agr.rf (Agr.sub (frX4_behindToken_24_18 x S v2 _ _ h5) (by decide))
            cases h9 : gfX4_addToken_24_18 x S8 v2 r7 with
            | none => rw [h9] at hm; cases hm
            | some q10 =>
              obtain ⟨r11, S12⟩ := q10
              rw [h9] at hm
              dsimp only at hm
              have a_S12 : Agr wX4_split_24_18 S S12 := Agr.tr a_S8 (Agr.sub (frX4_addToken_24_18 x S8 v2 r7 _ _ h9) (by decide))
              exact Agr.tr a_S12 (fbX4_split_24_18_56 x k9 ak9 S12 v3 r7 _ _ hm)
theorem flX4_split_24_18_9 (x : XT)  : ∀ (n : Nat) (S : ST) (v2 : Int32) (v3 : Int32) (r : Unit) (S' : ST), lfX4_split_24_18_9 x  n S v2 v3 = some (r, S') → Agr wX4_split_24_18 S S'
  | 0, _, _, _, _, _, hm => by cases hm
  | n + 1, S, v2, v3, r, S', hm => fbX4_split_24_18_9 x (lfX4_split_24_18_9 x  n) (flX4_split_24_18_9 x  n) S v2 v3 r S' hm
set_option maxHeartbeats 4000000 in
set_option maxRecDepth 20000 in
theorem fbX4_split_24_18_0 (x : XT)  (S : ST)  (r : Unit) (S' : ST) (hm : bfX4_split_24_18_0 x  S  = some (r, S')) : Agr wX4_split_24_18 S S' := by
    unfold bfX4_split_24_18_0 at hm
    exact Agr.tr (Agr.f Agr.rf 24 5 0 (by decide)) (flX4_split_24_18_9 x  20000 ((u2 S.1 24 5 0), S.2.1, S.2.2.1, S.2.2.2) 0 0 _ _ hm)
theorem frX4_split_24_18 (x : XT) (S : ST)  (r : Unit) (S' : ST) (hm : gfX4_split_24_18 x S  = some (r, S')) : Agr wX4_split_24_18 S S' := fbX4_split_24_18_0 x S  r S' hm
def wX9_clear_25 : List (Nat × Nat) × List Nat × List Nat × List Nat := ([(25, 0), (25, 1)], [], [], [])
set_option maxHeartbeats 4000000 in
set_option maxRecDepth 20000 in
theorem fbX9_clear_25_0 (x : XT)  (S : ST)  (r : Unit) (S' : ST) (hm : bfX9_clear_25_0 x  S  = some (r, S')) : Agr wX9_clear_25 S S' := by
    unfold bfX9_clear_25_0 at hm
    cases hm
    exact (Agr.f (Agr.f Agr.rf 25 0 0 (by decide)) 25 1 0 (by decide))
theorem frX9_clear_25 (x : XT) (S : ST)  (r : Unit) (S' : ST) (hm : gfX9_clear_25 x S  = some (r, S')) : Agr wX9_clear_25 S S' := fbX9_clear_25_0 x S  r S' hm
def wX4_read_24_18 : List (Nat × Nat) × List Nat × List Nat × List Nat := ([(24, 1), (24, 5), (24, 6), (24, 7), (24, 8), (25, 0), (25, 1)], [26, 27, 28, 29, 30, 31, 32], [], [])
set_option maxHeartbeats 4000000 in
set_option maxRecDepth 20000 in
theorem fbX4_read_24_18_114 (x : XT)  (S : ST) (t0 : Int32) (r : Int32) (S' : ST) (hm : bfX4_read_24_18_114 x  S t0 = some (r, S')) : Agr wX4_read_24_18 S S' := by
    unfold bfX4_read_24_18_114 at hm
    obtain ⟨o1, hm⟩ := oblk hm
    cases hm
    exact Agr.rf
set_option maxHeartbeats 4000000 in
set_option maxRecDepth 20000 in
theorem fbX4_read_24_18_109 (x : XT)  (S : ST)  (r : Int32) (S' : ST) (hm : bfX4_read_24_18_109 x  S  = some (r, S')) : Agr wX4_read_24_18 S S' := by
    unfold bfX4_read_24_18_109 at hm
    exact Agr.tr Agr.rf (fbX4_read_24_18_114 x  S 1 _ _ hm)
set_option maxHeartbeats 4000000 in
set_option maxRecDepth 20000 in
theorem fbX4_read_24_18_92 (x : XT)  (S : ST)  (r : Int32) (S' : ST) (hm : bfX4_read_24_18_92 x  S  = some (r, S')) : Agr wX4_read_24_18 S S' := by
    unfold bfX4_read_24_18_92 at hm
    cases h1 : gfX4_here_24 x S with
    | none => rw [h1] at hm; cases hm
    | some q2 =>
      obtain ⟨r3, S4⟩ := q2
      rw [h1] at hm
      dsimp only at hm
      have a_S4 : Agr wX4_read_24_18 S S4 := Agr.tr Agr.rf (Agr.sub (frX4_here_24 x S _ _ h1) (by decide))
      by_cases c5 : r3 = 257
      · rw [if_pos c5] at hm
        exact Agr.tr a_S4 (fbX4_read_24_18_109 x  S4 _ _ hm)
      · rw [if_neg c5] at hm
        cases h6 : gfX4_faulty_24 x S4 with
        | none => rw [h6] at hm; cases hm
        | some q7 =>
          obtain ⟨r8, S9⟩ := q7
          rw [h6] at hm
          dsimp only at hm
          have a_S9 : Agr wX4_read_24_18 S S9 := Agr.tr a_S4 (Agr.sub (frX4_faulty_24 x S4 _ _ h6) (by decide))
          by_cases c10 : r8 = 0
          · rw [if_pos c10] at hm
            exact Agr.tr a_S9 (fbX4_read_24_18_114 x  S9 0 _ _ hm)
          · rw [if_neg c10] at hm
            exact Agr.tr a_S9 (fbX4_read_24_18_109 x  S9 _ _ hm)
set_option maxHeartbeats 4000000 in
set_option maxRecDepth 20000 in
theorem fbX4_read_24_18_86 (x : XT) (k37 : ST → Int32 → Int32 → Option (Int32 × ST)) (ak37 : ∀ (S : ST) (v3 : Int32) (v4 : Int32) (r : Int32) (S' : ST), k37 S v3 v4 = some (r, S') → Agr wX4_read_24_18 S S') (S : ST) (v3 : Int32) (v4 : Int32) (r : Int32) (S' : ST) (hm : bfX4_read_24_18_86 x k37 S v3 v4 = some (r, S')) : Agr wX4_read_24_18 S S' := by
    unfold bfX4_read_24_18_86 at hm
    exact Agr.tr Agr.rf (ak37 S v3 (v4 + 1) _ _ hm)
set_option maxHeartbeats 4000000 in
set_option maxRecDepth 20000 in
theorem fbX4_read_24_18_71 (x : XT) (k37 : ST → Int32 → Int32 → Option (Int32 × ST)) (ak37 : ∀ (S : ST) (v3 : Int32) (v4 : Int32) (r : Int32) (S' : ST), k37 S v3 v4 = some (r, S') → Agr wX4_read_24_18 S S') (S : ST) (v4 : Int32) (t0 : Int32) (r : Int32) (S' : ST) (hm : bfX4_read_24_18_71 x k37 S v4 t0 = some (r, S')) : Agr wX4_read_24_18 S S' := by
    unfold bfX4_read_24_18_71 at hm
    by_cases c1 : t0 = 0
    · rw [if_pos c1] at hm
      exact Agr.tr Agr.rf (fbX4_read_24_18_86 x k37 ak37 S t0 v4 _ _ hm)
    · rw [if_neg c1] at hm
      exact Agr.tr (Agr.f Agr.rf 24 6 ((S.1 24 6) + 1) (by decide)) (fbX4_read_24_18_86 x k37 ak37 ((u2 S.1 24 6 ((S.1 24 6) + 1)), S.2.1, S.2.2.1, S.2.2.2) t0 v4 _ _ hm)
set_option maxHeartbeats 4000000 in
set_option maxRecDepth 20000 in
theorem fbX4_read_24_18_37 (x : XT) (k37 : ST → Int32 → Int32 → Option (Int32 × ST)) (ak37 : ∀ (S : ST) (v3 : Int32) (v4 : Int32) (r : Int32) (S' : ST), k37 S v3 v4 = some (r, S') → Agr wX4_read_24_18 S S') (S : ST) (v3 : Int32) (v4 : Int32) (r : Int32) (S' : ST) (hm : bfX4_read_24_18_37 x k37 S v3 v4 = some (r, S')) : Agr wX4_read_24_18 S S' := by
    unfold bfX4_read_24_18_37 at hm
    by_cases c1 : 12 < v4
    · rw [if_pos c1] at hm
      exact Agr.tr Agr.rf (fbX4_read_24_18_92 x  S _ _ hm)
    · rw [if_neg c1] at hm
      by_cases c2 : v3 = 0
      · rw [if_pos c2] at hm
        exact Agr.tr Agr.rf (fbX4_read_24_18_92 x  S _ _ hm)
      · rw [if_neg c2] at hm
        cases h3 : gfX4_clause_24 x S with
        | none => rw [h3] at hm; cases hm
        | some q4 =>
          obtain ⟨r5, S6⟩ := q4
          rw [h3] at hm
          dsimp only at hm
          have a_S6 : Agr wX4_read_24_18 S S6 := Agr.tr Agr.rf (Agr.sub (frX4_clause_24 x S _ _ h3) (by decide))
          by_cases c7 : ¬ r5 = 0
          · rw [if_pos c7] at hm
            cases h8 : gfX4_here_24 x S6 with
            | none => rw [h8] at hm; cases hm
            | some q9 =>
              obtain ⟨r10, S11⟩ := q9
              rw [h8] at hm
              dsimp only at hm
              have a_S11 : Agr wX4_read_24_18 S S11 := Agr.tr a_S6 (Agr.sub (frX4_here_24 x S6 _ _ h8) (by decide))
              by_cases c12 : ¬ r10 = 59
              · rw [if_pos c12] at hm
                exact Agr.tr a_S11 (fbX4_read_24_18_71 x k37 ak37 S11 v4 0 _ _ hm)
              · rw [if_neg c12] at hm
                exact Agr.tr a_S11 (fbX4_read_24_18_71 x k37 ak37 S11 v4 1 _ _ hm)
          · rw [if_neg c7] at hm
            cases hm
            exact a_S6
theorem flX4_read_24_18_37 (x : XT)  : ∀ (n : Nat) (S : ST) (v3 : Int32) (v4 : Int32) (r : Int32) (S' : ST), lfX4_read_24_18_37 x  n S v3 v4 = some (r, S') → Agr wX4_read_24_18 S S'
  | 0, _, _, _, _, _, hm => by cases hm
  | n + 1, S, v3, v4, r, S', hm => fbX4_read_24_18_37 x (lfX4_read_24_18_37 x  n) (flX4_read_24_18_37 x  n) S v3 v4 r S' hm
set_option maxHeartbeats 4000000 in
set_option maxRecDepth 20000 in
theorem fbX4_read_24_18_0 (x : XT)  (S : ST) (p2 : Int32) (r : Int32) (S' : ST) (hm : bfX4_read_24_18_0 x  S p2 = some (r, S')) : Agr wX4_read_24_18 S S' := by
    unfold bfX4_read_24_18_0 at hm
    cases h1 : gfX4_split_24_18 x S with
    | none => rw [h1] at hm; cases hm
    | some q2 =>
      obtain ⟨r3, S4⟩ := q2
      rw [h1] at hm
      dsimp only at hm
      have a_S4 : Agr wX4_read_24_18 S S4 := Agr.tr Agr.rf (Agr.sub (frX4_split_24_18 x S _ _ h1) (by decide))
      obtain ⟨o5, hm⟩ := oblk hm
      cases h6 : gfX9_clear_25 x ((u2 (u2 (u2 (u2 S4.1 24 8 p2) 24 6 0) 24 7 0) 24 1 (-1)), S4.2.1, S4.2.2.1, S4.2.2.2) with
      | none => rw [h6] at hm; cases hm
      | some q7 =>
        obtain ⟨r8, S9⟩ := q7
        rw [h6] at hm
        dsimp only at hm
        have a_S9 : Agr wX4_read_24_18 S S9 := Agr.tr (Agr.f (Agr.f (Agr.f (Agr.f a_S4 24 8 p2 (by decide)) 24 6 0 (by decide)) 24 7 0 (by decide)) 24 1 (-1) (by decide)) (Agr.sub (frX9_clear_25 x ((u2 (u2 (u2 (u2 S4.1 24 8 p2) 24 6 0) 24 7 0) 24 1 (-1)), S4.2.1, S4.2.2.1, S4.2.2.2) _ _ h6) (by decide))
        exact Agr.tr a_S9 (flX4_read_24_18_37 x  20000 S9 1 0 _ _ hm)
theorem frX4_read_24_18 (x : XT) (S : ST) (p2 : Int32) (r : Int32) (S' : ST) (hm : gfX4_read_24_18 x S p2 = some (r, S')) : Agr wX4_read_24_18 S S' := fbX4_read_24_18_0 x S p2 r S' hm
def wX10_readTape_0 : List (Nat × Nat) × List Nat × List Nat × List Nat := ([(0, 13), (18, 1), (24, 1), (24, 5), (24, 6), (24, 7), (24, 8), (25, 0), (25, 1)], [26, 27, 28, 29, 30, 31, 32], [], [])
set_option maxHeartbeats 4000000 in
set_option maxRecDepth 20000 in
theorem fbX10_readTape_0_0 (x : XT)  (S : ST) (p1 : Int32) (r : Int32) (S' : ST) (hm : bfX10_readTape_0_0 x  S p1 = some (r, S')) : Agr wX10_readTape_0 S S' := by
    unfold bfX10_readTape_0_0 at hm
    cases h1 : gfX4_read_24_18 x S p1 with
    | none => rw [h1] at hm; cases hm
    | some q2 =>
      obtain ⟨r3, S4⟩ := q2
      rw [h1] at hm
      dsimp only at hm
      have a_S4 : Agr wX10_readTape_0 S S4 := Agr.tr Agr.rf (Agr.sub (frX4_read_24_18 x S p1 _ _ h1) (by decide))
      cases h5 : gfX8_clear_18 x ((u2 S4.1 0 13 (S4.1 24 1)), S4.2.1, S4.2.2.1, S4.2.2.2) with
      | none => rw [h5] at hm; cases hm
      | some q6 =>
        obtain ⟨r7, S8⟩ := q6
        rw [h5] at hm
        dsimp only at hm
        have a_S8 : Agr wX10_readTape_0 S S8 := Agr.tr (Agr.f a_S4 0 13 (S4.1 24 1) (by decide)) (Agr.sub (frX8_clear_18 x ((u2 S4.1 0 13 (S4.1 24 1)), S4.2.1, S4.2.2.1, S4.2.2.2) _ _ h5) (by decide))
        obtain ⟨o9, hm⟩ := oblk hm
        cases hm
        exact a_S8
theorem frX10_readTape_0 (x : XT) (S : ST) (p1 : Int32) (r : Int32) (S' : ST) (hm : gfX10_readTape_0 x S p1 = some (r, S')) : Agr wX10_readTape_0 S S' := fbX10_readTape_0_0 x S p1 r S' hm
def wX7_copyFrom_35_1 : List (Nat × Nat) × List Nat × List Nat × List Nat := ([(35, 0), (35, 6), (35, 11), (35, 16), (35, 18)], [36, 37, 38, 39, 40, 41, 42, 43, 44, 45, 46, 47, 48], [], [49])
set_option maxHeartbeats 4000000 in
set_option maxRecDepth 20000 in
theorem fbX7_copyFrom_35_1_252 (x : XT) (k252 : ST → Int32 → Option (Unit × ST)) (ak252 : ∀ (S : ST) (v2 : Int32) (r : Unit) (S' : ST), k252 S v2 = some (r, S') → Agr wX7_copyFrom_35_1 S S') (S : ST) (v2 : Int32) (r : Unit) (S' : ST) (hm : bfX7_copyFrom_35_1_252 x k252 S v2 = some (r, S')) : Agr wX7_copyFrom_35_1 S S' := by
    unfold bfX7_copyFrom_35_1_252 at hm
    by_cases c1 : 6 ≤ v2
    · rw [if_pos c1] at hm
      cases hm
      exact Agr.rf
    · rw [if_neg c1] at hm
      obtain ⟨o2, hm⟩ := oblk hm
      obtain ⟨o3, hm⟩ := oblk hm
      obtain ⟨o4, hm⟩ := oblk hm
      exact Agr.tr (Agr.q Agr.rf 49 v2.toNatClampNeg (S.2.2.2 15 v2.toNatClampNeg) (by decide)) (ak252 (S.1, S.2.1, S.2.2.1, (u2 S.2.2.2 49 v2.toNatClampNeg (S.2.2.2 15 v2.toNatClampNeg))) (v2 + 1) _ _ hm)
theorem flX7_copyFrom_35_1_252 (x : XT)  : ∀ (n : Nat) (S : ST) (v2 : Int32) (r : Unit) (S' : ST), lfX7_copyFrom_35_1_252 x  n S v2 = some (r, S') → Agr wX7_copyFrom_35_1 S S'
  | 0, _, _, _, _, hm => by cases hm
  | n + 1, S, v2, r, S', hm => fbX7_copyFrom_35_1_252 x (lfX7_copyFrom_35_1_252 x  n) (flX7_copyFrom_35_1_252 x  n) S v2 r S' hm
set_option maxHeartbeats 4000000 in
set_option maxRecDepth 20000 in
theorem fbX7_copyFrom_35_1_227 (x : XT) (k227 : ST → Int32 → Option (Unit × ST)) (ak227 : ∀ (S : ST) (v2 : Int32) (r : Unit) (S' : ST), k227 S v2 = some (r, S') → Agr wX7_copyFrom_35_1 S S') (S : ST) (v2 : Int32) (r : Unit) (S' : ST) (hm : bfX7_copyFrom_35_1_227 x k227 S v2 = some (r, S')) : Agr wX7_copyFrom_35_1 S S' := by
    unfold bfX7_copyFrom_35_1_227 at hm
    by_cases c1 : 3 ≤ v2
    · rw [if_pos c1] at hm
      exact Agr.tr Agr.rf (flX7_copyFrom_35_1_252 x  20000 S 0 _ _ hm)
    · rw [if_neg c1] at hm
      obtain ⟨o2, hm⟩ := oblk hm
      obtain ⟨o3, hm⟩ := oblk hm
      exact Agr.tr (Agr.i Agr.rf 48 v2.toNatClampNeg (S.2.1 14 v2.toNatClampNeg) (by decide)) (ak227 (S.1, (u2 S.2.1 48 v2.toNatClampNeg (S.2.1 14 v2.toNatClampNeg)), S.2.2.1, S.2.2.2) (v2 + 1) _ _ hm)
theorem flX7_copyFrom_35_1_227 (x : XT)  : ∀ (n : Nat) (S : ST) (v2 : Int32) (r : Unit) (S' : ST), lfX7_copyFrom_35_1_227 x  n S v2 = some (r, S') → Agr wX7_copyFrom_35_1 S S'
  | 0, _, _, _, _, hm => by cases hm
  | n + 1, S, v2, r, S', hm => fbX7_copyFrom_35_1_227 x (lfX7_copyFrom_35_1_227 x  n) (flX7_copyFrom_35_1_227 x  n) S v2 r S' hm
set_option maxHeartbeats 4000000 in
set_option maxRecDepth 20000 in
theorem fbX7_copyFrom_35_1_177 (x : XT) (k177 : ST → Int32 → Option (Unit × ST)) (ak177 : ∀ (S : ST) (v2 : Int32) (r : Unit) (S' : ST), k177 S v2 = some (r, S') → Agr wX7_copyFrom_35_1 S S') (S : ST) (v2 : Int32) (r : Unit) (S' : ST) (hm : bfX7_copyFrom_35_1_177 x k177 S v2 = some (r, S')) : Agr wX7_copyFrom_35_1 S S' := by
    unfold bfX7_copyFrom_35_1_177 at hm
    by_cases c1 : 6 ≤ v2
    · rw [if_pos c1] at hm
      exact Agr.tr Agr.rf (flX7_copyFrom_35_1_227 x  20000 S 0 _ _ hm)
    · rw [if_neg c1] at hm
      obtain ⟨o2, hm⟩ := oblk hm
      obtain ⟨o3, hm⟩ := oblk hm
      obtain ⟨o4, hm⟩ := oblk hm
      obtain ⟨o5, hm⟩ := oblk hm
      obtain ⟨o6, hm⟩ := oblk hm
      obtain ⟨o7, hm⟩ := oblk hm
      exact Agr.tr (Agr.i (Agr.i (Agr.i Agr.rf 45 v2.toNatClampNeg (S.2.1 11 v2.toNatClampNeg) (by decide)) 46 v2.toNatClampNeg (S.2.1 12 v2.toNatClampNeg) (by decide)) 47 v2.toNatClampNeg (S.2.1 13 v2.toNatClampNeg) (by decide)) (ak177 (S.1, (u2 (u2 (u2 S.2.1 45 v2.toNatClampNeg (S.2.1 11 v2.toNatClampNeg)) 46 v2.toNatClampNeg (S.2.1 12 v2.toNatClampNeg)) 47 v2.toNatClampNeg (S.2.1 13 v2.toNatClampNeg)), S.2.2.1, S.2.2.2) (v2 + 1) _ _ hm)
theorem flX7_copyFrom_35_1_177 (x : XT)  : ∀ (n : Nat) (S : ST) (v2 : Int32) (r : Unit) (S' : ST), lfX7_copyFrom_35_1_177 x  n S v2 = some (r, S') → Agr wX7_copyFrom_35_1 S S'
  | 0, _, _, _, _, hm => by cases hm
  | n + 1, S, v2, r, S', hm => fbX7_copyFrom_35_1_177 x (lfX7_copyFrom_35_1_177 x  n) (flX7_copyFrom_35_1_177 x  n) S v2 r S' hm
set_option maxHeartbeats 4000000 in
set_option maxRecDepth 20000 in
theorem fbX7_copyFrom_35_1_116 (x : XT) (k116 : ST → Int32 → Option (Unit × ST)) (ak116 : ∀ (S : ST) (v2 : Int32) (r : Unit) (S' : ST), k116 S v2 = some (r, S') → Agr wX7_copyFrom_35_1 S S') (S : ST) (v2 : Int32) (r : Unit) (S' : ST) (hm : bfX7_copyFrom_35_1_116 x k116 S v2 = some (r, S')) : Agr wX7_copyFrom_35_1 S S' := by
    unfold bfX7_copyFrom_35_1_116 at hm
    by_cases c1 : 5 ≤ v2
    · rw [if_pos c1] at hm
      exact Agr.tr Agr.rf (flX7_copyFrom_35_1_177 x  20000 S 0 _ _ hm)
    · rw [if_neg c1] at hm
      obtain ⟨o2, hm⟩ := oblk hm
      obtain ⟨o3, hm⟩ := oblk hm
      obtain ⟨o4, hm⟩ := oblk hm
      obtain ⟨o5, hm⟩ := oblk hm
      obtain ⟨o6, hm⟩ := oblk hm
      obtain ⟨o7, hm⟩ := oblk hm
      obtain ⟨o8, hm⟩ := oblk hm
      obtain ⟨o9, hm⟩ := oblk hm
      exact Agr.tr (Agr.i (Agr.i (Agr.i (Agr.i Agr.rf 41 v2.toNatClampNeg (S.2.1 7 v2.toNatClampNeg) (by decide)) 42 v2.toNatClampNeg (S.2.1 8 v2.toNatClampNeg) (by decide)) 43 v2.toNatClampNeg (S.2.1 9 v2.toNatClampNeg) (by decide)) 44 v2.toNatClampNeg (S.2.1 10 v2.toNatClampNeg) (by decide)) (ak116 (S.1, (u2 (u2 (u2 (u2 S.2.1 41 v2.toNatClampNeg (S.2.1 7 v2.toNatClampNeg)) 42 v2.toNatClampNeg (S.2.1 8 v2.toNatClampNeg)) 43 v2.toNatClampNeg (S.2.1 9 v2.toNatClampNeg)) 44 v2.toNatClampNeg (S.2.1 10 v2.toNatClampNeg)), S.2.2.1, S.2.2.2) (v2 + 1) _ _ hm)
theorem flX7_copyFrom_35_1_116 (x : XT)  : ∀ (n : Nat) (S : ST) (v2 : Int32) (r : Unit) (S' : ST), lfX7_copyFrom_35_1_116 x  n S v2 = some (r, S') → Agr wX7_copyFrom_35_1 S S'
  | 0, _, _, _, _, hm => by cases hm
  | n + 1, S, v2, r, S', hm => fbX7_copyFrom_35_1_116 x (lfX7_copyFrom_35_1_116 x  n) (flX7_copyFrom_35_1_116 x  n) S v2 r S' hm
set_option maxHeartbeats 4000000 in
set_option maxRecDepth 20000 in
theorem fbX7_copyFrom_35_1_42 (x : XT) (k42 : ST → Int32 → Option (Unit × ST)) (ak42 : ∀ (S : ST) (v2 : Int32) (r : Unit) (S' : ST), k42 S v2 = some (r, S') → Agr wX7_copyFrom_35_1 S S') (S : ST) (v2 : Int32) (r : Unit) (S' : ST) (hm : bfX7_copyFrom_35_1_42 x k42 S v2 = some (r, S')) : Agr wX7_copyFrom_35_1 S S' := by
    unfold bfX7_copyFrom_35_1_42 at hm
    by_cases c1 : 10 ≤ v2
    · rw [if_pos c1] at hm
      exact Agr.tr Agr.rf (flX7_copyFrom_35_1_116 x  20000 S 0 _ _ hm)
    · rw [if_neg c1] at hm
      obtain ⟨o2, hm⟩ := oblk hm
      obtain ⟨o3, hm⟩ := oblk hm
      obtain ⟨o4, hm⟩ := oblk hm
      obtain ⟨o5, hm⟩ := oblk hm
      obtain ⟨o6, hm⟩ := oblk hm
      obtain ⟨o7, hm⟩ := oblk hm
      obtain ⟨o8, hm⟩ := oblk hm
      obtain ⟨o9, hm⟩ := oblk hm
      obtain ⟨o10, hm⟩ := oblk hm
      obtain ⟨o11, hm⟩ := oblk hm
      exact Agr.tr (Agr.i (Agr.i (Agr.i (Agr.i (Agr.i Agr.rf 36 v2.toNatClampNeg (S.2.1 2 v2.toNatClampNeg) (by decide)) 37 v2.toNatClampNeg (S.2.1 3 v2.toNatClampNeg) (by decide)) 38 v2.toNatClampNeg (S.2.1 4 v2.toNatClampNeg) (by decide)) 39 v2.toNatClampNeg (S.2.1 5 v2.toNatClampNeg) (by decide)) 40 v2.toNatClampNeg (vp_nar .boolean (S.2.1 6 v2.toNatClampNeg)) (by decide)) (ak42 (S.1, (u2 (u2 (u2 (u2 (u2 S.2.1 36 v2.toNatClampNeg (S.2.1 2 v2.toNatClampNeg)) 37 v2.toNatClampNeg (S.2.1 3 v2.toNatClampNeg)) 38 v2.toNatClampNeg (S.2.1 4 v2.toNatClampNeg)) 39 v2.toNatClampNeg (S.2.1 5 v2.toNatClampNeg)) 40 v2.toNatClampNeg (vp_nar .boolean (S.2.1 6 v2.toNatClampNeg))), S.2.2.1, S.2.2.2) (v2 + 1) _ _ hm)
theorem flX7_copyFrom_35_1_42 (x : XT)  : ∀ (n : Nat) (S : ST) (v2 : Int32) (r : Unit) (S' : ST), lfX7_copyFrom_35_1_42 x  n S v2 = some (r, S') → Agr wX7_copyFrom_35_1 S S'
  | 0, _, _, _, _, hm => by cases hm
  | n + 1, S, v2, r, S', hm => fbX7_copyFrom_35_1_42 x (lfX7_copyFrom_35_1_42 x  n) (flX7_copyFrom_35_1_42 x  n) S v2 r S' hm
set_option maxHeartbeats 4000000 in
set_option maxRecDepth 20000 in
theorem fbX7_copyFrom_35_1_0 (x : XT)  (S : ST)  (r : Unit) (S' : ST) (hm : bfX7_copyFrom_35_1_0 x  S  = some (r, S')) : Agr wX7_copyFrom_35_1 S S' := by
    unfold bfX7_copyFrom_35_1_0 at hm
    exact Agr.tr (Agr.f (Agr.f (Agr.f (Agr.f (Agr.f Agr.rf 35 0 (S.1 1 0) (by decide)) 35 6 (S.1 1 6) (by decide)) 35 11 (S.1 1 11) (by decide)) 35 16 (S.1 1 16) (by decide)) 35 18 (S.1 1 18) (by decide)) (flX7_copyFrom_35_1_42 x  20000 ((u2 (u2 (u2 (u2 (u2 S.1 35 0 (S.1 1 0)) 35 6 (S.1 1 6)) 35 11 (S.1 1 11)) 35 16 (S.1 1 16)) 35 18 (S.1 1 18)), S.2.1, S.2.2.1, S.2.2.2) 0 _ _ hm)
theorem frX7_copyFrom_35_1 (x : XT) (S : ST)  (r : Unit) (S' : ST) (hm : gfX7_copyFrom_35_1 x S  = some (r, S')) : Agr wX7_copyFrom_35_1 S S' := fbX7_copyFrom_35_1_0 x S  r S' hm
def wX1_keepAhead_33 : List (Nat × Nat) × List Nat × List Nat × List Nat := ([(33, 6), (35, 0), (35, 6), (35, 11), (35, 16), (35, 18)], [36, 37, 38, 39, 40, 41, 42, 43, 44, 45, 46, 47, 48, 50], [], [49])
set_option maxHeartbeats 4000000 in
set_option maxRecDepth 20000 in
theorem fbX1_keepAhead_33_0 (x : XT)  (S : ST)  (r : Unit) (S' : ST) (hm : bfX1_keepAhead_33_0 x  S  = some (r, S')) : Agr wX1_keepAhead_33 S S' := by
    unfold bfX1_keepAhead_33_0 at hm
    cases h1 : gfX7_copyFrom_35_1 x S with
    | none => rw [h1] at hm; cases hm
    | some q2 =>
      obtain ⟨r3, S4⟩ := q2
      rw [h1] at hm
      dsimp only at hm
      have a_S4 : Agr wX1_keepAhead_33 S S4 := Agr.tr Agr.rf (Agr.sub (frX7_copyFrom_35_1 x S _ _ h1) (by decide))
      cases hm
      exact (Agr.ic (Agr.f a_S4 33 6 (S4.1 33 0) (by decide)) 50 _ (by decide))
theorem frX1_keepAhead_33 (x : XT) (S : ST)  (r : Unit) (S' : ST) (hm : gfX1_keepAhead_33 x S  = some (r, S')) : Agr wX1_keepAhead_33 S S' := fbX1_keepAhead_33_0 x S  r S' hm
def wX1_keep_33 : List (Nat × Nat) × List Nat × List Nat × List Nat := ([(33, 0)], [34], [], [])
set_option maxHeartbeats 4000000 in
set_option maxRecDepth 20000 in
theorem fbX1_keep_33_30 (x : XT)  (S : ST) (v1 : Int32) (v2 : Int32) (v3 : Int32) (v4 : Int32) (v5 : Int32) (r : Unit) (S' : ST) (hm : bfX1_keep_33_30 x  S v1 v2 v3 v4 v5 = some (r, S')) : Agr wX1_keep_33 S S' := by
    unfold bfX1_keep_33_30 at hm
    obtain ⟨o1, hm⟩ := oblk hm
    obtain ⟨o2, hm⟩ := oblk hm
    obtain ⟨o3, hm⟩ := oblk hm
    obtain ⟨o4, hm⟩ := oblk hm
    obtain ⟨o5, hm⟩ := oblk hm
    cases hm
    exact (Agr.i (Agr.i (Agr.i (Agr.i (Agr.i (Agr.f Agr.rf 33 0 ((S.1 33 0) + 1) (by decide)) 34 (((S.1 33 0) * 5).toNatClampNeg) v1 (by decide)) 34 ((((S.1 33 0) * 5) + 1).toNatClampNeg) v2 (by decide)) 34 ((((S.1 33 0) * 5) + 2).toNatClampNeg) v3 (by decide)) 34 ((((S.1 33 0) * 5) + 3).toNatClampNeg) v4 (by decide)) 34 ((((S.1 33 0) * 5) + 4).toNatClampNeg) v5 (by decide))
set_option maxHeartbeats 4000000 in
set_option maxRecDepth 20000 in
theorem fbX1_keep_33_0 (x : XT)  (S : ST) (p1 : Int32) (p2 : Int32) (p3 : Int32) (p4 : Int32) (p5 : Int32) (r : Unit) (S' : ST) (hm : bfX1_keep_33_0 x  S p1 p2 p3 p4 p5 = some (r, S')) : Agr wX1_keep_33 S S' := by
    unfold bfX1_keep_33_0 at hm
    by_cases c1 : (S.1 33 0) < 16
    · rw [if_pos c1] at hm
      exact Agr.tr Agr.rf (fbX1_keep_33_30 x  S p1 p2 p3 p4 p5 _ _ hm)
    · rw [if_neg c1] at hm
      exact Agr.tr (Agr.ic (Agr.f Agr.rf 33 0 15 (by decide)) 34 _ (by decide)) (fbX1_keep_33_30 x  ((u2 S.1 33 0 15), (u1 S.2.1 34 (va_cpy (S.2.1 34) (S.2.1 34) 5 0 75)), S.2.2.1, S.2.2.2) p1 p2 p3 p4 p5 _ _ hm)
theorem frX1_keep_33 (x : XT) (S : ST) (p1 : Int32) (p2 : Int32) (p3 : Int32) (p4 : Int32) (p5 : Int32) (r : Unit) (S' : ST) (hm : gfX1_keep_33 x S p1 p2 p3 p4 p5 = some (r, S')) : Agr wX1_keep_33 S S' := fbX1_keep_33_0 x S p1 p2 p3 p4 p5 r S' hm
def wX0_move_20_1 : List (Nat × Nat) × List Nat × List Nat × List Nat := ([], [7, 8, 10, 21, 22], [], [])
set_option maxHeartbeats 4000000 in
set_option maxRecDepth 20000 in
theorem fbX0_move_20_1_0 (x : XT)  (S : ST) (p2 : Int32) (p3 : Int32) (r : Unit) (S' : ST) (hm : bfX0_move_20_1_0 x  S p2 p3 = some (r, S')) : Agr wX0_move_20_1 S S' := by
    unfold bfX0_move_20_1_0 at hm
    obtain ⟨o1, hm⟩ := oblk hm
    cases h2 : gfX0_regard_20_1 x S p2 p3 (S.2.1 8 p2.toNatClampNeg) with
    | none => rw [h2] at hm; cases hm
    | some q3 =>
      obtain ⟨r4, S5⟩ := q3
      rw [h2] at hm
      dsimp only at hm
      have a_S5 : Agr wX0_move_20_1 S S5 := Agr.tr Agr.rf (Agr.sub (frX0_regard_20_1 x S p2 p3 (S.2.1 8 p2.toNatClampNeg) _ _ h2) (by decide))
      cases h6 : gfX0_told_20_1 x S5 260 with
      | none => rw [h6] at hm; cases hm
      | some q7 =>
        obtain ⟨r8, S9⟩ := q7
        rw [h6] at hm
        dsimp only at hm
        have a_S9 : Agr wX0_move_20_1 S S9 := Agr.tr a_S5 (Agr.sub (frX0_told_20_1 x S5 260 _ _ h6) (by decide))
        cases h10 : gfX0_told_20_1 x S9 261 with
        | none => rw [h10] at hm; cases hm
        | some q11 =>
          obtain ⟨r12, S13⟩ := q11
          rw [h10] at hm
          dsimp only at hm
          have a_S13 : Agr wX0_move_20_1 S S13 := Agr.tr a_S9 (Agr.sub (frX0_told_20_1 x S9 261 _ _ h10) (by decide))
          obtain ⟨o14, hm⟩ := oblk hm
          obtain ⟨o15, hm⟩ := oblk hm
          obtain ⟨o16, hm⟩ := oblk hm
          obtain ⟨o17, hm⟩ := oblk hm
          obtain ⟨o18, hm⟩ := oblk hm
          cases hm
          exact (Agr.i (Agr.i (Agr.i a_S13 7 p2.toNatClampNeg (S13.2.1 3 p3.toNatClampNeg) (by decide)) 8 p2.toNatClampNeg r8 (by decide)) 10 p2.toNatClampNeg (if 9999 < ((S13.2.1 10 p2.toNatClampNeg) + r12) then 9999 else ((S13.2.1 10 p2.toNatClampNeg) + r12)) (by decide))
theorem frX0_move_20_1 (x : XT) (S : ST) (p2 : Int32) (p3 : Int32) (r : Unit) (S' : ST) (hm : gfX0_move_20_1 x S p2 p3 = some (r, S')) : Agr wX0_move_20_1 S S' := fbX0_move_20_1_0 x S p2 p3 r S' hm
def wX1_sendThrough_33 : List (Nat × Nat) × List Nat × List Nat × List Nat := ([(33, 0)], [7, 8, 10, 21, 22, 34], [], [])
set_option maxHeartbeats 4000000 in
set_option maxRecDepth 20000 in
theorem fbX1_sendThrough_33_22 (x : XT)  (S : ST)  (r : Int32) (S' : ST) (hm : bfX1_sendThrough_33_22 x  S  = some (r, S')) : Agr wX1_sendThrough_33 S S' := by
    unfold bfX1_sendThrough_33_22 at hm
    cases hm
    exact Agr.rf
set_option maxHeartbeats 4000000 in
set_option maxRecDepth 20000 in
theorem fbX1_sendThrough_33_0 (x : XT)  (S : ST) (p1 : Int32) (p2 : Int32) (r : Int32) (S' : ST) (hm : bfX1_sendThrough_33_0 x  S p1 p2 = some (r, S')) : Agr wX1_sendThrough_33 S S' := by
    unfold bfX1_sendThrough_33_0 at hm
    cases h1 : gfX7_hasGoer_1 x S p1 with
    | none => rw [h1] at hm; cases hm
    | some q2 =>
      obtain ⟨r3, S4⟩ := q2
      rw [h1] at hm
      dsimp only at hm
      have a_S4 : Agr wX1_sendThrough_33 S S4 := Agr.tr Agr.rf (Agr.sub (frX7_hasGoer_1 x S p1 _ _ h1) (by decide))
      by_cases c5 : r3 = 0
      · rw [if_pos c5] at hm
        exact Agr.tr a_S4 (fbX1_sendThrough_33_22 x  S4 _ _ hm)
      · rw [if_neg c5] at hm
        cases h6 : gfX7_hasGate_1 x S4 p2 with
        | none => rw [h6] at hm; cases hm
        | some q7 =>
          obtain ⟨r8, S9⟩ := q7
          rw [h6] at hm
          dsimp only at hm
          have a_S9 : Agr wX1_sendThrough_33 S S9 := Agr.tr a_S4 (Agr.sub (frX7_hasGate_1 x S4 p2 _ _ h6) (by decide))
          by_cases c10 : ¬ r8 = 0
          · rw [if_pos c10] at hm
            cases h11 : gfX0_can_20_1 x S9 p1 p2 with
            | none => rw [h11] at hm; cases hm
            | some q12 =>
              obtain ⟨r13, S14⟩ := q12
              rw [h11] at hm
              dsimp only at hm
              have a_S14 : Agr wX1_sendThrough_33 S S14 := Agr.tr a_S9 (Agr.sub (frX0_can_20_1 x S9 p1 p2 _ _ h11) (by decide))
              by_cases c15 : ¬ r13 = 0
              · rw [if_pos c15] at hm
                obtain ⟨o16, hm⟩ := oblk hm
                obtain ⟨o17, hm⟩ := oblk hm
                obtain ⟨o18, hm⟩ := oblk hm
                cases h19 : gfX1_keep_33 x S14 263 p1 (S14.2.1 7 p1.toNatClampNeg) (S14.2.1 8 p1.toNatClampNeg) (S14.2.1 10 p1.toNatClampNeg) with
                | none => rw [h19] at hm; cases hm
                | some q20 =>
                  obtain ⟨r21, S22⟩ := q20
                  rw [h19] at hm
                  dsimp only at hm
                  have a_S22 : Agr wX1_sendThrough_33 S S22 := Agr.tr a_S14 (Agr.sub (frX1_keep_33 x S14 263 p1 (S14.2.1 7 p1.toNatClampNeg) (S14.2.1 8 p1.toNatClampNeg) (S14.2.1 10 p1.toNatClampNeg) _ _ h19) (by decide))
                  cases h23 : gfX0_move_20_1 x S22 p1 p2 with
                  | none => rw [h23] at hm; cases hm
                  | some q24 =>
                    obtain ⟨r25, S26⟩ := q24
                    rw [h23] at hm
                    dsimp only at hm
                    have a_S26 : Agr wX1_sendThrough_33 S S26 := Agr.tr a_S22 (Agr.sub (frX0_move_20_1 x S22 p1 p2 _ _ h23) (by decide))
                    obtain ⟨o27, hm⟩ := oblk hm
                    cases hm
                    exact a_S26
              · rw [if_neg c15] at hm
                cases hm
                exact a_S14
          · rw [if_neg c10] at hm
            exact Agr.tr a_S9 (fbX1_sendThrough_33_22 x  S9 _ _ hm)
theorem frX1_sendThrough_33 (x : XT) (S : ST) (p1 : Int32) (p2 : Int32) (r : Int32) (S' : ST) (hm : gfX1_sendThrough_33 x S p1 p2 = some (r, S')) : Agr wX1_sendThrough_33 S S' := fbX1_sendThrough_33_0 x S p1 p2 r S' hm
def wX1_flip_33 : List (Nat × Nat) × List Nat × List Nat × List Nat := ([(33, 0)], [6, 34], [], [])
set_option maxHeartbeats 4000000 in
set_option maxRecDepth 20000 in
theorem fbX1_flip_33_68 (x : XT)  (S : ST) (t0 : Int32) (r : Int32) (S' : ST) (hm : bfX1_flip_33_68 x  S t0 = some (r, S')) : Agr wX1_flip_33 S S' := by
    unfold bfX1_flip_33_68 at hm
    cases hm
    exact Agr.rf
set_option maxHeartbeats 4000000 in
set_option maxRecDepth 20000 in
theorem fbX1_flip_33_50 (x : XT)  (S : ST) (v1 : Int32) (t1 : Int32) (t2 : Int32) (r : Int32) (S' : ST) (hm : bfX1_flip_33_50 x  S v1 t1 t2 = some (r, S')) : Agr wX1_flip_33 S S' := by
    unfold bfX1_flip_33_50 at hm
    obtain ⟨o1, hm⟩ := oblk hm
    obtain ⟨o2, hm⟩ := oblk hm
    by_cases c3 : ((u2 S.2.1 6 t1.toNatClampNeg (vp_nar .boolean t2)) 6 v1.toNatClampNeg) = 0
    · rw [if_pos c3] at hm
      exact Agr.tr (Agr.i Agr.rf 6 t1.toNatClampNeg (vp_nar .boolean t2) (by decide)) (fbX1_flip_33_68 x  (S.1, (u2 S.2.1 6 t1.toNatClampNeg (vp_nar .boolean t2)), S.2.2.1, S.2.2.2) 0 _ _ hm)
    · rw [if_neg c3] at hm
      exact Agr.tr (Agr.i Agr.rf 6 t1.toNatClampNeg (vp_nar .boolean t2) (by decide)) (fbX1_flip_33_68 x  (S.1, (u2 S.2.1 6 t1.toNatClampNeg (vp_nar .boolean t2)), S.2.2.1, S.2.2.2) 1 _ _ hm)
set_option maxHeartbeats 4000000 in
set_option maxRecDepth 20000 in
theorem fbX1_flip_33_0 (x : XT)  (S : ST) (p1 : Int32) (r : Int32) (S' : ST) (hm : bfX1_flip_33_0 x  S p1 = some (r, S')) : Agr wX1_flip_33 S S' := by
    unfold bfX1_flip_33_0 at hm
    cases h1 : gfX7_hasGate_1 x S p1 with
    | none => rw [h1] at hm; cases hm
    | some q2 =>
      obtain ⟨r3, S4⟩ := q2
      rw [h1] at hm
      dsimp only at hm
      have a_S4 : Agr wX1_flip_33 S S4 := Agr.tr Agr.rf (Agr.sub (frX7_hasGate_1 x S p1 _ _ h1) (by decide))
      by_cases c5 : ¬ r3 = 0
      · rw [if_pos c5] at hm
        cases h6 : gfX1_keep_33 x S4 264 p1 0 0 0 with
        | none => rw [h6] at hm; cases hm
        | some q7 =>
          obtain ⟨r8, S9⟩ := q7
          rw [h6] at hm
          dsimp only at hm
          have a_S9 : Agr wX1_flip_33 S S9 := Agr.tr a_S4 (Agr.sub (frX1_keep_33 x S4 264 p1 0 0 0 _ _ h6) (by decide))
          obtain ⟨o10, hm⟩ := oblk hm
          by_cases c11 : ¬ (S9.2.1 6 p1.toNatClampNeg) = 0
          · rw [if_pos c11] at hm
            exact Agr.tr a_S9 (fbX1_flip_33_50 x  S9 p1 p1 0 _ _ hm)
          · rw [if_neg c11] at hm
            exact Agr.tr a_S9 (fbX1_flip_33_50 x  S9 p1 p1 1 _ _ hm)
      · rw [if_neg c5] at hm
        cases hm
        exact a_S4
theorem frX1_flip_33 (x : XT) (S : ST) (p1 : Int32) (r : Int32) (S' : ST) (hm : gfX1_flip_33 x S p1 = some (r, S')) : Agr wX1_flip_33 S S' := fbX1_flip_33_0 x S p1 r S' hm
def wX1_changeArm_33 : List (Nat × Nat) × List Nat × List Nat × List Nat := ([(33, 0)], [5, 34], [], [])
set_option maxHeartbeats 4000000 in
set_option maxRecDepth 20000 in
theorem fbX1_changeArm_33_0 (x : XT)  (S : ST) (p1 : Int32) (p2 : Int32) (r : Int32) (S' : ST) (hm : bfX1_changeArm_33_0 x  S p1 p2 = some (r, S')) : Agr wX1_changeArm_33 S S' := by
    unfold bfX1_changeArm_33_0 at hm
    cases h1 : gfX10_within x S p2 10 with
    | none => rw [h1] at hm; cases hm
    | some q2 =>
      obtain ⟨r3, S4⟩ := q2
      rw [h1] at hm
      dsimp only at hm
      have a_S4 : Agr wX1_changeArm_33 S S4 := Agr.tr Agr.rf (Agr.sub (frX10_within x S p2 10 _ _ h1) (by decide))
      by_cases c5 : ¬ r3 = 0
      · rw [if_pos c5] at hm
        cases h6 : gfX7_hasGate_1 x S4 p1 with
        | none => rw [h6] at hm; cases hm
        | some q7 =>
          obtain ⟨r8, S9⟩ := q7
          rw [h6] at hm
          dsimp only at hm
          have a_S9 : Agr wX1_changeArm_33 S S9 := Agr.tr a_S4 (Agr.sub (frX7_hasGate_1 x S4 p1 _ _ h6) (by decide))
          by_cases c10 : ¬ r8 = 0
          · rw [if_pos c10] at hm
            obtain ⟨o11, hm⟩ := oblk hm
            by_cases c12 : ¬ (S9.2.1 5 p1.toNatClampNeg) = p2
            · rw [if_pos c12] at hm
              cases h13 : gfX1_keep_33 x S9 265 p1 (S9.2.1 5 p1.toNatClampNeg) 0 0 with
              | none => rw [h13] at hm; cases hm
              | some q14 =>
                obtain ⟨r15, S16⟩ := q14
                rw [h13] at hm
                dsimp only at hm
                have a_S16 : Agr wX1_changeArm_33 S S16 := Agr.tr a_S9 (Agr.sub (frX1_keep_33 x S9 265 p1 (S9.2.1 5 p1.toNatClampNeg) 0 0 _ _ h13) (by decide))
                obtain ⟨o17, hm⟩ := oblk hm
                cases hm
                exact (Agr.i a_S16 5 p1.toNatClampNeg p2 (by decide))
            · rw [if_neg c12] at hm
              cases hm
              exact a_S9
          · rw [if_neg c10] at hm
            cases hm
            exact a_S9
      · rw [if_neg c5] at hm
        cases hm
        exact a_S4
theorem frX1_changeArm_33 (x : XT) (S : ST) (p1 : Int32) (p2 : Int32) (r : Int32) (S' : ST) (hm : gfX1_changeArm_33 x S p1 p2 = some (r, S')) : Agr wX1_changeArm_33 S S' := fbX1_changeArm_33_0 x S p1 p2 r S' hm
def wX1_nextDay_33 : List (Nat × Nat) × List Nat × List Nat × List Nat := ([(33, 0)], [14, 34], [], [])
set_option maxHeartbeats 4000000 in
set_option maxRecDepth 20000 in
theorem fbX1_nextDay_33_0 (x : XT)  (S : ST)  (r : Int32) (S' : ST) (hm : bfX1_nextDay_33_0 x  S  = some (r, S')) : Agr wX1_nextDay_33 S S' := by
    unfold bfX1_nextDay_33_0 at hm
    by_cases c1 : (S.2.1 14 0) < 999
    · rw [if_pos c1] at hm
      cases h2 : gfX1_keep_33 x S 266 0 0 0 0 with
      | none => rw [h2] at hm; cases hm
      | some q3 =>
        obtain ⟨r4, S5⟩ := q3
        rw [h2] at hm
        dsimp only at hm
        have a_S5 : Agr wX1_nextDay_33 S S5 := Agr.tr Agr.rf (Agr.sub (frX1_keep_33 x S 266 0 0 0 0 _ _ h2) (by decide))
        cases hm
        exact (Agr.i a_S5 14 0 ((S5.2.1 14 0) + 1) (by decide))
    · rw [if_neg c1] at hm
      cases hm
      exact Agr.rf
theorem frX1_nextDay_33 (x : XT) (S : ST)  (r : Int32) (S' : ST) (hm : gfX1_nextDay_33 x S  = some (r, S')) : Agr wX1_nextDay_33 S S' := fbX1_nextDay_33_0 x S  r S' hm
def wX9_has_25 : List (Nat × Nat) × List Nat × List Nat × List Nat := ([], [], [], [])
set_option maxHeartbeats 4000000 in
set_option maxRecDepth 20000 in
theorem fbX9_has_25_30 (x : XT)  (S : ST) (t0 : Int32) (r : Int32) (S' : ST) (hm : bfX9_has_25_30 x  S t0 = some (r, S')) : Agr wX9_has_25 S S' := by
    unfold bfX9_has_25_30 at hm
    obtain ⟨o1, hm⟩ := oblk hm
    cases hm
    exact Agr.rf
set_option maxHeartbeats 4000000 in
set_option maxRecDepth 20000 in
theorem fbX9_has_25_0 (x : XT)  (S : ST) (p1 : Int32) (p2 : Int32) (r : Int32) (S' : ST) (hm : bfX9_has_25_0 x  S p1 p2 = some (r, S')) : Agr wX9_has_25 S S' := by
    unfold bfX9_has_25_0 at hm
    obtain ⟨o1, hm⟩ := oblk hm
    obtain ⟨o2, hm⟩ := oblk hm
    by_cases c3 : (S.2.1 28 ((((4 * p1) + p2) + 1).toNatClampNeg)) ≤ (S.2.1 28 (((4 * p1) + p2).toNatClampNeg))
    · rw [if_pos c3] at hm
      exact Agr.tr Agr.rf (fbX9_has_25_30 x  S 0 _ _ hm)
    · rw [if_neg c3] at hm
      exact Agr.tr Agr.rf (fbX9_has_25_30 x  S 1 _ _ hm)
theorem frX9_has_25 (x : XT) (S : ST) (p1 : Int32) (p2 : Int32) (r : Int32) (S' : ST) (hm : gfX9_has_25 x S p1 p2 = some (r, S')) : Agr wX9_has_25 S S' := fbX9_has_25_0 x S p1 p2 r S' hm
def wX9_reckon_25_52_53 : List (Nat × Nat) × List Nat × List Nat × List Nat := ([], [53], [], [])
set_option maxHeartbeats 4000000 in
set_option maxRecDepth 20000 in
theorem fbX9_reckon_25_52_53_298 (x : XT)  (S : ST) (t0 : Int32) (r : Int32) (S' : ST) (hm : bfX9_reckon_25_52_53_298 x  S t0 = some (r, S')) : Agr wX9_reckon_25_52_53 S S' := by
    unfold bfX9_reckon_25_52_53_298 at hm
    cases hm
    exact Agr.rf
set_option maxHeartbeats 4000000 in
set_option maxRecDepth 20000 in
theorem fbX9_reckon_25_52_53_111 (x : XT)  (S : ST)  (r : Int32) (S' : ST) (hm : bfX9_reckon_25_52_53_111 x  S  = some (r, S')) : Agr wX9_reckon_25_52_53 S S' := by
    unfold bfX9_reckon_25_52_53_111 at hm
    cases hm
    exact Agr.rf
set_option maxHeartbeats 4000000 in
set_option maxRecDepth 20000 in
theorem fbX9_reckon_25_52_53_278 (x : XT) (k36 : ST → Int32 → Int32 → Int32 → Option (Int32 × ST)) (ak36 : ∀ (S : ST) (v5 : Int32) (v6 : Int32) (v7 : Int32) (r : Int32) (S' : ST), k36 S v5 v6 v7 = some (r, S') → Agr wX9_reckon_25_52_53 S S') (S : ST) (v5 : Int32) (v6 : Int32) (v7 : Int32) (r : Int32) (S' : ST) (hm : bfX9_reckon_25_52_53_278 x k36 S v5 v6 v7 = some (r, S')) : Agr wX9_reckon_25_52_53 S S' := by
    unfold bfX9_reckon_25_52_53_278 at hm
    exact Agr.tr Agr.rf (ak36 S v5 v6 (v7 + 1) _ _ hm)
set_option maxHeartbeats 4000000 in
set_option maxRecDepth 20000 in
theorem fbX9_reckon_25_52_53_135 (x : XT) (k36 : ST → Int32 → Int32 → Int32 → Option (Int32 × ST)) (ak36 : ∀ (S : ST) (v5 : Int32) (v6 : Int32) (v7 : Int32) (r : Int32) (S' : ST), k36 S v5 v6 v7 = some (r, S') → Agr wX9_reckon_25_52_53 S S') (S : ST) (v5 : Int32) (v6 : Int32) (v7 : Int32) (t1 : Int32) (t2 : Int32) (r : Int32) (S' : ST) (hm : bfX9_reckon_25_52_53_135 x k36 S v5 v6 v7 t1 t2 = some (r, S')) : Agr wX9_reckon_25_52_53 S S' := by
    unfold bfX9_reckon_25_52_53_135 at hm
    obtain ⟨o1, hm⟩ := oblk hm
    exact Agr.tr (Agr.i Agr.rf 53 t1.toNatClampNeg t2 (by decide)) (fbX9_reckon_25_52_53_278 x k36 ak36 (S.1, (u2 S.2.1 53 t1.toNatClampNeg t2), S.2.2.1, S.2.2.2) v5 v6 v7 _ _ hm)
set_option maxHeartbeats 4000000 in
set_option maxRecDepth 20000 in
theorem fbX9_reckon_25_52_53_114 (x : XT) (k36 : ST → Int32 → Int32 → Int32 → Option (Int32 × ST)) (ak36 : ∀ (S : ST) (v5 : Int32) (v6 : Int32) (v7 : Int32) (r : Int32) (S' : ST), k36 S v5 v6 v7 = some (r, S') → Agr wX9_reckon_25_52_53 S S') (S : ST) (v5 : Int32) (v6 : Int32) (v7 : Int32) (v8 : Int32) (v9 : Int32) (r : Int32) (S' : ST) (hm : bfX9_reckon_25_52_53_114 x k36 S v5 v6 v7 v8 v9 = some (r, S')) : Agr wX9_reckon_25_52_53 S S' := by
    unfold bfX9_reckon_25_52_53_114 at hm
    by_cases c1 : ¬ v8 = 256
    · rw [if_pos c1] at hm
      obtain ⟨o2, hm⟩ := oblk hm
      exact Agr.tr Agr.rf (fbX9_reckon_25_52_53_135 x k36 ak36 S v5 v6 v7 v6 (S.2.1 52 v9.toNatClampNeg) _ _ hm)
    · rw [if_neg c1] at hm
      exact Agr.tr Agr.rf (fbX9_reckon_25_52_53_135 x k36 ak36 S v5 v6 v7 v6 v9 _ _ hm)
set_option maxHeartbeats 4000000 in
set_option maxRecDepth 20000 in
theorem fbX9_reckon_25_52_53_85 (x : XT) (k36 : ST → Int32 → Int32 → Int32 → Option (Int32 × ST)) (ak36 : ∀ (S : ST) (v5 : Int32) (v6 : Int32) (v7 : Int32) (r : Int32) (S' : ST), k36 S v5 v6 v7 = some (r, S') → Agr wX9_reckon_25_52_53 S S') (S : ST) (v5 : Int32) (v6 : Int32) (v7 : Int32) (v8 : Int32) (v9 : Int32) (r : Int32) (S' : ST) (hm : bfX9_reckon_25_52_53_85 x k36 S v5 v6 v7 v8 v9 = some (r, S')) : Agr wX9_reckon_25_52_53 S S' := by
    unfold bfX9_reckon_25_52_53_85 at hm
    by_cases c1 : 50 ≤ (v6 + 1)
    · rw [if_pos c1] at hm
      exact Agr.tr Agr.rf (fbX9_reckon_25_52_53_111 x  S _ _ hm)
    · rw [if_neg c1] at hm
      by_cases c2 : v9 < 24
      · rw [if_pos c2] at hm
        exact Agr.tr Agr.rf (fbX9_reckon_25_52_53_114 x k36 ak36 S v5 (v6 + 1) v7 v8 v9 _ _ hm)
      · rw [if_neg c2] at hm
        by_cases c3 : ¬ v8 = 259
        · rw [if_pos c3] at hm
          exact Agr.tr Agr.rf (fbX9_reckon_25_52_53_114 x k36 ak36 S v5 (v6 + 1) v7 v8 v9 _ _ hm)
        · rw [if_neg c3] at hm
          exact Agr.tr Agr.rf (fbX9_reckon_25_52_53_111 x  S _ _ hm)
set_option maxHeartbeats 4000000 in
set_option maxRecDepth 20000 in
theorem fbX9_reckon_25_52_53_204 (x : XT) (k36 : ST → Int32 → Int32 → Int32 → Option (Int32 × ST)) (ak36 : ∀ (S : ST) (v5 : Int32) (v6 : Int32) (v7 : Int32) (r : Int32) (S' : ST), k36 S v5 v6 v7 = some (r, S') → Agr wX9_reckon_25_52_53 S S') (S : ST) (v5 : Int32) (v6 : Int32) (v7 : Int32) (v9 : Int32) (t0 : Int32) (t1 : Int32) (r : Int32) (S' : ST) (hm : bfX9_reckon_25_52_53_204 x k36 S v5 v6 v7 v9 t0 t1 = some (r, S')) : Agr wX9_reckon_25_52_53 S S' := by
    unfold bfX9_reckon_25_52_53_204 at hm
    by_cases c1 : ¬ t0 = t1
    · rw [if_pos c1] at hm
      exact Agr.tr Agr.rf (fbX9_reckon_25_52_53_278 x k36 ak36 S v5 (v6 + (-1)) v7 _ _ hm)
    · rw [if_neg c1] at hm
      exact Agr.tr Agr.rf (fbX9_reckon_25_52_53_278 x k36 ak36 S v5 v6 (if v7 < (v9 - 1) then (v9 - 1) else v7) _ _ hm)
set_option maxHeartbeats 4000000 in
set_option maxRecDepth 20000 in
theorem fbX9_reckon_25_52_53_186 (x : XT) (k36 : ST → Int32 → Int32 → Int32 → Option (Int32 × ST)) (ak36 : ∀ (S : ST) (v5 : Int32) (v6 : Int32) (v7 : Int32) (r : Int32) (S' : ST), k36 S v5 v6 v7 = some (r, S') → Agr wX9_reckon_25_52_53 S S') (S : ST) (v5 : Int32) (v6 : Int32) (v7 : Int32) (v8 : Int32) (v9 : Int32) (r : Int32) (S' : ST) (hm : bfX9_reckon_25_52_53_186 x k36 S v5 v6 v7 v8 v9 = some (r, S')) : Agr wX9_reckon_25_52_53 S S' := by
    unfold bfX9_reckon_25_52_53_186 at hm
    obtain ⟨o1, hm⟩ := oblk hm
    by_cases c2 : ¬ v8 = 271
    · rw [if_pos c2] at hm
      exact Agr.tr Agr.rf (fbX9_reckon_25_52_53_204 x k36 ak36 S v5 v6 v7 v9 (S.2.1 53 v6.toNatClampNeg) 0 _ _ hm)
    · rw [if_neg c2] at hm
      exact Agr.tr Agr.rf (fbX9_reckon_25_52_53_204 x k36 ak36 S v5 v6 v7 v9 (S.2.1 53 v6.toNatClampNeg) 1 _ _ hm)
set_option maxHeartbeats 4000000 in
set_option maxRecDepth 20000 in
theorem fbX9_reckon_25_52_53_259 (x : XT) (k36 : ST → Int32 → Int32 → Int32 → Option (Int32 × ST)) (ak36 : ∀ (S : ST) (v5 : Int32) (v6 : Int32) (v7 : Int32) (r : Int32) (S' : ST), k36 S v5 v6 v7 = some (r, S') → Agr wX9_reckon_25_52_53 S S') (S : ST) (v5 : Int32) (v6 : Int32) (v7 : Int32) (t0 : Int32) (r : Int32) (S' : ST) (hm : bfX9_reckon_25_52_53_259 x k36 S v5 v6 v7 t0 = some (r, S')) : Agr wX9_reckon_25_52_53 S S' := by
    unfold bfX9_reckon_25_52_53_259 at hm
    by_cases c1 : ¬ t0 = (-2000000000)
    · rw [if_pos c1] at hm
      obtain ⟨o2, hm⟩ := oblk hm
      exact Agr.tr (Agr.i Agr.rf 53 v6.toNatClampNeg t0 (by decide)) (fbX9_reckon_25_52_53_278 x k36 ak36 (S.1, (u2 S.2.1 53 v6.toNatClampNeg t0), S.2.2.1, S.2.2.2) v5 v6 v7 _ _ hm)
    · rw [if_neg c1] at hm
      cases hm
      exact Agr.rf
set_option maxHeartbeats 4000000 in
set_option maxRecDepth 20000 in
theorem fbX9_reckon_25_52_53_36 (x : XT) (k36 : ST → Int32 → Int32 → Int32 → Option (Int32 × ST)) (ak36 : ∀ (S : ST) (v5 : Int32) (v6 : Int32) (v7 : Int32) (r : Int32) (S' : ST), k36 S v5 v6 v7 = some (r, S') → Agr wX9_reckon_25_52_53 S S') (S : ST) (v5 : Int32) (v6 : Int32) (v7 : Int32) (r : Int32) (S' : ST) (hm : bfX9_reckon_25_52_53_36 x k36 S v5 v6 v7 = some (r, S')) : Agr wX9_reckon_25_52_53 S S' := by
    unfold bfX9_reckon_25_52_53_36 at hm
    by_cases c1 : v5 ≤ v7
    · rw [if_pos c1] at hm
      by_cases c2 : ¬ v6 = 0
      · rw [if_pos c2] at hm
        exact Agr.tr Agr.rf (fbX9_reckon_25_52_53_298 x  S (-2000000000) _ _ hm)
      · rw [if_neg c2] at hm
        exact Agr.tr Agr.rf (fbX9_reckon_25_52_53_298 x  S (S.2.1 53 0) _ _ hm)
    · rw [if_neg c1] at hm
      obtain ⟨o3, hm⟩ := oblk hm
      obtain ⟨o4, hm⟩ := oblk hm
      by_cases c5 : ((S.2.1 29 v7.toNatClampNeg) - (S.2.1 29 v7.toNatClampNeg) / 512 * 512) = 256
      · rw [if_pos c5] at hm
        exact Agr.tr Agr.rf (fbX9_reckon_25_52_53_85 x k36 ak36 S v5 v6 v7 ((S.2.1 29 v7.toNatClampNeg) - (S.2.1 29 v7.toNatClampNeg) / 512 * 512) ((S.2.1 29 v7.toNatClampNeg) / 512) _ _ hm)
      · rw [if_neg c5] at hm
        by_cases c6 : ¬ ((S.2.1 29 v7.toNatClampNeg) - (S.2.1 29 v7.toNatClampNeg) / 512 * 512) = 259
        · rw [if_pos c6] at hm
          by_cases c7 : 0 ≤ v6
          · rw [if_pos c7] at hm
            by_cases c8 : ¬ ((S.2.1 29 v7.toNatClampNeg) - (S.2.1 29 v7.toNatClampNeg) / 512 * 512) = 273
            · rw [if_pos c8] at hm
              by_cases c9 : ((S.2.1 29 v7.toNatClampNeg) - (S.2.1 29 v7.toNatClampNeg) / 512 * 512) = 271
              · rw [if_pos c9] at hm
                exact Agr.tr Agr.rf (fbX9_reckon_25_52_53_186 x k36 ak36 S v5 v6 v7 ((S.2.1 29 v7.toNatClampNeg) - (S.2.1 29 v7.toNatClampNeg) / 512 * 512) ((S.2.1 29 v7.toNatClampNeg) / 512) _ _ hm)
              · rw [if_neg c9] at hm
                by_cases c10 : ¬ ((S.2.1 29 v7.toNatClampNeg) - (S.2.1 29 v7.toNatClampNeg) / 512 * 512) = 272
                · rw [if_pos c10] at hm
                  by_cases c11 : 0 ≤ (v6 + (-1))
                  · rw [if_pos c11] at hm
                    obtain ⟨o12, hm⟩ := oblk hm
                    obtain ⟨o13, hm⟩ := oblk hm
                    cases h14 : gfX9_join x S ((S.2.1 29 v7.toNatClampNeg) - (S.2.1 29 v7.toNatClampNeg) / 512 * 512) ((S.2.1 53 ((v6 + (-1)).toNatClampNeg)).toInt64) ((S.2.1 53 (((v6 + (-1)) + 1).toNatClampNeg)).toInt64) with
                    | none => rw [h14] at hm; cases hm
                    | some q15 =>
                      obtain ⟨r16, S17⟩ := q15
                      rw [h14] at hm
                      dsimp only at hm
                      have a_S17 : Agr wX9_reckon_25_52_53 S S17 := Agr.tr Agr.rf (Agr.sub (frX9_join x S ((S.2.1 29 v7.toNatClampNeg) - (S.2.1 29 v7.toNatClampNeg) / 512 * 512) ((S.2.1 53 ((v6 + (-1)).toNatClampNeg)).toInt64) ((S.2.1 53 (((v6 + (-1)) + 1).toNatClampNeg)).toInt64) _ _ h14) (by decide))
                      exact Agr.tr a_S17 (fbX9_reckon_25_52_53_259 x k36 ak36 S17 v5 (v6 + (-1)) v7 r16 _ _ hm)
                  · rw [if_neg c11] at hm
                    exact Agr.tr Agr.rf (fbX9_reckon_25_52_53_259 x k36 ak36 S v5 (v6 + (-1)) v7 (-2000000000) _ _ hm)
                · rw [if_neg c10] at hm
                  exact Agr.tr Agr.rf (fbX9_reckon_25_52_53_186 x k36 ak36 S v5 v6 v7 ((S.2.1 29 v7.toNatClampNeg) - (S.2.1 29 v7.toNatClampNeg) / 512 * 512) ((S.2.1 29 v7.toNatClampNeg) / 512) _ _ hm)
            · rw [if_neg c8] at hm
              obtain ⟨o18, hm⟩ := oblk hm
              obtain ⟨o19, hm⟩ := oblk hm
              exact Agr.tr (Agr.i Agr.rf 53 v6.toNatClampNeg (1 - (S.2.1 53 v6.toNatClampNeg)) (by decide)) (fbX9_reckon_25_52_53_278 x k36 ak36 (S.1, (u2 S.2.1 53 v6.toNatClampNeg (1 - (S.2.1 53 v6.toNatClampNeg))), S.2.2.1, S.2.2.2) v5 v6 v7 _ _ hm)
          · rw [if_neg c7] at hm
            cases hm
            exact Agr.rf
        · rw [if_neg c6] at hm
          exact Agr.tr Agr.rf (fbX9_reckon_25_52_53_85 x k36 ak36 S v5 v6 v7 ((S.2.1 29 v7.toNatClampNeg) - (S.2.1 29 v7.toNatClampNeg) / 512 * 512) ((S.2.1 29 v7.toNatClampNeg) / 512) _ _ hm)
theorem flX9_reckon_25_52_53_36 (x : XT)  : ∀ (n : Nat) (S : ST) (v5 : Int32) (v6 : Int32) (v7 : Int32) (r : Int32) (S' : ST), lfX9_reckon_25_52_53_36 x  n S v5 v6 v7 = some (r, S') → Agr wX9_reckon_25_52_53 S S'
  | 0, _, _, _, _, _, _, hm => by cases hm
  | n + 1, S, v5, v6, v7, r, S', hm => fbX9_reckon_25_52_53_36 x (lfX9_reckon_25_52_53_36 x  n) (flX9_reckon_25_52_53_36 x  n) S v5 v6 v7 r S' hm
set_option maxHeartbeats 4000000 in
set_option maxRecDepth 20000 in
theorem fbX9_reckon_25_52_53_0 (x : XT)  (S : ST) (p1 : Int32) (p2 : Int32) (r : Int32) (S' : ST) (hm : bfX9_reckon_25_52_53_0 x  S p1 p2 = some (r, S')) : Agr wX9_reckon_25_52_53 S S' := by
    unfold bfX9_reckon_25_52_53_0 at hm
    obtain ⟨o1, hm⟩ := oblk hm
    obtain ⟨o2, hm⟩ := oblk hm
    exact Agr.tr Agr.rf (flX9_reckon_25_52_53_36 x  20000 S (if (S.1 25 1) < (S.2.1 28 ((((4 * p1) + p2) + 1).toNatClampNeg)) then (S.1 25 1) else (S.2.1 28 ((((4 * p1) + p2) + 1).toNatClampNeg))) (-1) (S.2.1 28 (((4 * p1) + p2).toNatClampNeg)) _ _ hm)
theorem frX9_reckon_25_52_53 (x : XT) (S : ST) (p1 : Int32) (p2 : Int32) (r : Int32) (S' : ST) (hm : gfX9_reckon_25_52_53 x S p1 p2 = some (r, S')) : Agr wX9_reckon_25_52_53 S S' := fbX9_reckon_25_52_53_0 x S p1 p2 r S' hm
end FRA
