section FRA
def wX10_within : List (Nat × Nat) × List Nat × List Nat × List Nat := ([], [], [], [])
set_option maxHeartbeats 4000000 in
set_option maxRecDepth 20000 in
theorem fbX10_within_14 (x : XT)  (S : ST) (t0 : Int32) (r : Int32) (S' : ST) (hm : bfX10_within_14 x  S t0 = some (r, S')) : Agr wX10_within S S' := by
    unfold bfX10_within_14 at hm
    obtain ⟨o1, hm⟩ := oblk hm
    cases hm
    exact Agr.rf
set_option maxHeartbeats 4000000 in
set_option maxRecDepth 20000 in
theorem fbX10_within_13 (x : XT)  (S : ST)  (r : Int32) (S' : ST) (hm : bfX10_within_13 x  S  = some (r, S')) : Agr wX10_within S S' := by
    unfold bfX10_within_13 at hm
    exact Agr.tr Agr.rf (fbX10_within_14 x  S 0 _ _ hm)
set_option maxHeartbeats 4000000 in
set_option maxRecDepth 20000 in
theorem fbX10_within_0 (x : XT)  (S : ST) (p0 : Int32) (p1 : Int32) (r : Int32) (S' : ST) (hm : bfX10_within_0 x  S p0 p1 = some (r, S')) : Agr wX10_within S S' := by
    unfold bfX10_within_0 at hm
    by_cases c1 : p0 < 0
    · rw [if_pos c1] at hm
      exact Agr.tr Agr.rf (fbX10_within_13 x  S _ _ hm)
    · rw [if_neg c1] at hm
      by_cases c2 : p1 ≤ p0
      · rw [if_pos c2] at hm
        exact Agr.tr Agr.rf (fbX10_within_13 x  S _ _ hm)
      · rw [if_neg c2] at hm
        exact Agr.tr Agr.rf (fbX10_within_14 x  S 1 _ _ hm)
theorem frX10_within (x : XT) (S : ST) (p0 : Int32) (p1 : Int32) (r : Int32) (S' : ST) (hm : gfX10_within x S p0 p1 = some (r, S')) : Agr wX10_within S S' := fbX10_within_0 x S p0 p1 r S' hm
def wX7_addGate_1 : List (Nat × Nat) × List Nat × List Nat × List Nat := ([(1, 0)], [2, 3, 4, 5, 6], [], [])
set_option maxHeartbeats 4000000 in
set_option maxRecDepth 20000 in
theorem fbX7_addGate_1_37 (x : XT)  (S : ST)  (r : Int32) (S' : ST) (hm : bfX7_addGate_1_37 x  S  = some (r, S')) : Agr wX7_addGate_1 S S' := by
    unfold bfX7_addGate_1_37 at hm
    cases hm
    exact Agr.rf
set_option maxHeartbeats 4000000 in
set_option maxRecDepth 20000 in
theorem fbX7_addGate_1_0 (x : XT)  (S : ST) (p1 : Int32) (p2 : Int32) (p3 : Int32) (p4 : Int32) (r : Int32) (S' : ST) (hm : bfX7_addGate_1_0 x  S p1 p2 p3 p4 = some (r, S')) : Agr wX7_addGate_1 S S' := by
    unfold bfX7_addGate_1_0 at hm
    cases h1 : gfX10_within x S p1 6 with
    | none => rw [h1] at hm; cases hm
    | some q2 =>
      obtain ⟨r3, S4⟩ := q2
      rw [h1] at hm
      dsimp only at hm
      have a_S4 : Agr wX7_addGate_1 S S4 := Agr.tr Agr.rf (Agr.sub (frX10_within x S p1 6 _ _ h1) (by decide))
      by_cases c5 : r3 = 0
      · rw [if_pos c5] at hm
        exact Agr.tr a_S4 (fbX7_addGate_1_37 x  S4 _ _ hm)
      · rw [if_neg c5] at hm
        cases h6 : gfX10_within x S4 p2 6 with
        | none => rw [h6] at hm; cases hm
        | some q7 =>
          obtain ⟨r8, S9⟩ := q7
          rw [h6] at hm
          dsimp only at hm
          have a_S9 : Agr wX7_addGate_1 S S9 := Agr.tr a_S4 (Agr.sub (frX10_within x S4 p2 6 _ _ h6) (by decide))
          by_cases c10 : r8 = 0
          · rw [if_pos c10] at hm
            exact Agr.tr a_S9 (fbX7_addGate_1_37 x  S9 _ _ hm)
          · rw [if_neg c10] at hm
            cases h11 : gfX10_within x S9 p3 8 with
            | none => rw [h11] at hm; cases hm
            | some q12 =>
              obtain ⟨r13, S14⟩ := q12
              rw [h11] at hm
              dsimp only at hm
              have a_S14 : Agr wX7_addGate_1 S S14 := Agr.tr a_S9 (Agr.sub (frX10_within x S9 p3 8 _ _ h11) (by decide))
              by_cases c15 : r13 = 0
              · rw [if_pos c15] at hm
                exact Agr.tr a_S14 (fbX7_addGate_1_37 x  S14 _ _ hm)
              · rw [if_neg c15] at hm
                cases h16 : gfX10_within x S14 p4 10 with
                | none => rw [h16] at hm; cases hm
                | some q17 =>
                  obtain ⟨r18, S19⟩ := q17
                  rw [h16] at hm
                  dsimp only at hm
                  have a_S19 : Agr wX7_addGate_1 S S19 := Agr.tr a_S14 (Agr.sub (frX10_within x S14 p4 10 _ _ h16) (by decide))
                  by_cases c20 : ¬ r18 = 0
                  · rw [if_pos c20] at hm
                    by_cases c21 : (S19.1 1 0) < 10
                    · rw [if_pos c21] at hm
                      obtain ⟨o22, hm⟩ := oblk hm
                      obtain ⟨o23, hm⟩ := oblk hm
                      obtain ⟨o24, hm⟩ := oblk hm
                      obtain ⟨o25, hm⟩ := oblk hm
                      obtain ⟨o26, hm⟩ := oblk hm
                      cases hm
                      exact (Agr.i (Agr.i (Agr.i (Agr.i (Agr.i (Agr.f a_S19 1 0 ((S19.1 1 0) + 1) (by decide)) 2 ((S19.1 1 0).toNatClampNeg) p1 (by decide)) 3 ((S19.1 1 0).toNatClampNeg) p2 (by decide)) 4 ((S19.1 1 0).toNatClampNeg) p3 (by decide)) 5 ((S19.1 1 0).toNatClampNeg) p4 (by decide)) 6 ((S19.1 1 0).toNatClampNeg) (vp_nar .boolean 1) (by decide))
                    · rw [if_neg c21] at hm
                      cases hm
                      exact a_S19
                  · rw [if_neg c20] at hm
                    exact Agr.tr a_S19 (fbX7_addGate_1_37 x  S19 _ _ hm)
theorem frX7_addGate_1 (x : XT) (S : ST) (p1 : Int32) (p2 : Int32) (p3 : Int32) (p4 : Int32) (r : Int32) (S' : ST) (hm : gfX7_addGate_1 x S p1 p2 p3 p4 = some (r, S')) : Agr wX7_addGate_1 S S' := fbX7_addGate_1_0 x S p1 p2 p3 p4 r S' hm
def wX10_told_0 : List (Nat × Nat) × List Nat × List Nat × List Nat := ([(0, 12)], [99], [], [])
set_option maxHeartbeats 4000000 in
set_option maxRecDepth 20000 in
theorem fbX10_told_0_30 (x : XT)  (S : ST) (v1 : Int32) (r : Int32) (S' : ST) (hm : bfX10_told_0_30 x  S v1 = some (r, S')) : Agr wX10_told_0 S S' := by
    unfold bfX10_told_0_30 at hm
    cases hm
    exact Agr.rf
set_option maxHeartbeats 4000000 in
set_option maxRecDepth 20000 in
theorem fbX10_told_0_0 (x : XT)  (S : ST) (p1 : Int32) (r : Int32) (S' : ST) (hm : bfX10_told_0_0 x  S p1 = some (r, S')) : Agr wX10_told_0 S S' := by
    unfold bfX10_told_0_0 at hm
    by_cases c1 : 0 ≤ p1
    · rw [if_pos c1] at hm
      exact Agr.tr (Agr.f Agr.rf 0 12 (if 0 < p1 then 0 else p1) (by decide)) (fbX10_told_0_30 x  ((u2 S.1 0 12 (if 0 < p1 then 0 else p1)), S.2.1, S.2.2.1, S.2.2.2) p1 _ _ hm)
    · rw [if_neg c1] at hm
      by_cases c2 : p1 ≤ (-7)
      · rw [if_pos c2] at hm
        exact Agr.tr (Agr.f Agr.rf 0 12 (if 0 < p1 then 0 else p1) (by decide)) (fbX10_told_0_30 x  ((u2 S.1 0 12 (if 0 < p1 then 0 else p1)), S.2.1, S.2.2.1, S.2.2.2) p1 _ _ hm)
      · rw [if_neg c2] at hm
        obtain ⟨o3, hm⟩ := oblk hm
        obtain ⟨o4, hm⟩ := oblk hm
        exact Agr.tr (Agr.i (Agr.f Agr.rf 0 12 (if 0 < p1 then 0 else p1) (by decide)) 99 ((-p1).toNatClampNeg) ((S.2.1 99 ((-p1).toNatClampNeg)) + 1) (by decide)) (fbX10_told_0_30 x  ((u2 S.1 0 12 (if 0 < p1 then 0 else p1)), (u2 S.2.1 99 ((-p1).toNatClampNeg) ((S.2.1 99 ((-p1).toNatClampNeg)) + 1)), S.2.2.1, S.2.2.2) p1 _ _ hm)
theorem frX10_told_0 (x : XT) (S : ST) (p1 : Int32) (r : Int32) (S' : ST) (hm : gfX10_told_0 x S p1 = some (r, S')) : Agr wX10_told_0 S S' := fbX10_told_0_0 x S p1 r S' hm
def wX10_toldAnew_0 : List (Nat × Nat) × List Nat × List Nat × List Nat := ([(0, 12), (33, 0)], [99], [], [])
set_option maxHeartbeats 4000000 in
set_option maxRecDepth 20000 in
theorem fbX10_toldAnew_0_12 (x : XT)  (S : ST) (v1 : Int32) (r : Int32) (S' : ST) (hm : bfX10_toldAnew_0_12 x  S v1 = some (r, S')) : Agr wX10_toldAnew_0 S S' := by
    unfold bfX10_toldAnew_0_12 at hm
    cases h1 : gfX10_told_0 x S v1 with
    | none => rw [h1] at hm; cases hm
    | some q2 =>
      obtain ⟨r3, S4⟩ := q2
      rw [h1] at hm
      dsimp only at hm
      have a_S4 : Agr wX10_toldAnew_0 S S4 := Agr.tr Agr.rf (Agr.sub (frX10_told_0 x S v1 _ _ h1) (by decide))
      cases hm
      exact a_S4
set_option maxHeartbeats 4000000 in
set_option maxRecDepth 20000 in
theorem fbX10_toldAnew_0_0 (x : XT)  (S : ST) (p1 : Int32) (r : Int32) (S' : ST) (hm : bfX10_toldAnew_0_0 x  S p1 = some (r, S')) : Agr wX10_toldAnew_0 S S' := by
    unfold bfX10_toldAnew_0_0 at hm
    by_cases c1 : p1 < 0
    · rw [if_pos c1] at hm
      exact Agr.tr Agr.rf (fbX10_toldAnew_0_12 x  S p1 _ _ hm)
    · rw [if_neg c1] at hm
      exact Agr.tr (Agr.f Agr.rf 33 0 0 (by decide)) (fbX10_toldAnew_0_12 x  ((u2 S.1 33 0 0), S.2.1, S.2.2.1, S.2.2.2) p1 _ _ hm)
theorem frX10_toldAnew_0 (x : XT) (S : ST) (p1 : Int32) (r : Int32) (S' : ST) (hm : gfX10_toldAnew_0 x S p1 = some (r, S')) : Agr wX10_toldAnew_0 S S' := fbX10_toldAnew_0_0 x S p1 r S' hm
def wX10_gate_0 : List (Nat × Nat) × List Nat × List Nat × List Nat := ([(0, 12), (1, 0), (33, 0)], [2, 3, 4, 5, 6, 99], [], [])
set_option maxHeartbeats 4000000 in
set_option maxRecDepth 20000 in
theorem fbX10_gate_0_0 (x : XT)  (S : ST) (p1 : Int32) (p2 : Int32) (p3 : Int32) (p4 : Int32) (r : Int32) (S' : ST) (hm : bfX10_gate_0_0 x  S p1 p2 p3 p4 = some (r, S')) : Agr wX10_gate_0 S S' := by
    unfold bfX10_gate_0_0 at hm
    cases h1 : gfX7_addGate_1 x S p1 p2 p3 p4 with
    | none => rw [h1] at hm; cases hm
    | some q2 =>
      obtain ⟨r3, S4⟩ := q2
      rw [h1] at hm
      dsimp only at hm
      have a_S4 : Agr wX10_gate_0 S S4 := Agr.tr Agr.rf (Agr.sub (frX7_addGate_1 x S p1 p2 p3 p4 _ _ h1) (by decide))
      cases h5 : gfX10_toldAnew_0 x S4 r3 with
      | none => rw [h5] at hm; cases hm
      | some q6 =>
        obtain ⟨r7, S8⟩ := q6
        rw [h5] at hm
        dsimp only at hm
        have a_S8 : Agr wX10_gate_0 S S8 := Agr.tr a_S4 (Agr.sub (frX10_toldAnew_0 x S4 r3 _ _ h5) (by decide))
        cases hm
        exact a_S8
theorem frX10_gate_0 (x : XT) (S : ST) (p1 : Int32) (p2 : Int32) (p3 : Int32) (p4 : Int32) (r : Int32) (S' : ST) (hm : gfX10_gate_0 x S p1 p2 p3 p4 = some (r, S')) : Agr wX10_gate_0 S S' := fbX10_gate_0_0 x S p1 p2 p3 p4 r S' hm
def wX7_hasGate_1 : List (Nat × Nat) × List Nat × List Nat × List Nat := ([], [], [], [])
set_option maxHeartbeats 4000000 in
set_option maxRecDepth 20000 in
theorem fbX7_hasGate_1_17 (x : XT)  (S : ST) (t0 : Int32) (r : Int32) (S' : ST) (hm : bfX7_hasGate_1_17 x  S t0 = some (r, S')) : Agr wX7_hasGate_1 S S' := by
    unfold bfX7_hasGate_1_17 at hm
    obtain ⟨o1, hm⟩ := oblk hm
    cases hm
    exact Agr.rf
set_option maxHeartbeats 4000000 in
set_option maxRecDepth 20000 in
theorem fbX7_hasGate_1_16 (x : XT)  (S : ST)  (r : Int32) (S' : ST) (hm : bfX7_hasGate_1_16 x  S  = some (r, S')) : Agr wX7_hasGate_1 S S' := by
    unfold bfX7_hasGate_1_16 at hm
    exact Agr.tr Agr.rf (fbX7_hasGate_1_17 x  S 0 _ _ hm)
set_option maxHeartbeats 4000000 in
set_option maxRecDepth 20000 in
theorem fbX7_hasGate_1_0 (x : XT)  (S : ST) (p1 : Int32) (r : Int32) (S' : ST) (hm : bfX7_hasGate_1_0 x  S p1 = some (r, S')) : Agr wX7_hasGate_1 S S' := by
    unfold bfX7_hasGate_1_0 at hm
    by_cases c1 : p1 < 0
    · rw [if_pos c1] at hm
      exact Agr.tr Agr.rf (fbX7_hasGate_1_16 x  S _ _ hm)
    · rw [if_neg c1] at hm
      by_cases c2 : (S.1 1 0) ≤ p1
      · rw [if_pos c2] at hm
        exact Agr.tr Agr.rf (fbX7_hasGate_1_16 x  S _ _ hm)
      · rw [if_neg c2] at hm
        exact Agr.tr Agr.rf (fbX7_hasGate_1_17 x  S 1 _ _ hm)
theorem frX7_hasGate_1 (x : XT) (S : ST) (p1 : Int32) (r : Int32) (S' : ST) (hm : gfX7_hasGate_1 x S p1 = some (r, S')) : Agr wX7_hasGate_1 S S' := fbX7_hasGate_1_0 x S p1 r S' hm
def wX10_at_0 : List (Nat × Nat) × List Nat × List Nat × List Nat := ([], [], [], [])
set_option maxHeartbeats 4000000 in
set_option maxRecDepth 20000 in
theorem fbX10_at_0_105 (x : XT)  (S : ST) (t0 : Int32) (r : Int32) (S' : ST) (hm : bfX10_at_0_105 x  S t0 = some (r, S')) : Agr wX10_at_0 S S' := by
    unfold bfX10_at_0_105 at hm
    cases hm
    exact Agr.rf
set_option maxHeartbeats 4000000 in
set_option maxRecDepth 20000 in
theorem fbX10_at_0_0 (x : XT)  (S : ST) (p1 : Int32) (p2 : Int32) (r : Int32) (S' : ST) (hm : bfX10_at_0_0 x  S p1 p2 = some (r, S')) : Agr wX10_at_0 S S' := by
    unfold bfX10_at_0_0 at hm
    cases h1 : gfX7_hasGate_1 x S p1 with
    | none => rw [h1] at hm; cases hm
    | some q2 =>
      obtain ⟨r3, S4⟩ := q2
      rw [h1] at hm
      dsimp only at hm
      have a_S4 : Agr wX10_at_0 S S4 := Agr.tr Agr.rf (Agr.sub (frX7_hasGate_1 x S p1 _ _ h1) (by decide))
      by_cases c5 : ¬ r3 = 0
      · rw [if_pos c5] at hm
        by_cases c6 : p2 = 0
        · rw [if_pos c6] at hm
          obtain ⟨o7, hm⟩ := oblk hm
          cases hm
          exact a_S4
        rw [if_neg c6] at hm
        by_cases c8 : p2 = 1
        · rw [if_pos c8] at hm
          obtain ⟨o9, hm⟩ := oblk hm
          cases hm
          exact a_S4
        rw [if_neg c8] at hm
        by_cases c10 : p2 = 2
        · rw [if_pos c10] at hm
          obtain ⟨o11, hm⟩ := oblk hm
          cases hm
          exact a_S4
        rw [if_neg c10] at hm
        by_cases c12 : p2 = 3
        · rw [if_pos c12] at hm
          obtain ⟨o13, hm⟩ := oblk hm
          cases hm
          exact a_S4
        rw [if_neg c12] at hm
        by_cases c14 : p2 = 4
        · rw [if_pos c14] at hm
          obtain ⟨o15, hm⟩ := oblk hm
          by_cases c16 : (S4.2.1 6 p1.toNatClampNeg) = 0
          · rw [if_pos c16] at hm
            exact Agr.tr a_S4 (fbX10_at_0_105 x  S4 0 _ _ hm)
          · rw [if_neg c16] at hm
            exact Agr.tr a_S4 (fbX10_at_0_105 x  S4 1 _ _ hm)
        rw [if_neg c14] at hm
        cases hm
        exact a_S4
      · rw [if_neg c5] at hm
        cases hm
        exact a_S4
theorem frX10_at_0 (x : XT) (S : ST) (p1 : Int32) (p2 : Int32) (r : Int32) (S' : ST) (hm : gfX10_at_0 x S p1 p2 = some (r, S')) : Agr wX10_at_0 S S' := fbX10_at_0_0 x S p1 p2 r S' hm
def wX7_addGoer_1 : List (Nat × Nat) × List Nat × List Nat × List Nat := ([(1, 6)], [7, 8, 9, 10], [], [])
set_option maxHeartbeats 4000000 in
set_option maxRecDepth 20000 in
theorem fbX7_addGoer_1_26 (x : XT)  (S : ST)  (r : Int32) (S' : ST) (hm : bfX7_addGoer_1_26 x  S  = some (r, S')) : Agr wX7_addGoer_1 S S' := by
    unfold bfX7_addGoer_1_26 at hm
    cases hm
    exact Agr.rf
set_option maxHeartbeats 4000000 in
set_option maxRecDepth 20000 in
theorem fbX7_addGoer_1_0 (x : XT)  (S : ST) (p1 : Int32) (p2 : Int32) (p3 : Int32) (r : Int32) (S' : ST) (hm : bfX7_addGoer_1_0 x  S p1 p2 p3 = some (r, S')) : Agr wX7_addGoer_1 S S' := by
    unfold bfX7_addGoer_1_0 at hm
    cases h1 : gfX10_within x S p1 6 with
    | none => rw [h1] at hm; cases hm
    | some q2 =>
      obtain ⟨r3, S4⟩ := q2
      rw [h1] at hm
      dsimp only at hm
      have a_S4 : Agr wX7_addGoer_1 S S4 := Agr.tr Agr.rf (Agr.sub (frX10_within x S p1 6 _ _ h1) (by decide))
      by_cases c5 : r3 = 0
      · rw [if_pos c5] at hm
        exact Agr.tr a_S4 (fbX7_addGoer_1_26 x  S4 _ _ hm)
      · rw [if_neg c5] at hm
        cases h6 : gfX10_within x S4 p2 20 with
        | none => rw [h6] at hm; cases hm
        | some q7 =>
          obtain ⟨r8, S9⟩ := q7
          rw [h6] at hm
          dsimp only at hm
          have a_S9 : Agr wX7_addGoer_1 S S9 := Agr.tr a_S4 (Agr.sub (frX10_within x S4 p2 20 _ _ h6) (by decide))
          by_cases c10 : r8 = 0
          · rw [if_pos c10] at hm
            exact Agr.tr a_S9 (fbX7_addGoer_1_26 x  S9 _ _ hm)
          · rw [if_neg c10] at hm
            cases h11 : gfX10_within x S9 p3 4 with
            | none => rw [h11] at hm; cases hm
            | some q12 =>
              obtain ⟨r13, S14⟩ := q12
              rw [h11] at hm
              dsimp only at hm
              have a_S14 : Agr wX7_addGoer_1 S S14 := Agr.tr a_S9 (Agr.sub (frX10_within x S9 p3 4 _ _ h11) (by decide))
              by_cases c15 : ¬ r13 = 0
              · rw [if_pos c15] at hm
                by_cases c16 : (S14.1 1 6) < 5
                · rw [if_pos c16] at hm
                  obtain ⟨o17, hm⟩ := oblk hm
                  obtain ⟨o18, hm⟩ := oblk hm
                  obtain ⟨o19, hm⟩ := oblk hm
                  obtain ⟨o20, hm⟩ := oblk hm
                  cases hm
                  exact (Agr.i (Agr.i (Agr.i (Agr.i (Agr.f a_S14 1 6 ((S14.1 1 6) + 1) (by decide)) 7 ((S14.1 1 6).toNatClampNeg) p1 (by decide)) 8 ((S14.1 1 6).toNatClampNeg) p2 (by decide)) 9 ((S14.1 1 6).toNatClampNeg) p3 (by decide)) 10 ((S14.1 1 6).toNatClampNeg) 0 (by decide))
                · rw [if_neg c16] at hm
                  cases hm
                  exact a_S14
              · rw [if_neg c15] at hm
                exact Agr.tr a_S14 (fbX7_addGoer_1_26 x  S14 _ _ hm)
theorem frX7_addGoer_1 (x : XT) (S : ST) (p1 : Int32) (p2 : Int32) (p3 : Int32) (r : Int32) (S' : ST) (hm : gfX7_addGoer_1 x S p1 p2 p3 = some (r, S')) : Agr wX7_addGoer_1 S S' := fbX7_addGoer_1_0 x S p1 p2 p3 r S' hm
def wX10_goer_0 : List (Nat × Nat) × List Nat × List Nat × List Nat := ([(0, 12), (1, 6), (33, 0)], [7, 8, 9, 10, 99], [], [])
set_option maxHeartbeats 4000000 in
set_option maxRecDepth 20000 in
theorem fbX10_goer_0_0 (x : XT)  (S : ST) (p1 : Int32) (p2 : Int32) (p3 : Int32) (r : Int32) (S' : ST) (hm : bfX10_goer_0_0 x  S p1 p2 p3 = some (r, S')) : Agr wX10_goer_0 S S' := by
    unfold bfX10_goer_0_0 at hm
    cases h1 : gfX7_addGoer_1 x S p1 p2 p3 with
    | none => rw [h1] at hm; cases hm
    | some q2 =>
      obtain ⟨r3, S4⟩ := q2
      rw [h1] at hm
      dsimp only at hm
      have a_S4 : Agr wX10_goer_0 S S4 := Agr.tr Agr.rf (Agr.sub (frX7_addGoer_1 x S p1 p2 p3 _ _ h1) (by decide))
      cases h5 : gfX10_toldAnew_0 x S4 r3 with
      | none => rw [h5] at hm; cases hm
      | some q6 =>
        obtain ⟨r7, S8⟩ := q6
        rw [h5] at hm
        dsimp only at hm
        have a_S8 : Agr wX10_goer_0 S S8 := Agr.tr a_S4 (Agr.sub (frX10_toldAnew_0 x S4 r3 _ _ h5) (by decide))
        cases hm
        exact a_S8
theorem frX10_goer_0 (x : XT) (S : ST) (p1 : Int32) (p2 : Int32) (p3 : Int32) (r : Int32) (S' : ST) (hm : gfX10_goer_0 x S p1 p2 p3 = some (r, S')) : Agr wX10_goer_0 S S' := fbX10_goer_0_0 x S p1 p2 p3 r S' hm
def wX7_hasGoer_1 : List (Nat × Nat) × List Nat × List Nat × List Nat := ([], [], [], [])
set_option maxHeartbeats 4000000 in
set_option maxRecDepth 20000 in
theorem fbX7_hasGoer_1_17 (x : XT)  (S : ST) (t0 : Int32) (r : Int32) (S' : ST) (hm : bfX7_hasGoer_1_17 x  S t0 = some (r, S')) : Agr wX7_hasGoer_1 S S' := by
    unfold bfX7_hasGoer_1_17 at hm
    obtain ⟨o1, hm⟩ := oblk hm
    cases hm
    exact Agr.rf
set_option maxHeartbeats 4000000 in
set_option maxRecDepth 20000 in
theorem fbX7_hasGoer_1_16 (x : XT)  (S : ST)  (r : Int32) (S' : ST) (hm : bfX7_hasGoer_1_16 x  S  = some (r, S')) : Agr wX7_hasGoer_1 S S' := by
    unfold bfX7_hasGoer_1_16 at hm
    exact Agr.tr Agr.rf (fbX7_hasGoer_1_17 x  S 0 _ _ hm)
set_option maxHeartbeats 4000000 in
set_option maxRecDepth 20000 in
theorem fbX7_hasGoer_1_0 (x : XT)  (S : ST) (p1 : Int32) (r : Int32) (S' : ST) (hm : bfX7_hasGoer_1_0 x  S p1 = some (r, S')) : Agr wX7_hasGoer_1 S S' := by
    unfold bfX7_hasGoer_1_0 at hm
    by_cases c1 : p1 < 0
    · rw [if_pos c1] at hm
      exact Agr.tr Agr.rf (fbX7_hasGoer_1_16 x  S _ _ hm)
    · rw [if_neg c1] at hm
      by_cases c2 : (S.1 1 6) ≤ p1
      · rw [if_pos c2] at hm
        exact Agr.tr Agr.rf (fbX7_hasGoer_1_16 x  S _ _ hm)
      · rw [if_neg c2] at hm
        exact Agr.tr Agr.rf (fbX7_hasGoer_1_17 x  S 1 _ _ hm)
theorem frX7_hasGoer_1 (x : XT) (S : ST) (p1 : Int32) (r : Int32) (S' : ST) (hm : gfX7_hasGoer_1 x S p1 = some (r, S')) : Agr wX7_hasGoer_1 S S' := fbX7_hasGoer_1_0 x S p1 r S' hm
def wX0_regardUnknown_20_1 : List (Nat × Nat) × List Nat × List Nat × List Nat := ([], [21], [], [])
set_option maxHeartbeats 4000000 in
set_option maxRecDepth 20000 in
theorem fbX0_regardUnknown_20_1_0 (x : XT)  (S : ST) (p2 : Int32) (p3 : Int32) (p4 : Int32) (r : Unit) (S' : ST) (hm : bfX0_regardUnknown_20_1_0 x  S p2 p3 p4 = some (r, S')) : Agr wX0_regardUnknown_20_1 S S' := by
    unfold bfX0_regardUnknown_20_1_0 at hm
    cases hm
    exact (Agr.i (Agr.i (Agr.i (Agr.i (Agr.i (Agr.i (Agr.i (Agr.i Agr.rf 21 0 p2 (by decide)) 21 1 p3 (by decide)) 21 2 p4 (by decide)) 21 3 0 (by decide)) 21 4 (-1) (by decide)) 21 5 (-1) (by decide)) 21 6 (S.2.1 14 0) (by decide)) 21 7 (S.2.1 14 2) (by decide))
theorem frX0_regardUnknown_20_1 (x : XT) (S : ST) (p2 : Int32) (p3 : Int32) (p4 : Int32) (r : Unit) (S' : ST) (hm : gfX0_regardUnknown_20_1 x S p2 p3 p4 = some (r, S')) : Agr wX0_regardUnknown_20_1 S S' := fbX0_regardUnknown_20_1_0 x S p2 p3 p4 r S' hm
def wX0_regard_20_1 : List (Nat × Nat) × List Nat × List Nat × List Nat := ([], [21], [], [])
set_option maxHeartbeats 4000000 in
set_option maxRecDepth 20000 in
theorem fbX0_regard_20_1_0 (x : XT)  (S : ST) (p2 : Int32) (p3 : Int32) (p4 : Int32) (r : Unit) (S' : ST) (hm : bfX0_regard_20_1_0 x  S p2 p3 p4 = some (r, S')) : Agr wX0_regard_20_1 S S' := by
    unfold bfX0_regard_20_1_0 at hm
    obtain ⟨o1, hm⟩ := oblk hm
    obtain ⟨o2, hm⟩ := oblk hm
    cases h3 : gfX0_regardUnknown_20_1 x S (S.2.1 4 p3.toNatClampNeg) (S.2.1 5 p3.toNatClampNeg) p4 with
    | none => rw [h3] at hm; cases hm
    | some q4 =>
      obtain ⟨r5, S6⟩ := q4
      rw [h3] at hm
      dsimp only at hm
      have a_S6 : Agr wX0_regard_20_1 S S6 := Agr.tr Agr.rf (Agr.sub (frX0_regardUnknown_20_1 x S (S.2.1 4 p3.toNatClampNeg) (S.2.1 5 p3.toNatClampNeg) p4 _ _ h3) (by decide))
      obtain ⟨o7, hm⟩ := oblk hm
      cases hm
      exact (Agr.i (Agr.i (Agr.i a_S6 21 3 (S6.2.1 9 p2.toNatClampNeg) (by decide)) 21 4 p3 (by decide)) 21 5 p2 (by decide))
theorem frX0_regard_20_1 (x : XT) (S : ST) (p2 : Int32) (p3 : Int32) (p4 : Int32) (r : Unit) (S' : ST) (hm : gfX0_regard_20_1 x S p2 p3 p4 = some (r, S')) : Agr wX0_regard_20_1 S S' := fbX0_regard_20_1_0 x S p2 p3 p4 r S' hm
def wX9_join : List (Nat × Nat) × List Nat × List Nat × List Nat := ([], [], [], [])
set_option maxHeartbeats 4000000 in
set_option maxRecDepth 20000 in
theorem fbX9_join_199 (x : XT)  (S : ST) (t0 : Int32) (r : Int32) (S' : ST) (hm : bfX9_join_199 x  S t0 = some (r, S')) : Agr wX9_join S S' := by
    unfold bfX9_join_199 at hm
    cases hm
    exact Agr.rf
set_option maxHeartbeats 4000000 in
set_option maxRecDepth 20000 in
theorem fbX9_join_191 (x : XT)  (S : ST)  (r : Int32) (S' : ST) (hm : bfX9_join_191 x  S  = some (r, S')) : Agr wX9_join S S' := by
    unfold bfX9_join_191 at hm
    exact Agr.tr Agr.rf (fbX9_join_199 x  S (-2000000000) _ _ hm)
set_option maxHeartbeats 4000000 in
set_option maxRecDepth 20000 in
theorem fbX9_join_173 (x : XT)  (S : ST) (v5 : Int64) (r : Int32) (S' : ST) (hm : bfX9_join_173 x  S v5 = some (r, S')) : Agr wX9_join S S' := by
    unfold bfX9_join_173 at hm
    by_cases c1 : (lg_cmp v5 (-1000000000)) < 0
    · rw [if_pos c1] at hm
      exact Agr.tr Agr.rf (fbX9_join_191 x  S _ _ hm)
    · rw [if_neg c1] at hm
      by_cases c2 : (lg_cmp v5 1000000000) ≤ 0
      · rw [if_pos c2] at hm
        exact Agr.tr Agr.rf (fbX9_join_199 x  S v5.toInt32 _ _ hm)
      · rw [if_neg c2] at hm
        exact Agr.tr Agr.rf (fbX9_join_191 x  S _ _ hm)
set_option maxHeartbeats 4000000 in
set_option maxRecDepth 20000 in
theorem fbX9_join_139 (x : XT)  (S : ST) (t0 : Int64) (r : Int32) (S' : ST) (hm : bfX9_join_139 x  S t0 = some (r, S')) : Agr wX9_join S S' := by
    unfold bfX9_join_139 at hm
    exact Agr.tr Agr.rf (fbX9_join_173 x  S t0 _ _ hm)
set_option maxHeartbeats 4000000 in
set_option maxRecDepth 20000 in
theorem fbX9_join_155 (x : XT)  (S : ST) (t0 : Int64) (r : Int32) (S' : ST) (hm : bfX9_join_155 x  S t0 = some (r, S')) : Agr wX9_join S S' := by
    unfold bfX9_join_155 at hm
    exact Agr.tr Agr.rf (fbX9_join_173 x  S t0 _ _ hm)
set_option maxHeartbeats 4000000 in
set_option maxRecDepth 20000 in
theorem fbX9_join_171 (x : XT)  (S : ST) (t0 : Int64) (r : Int32) (S' : ST) (hm : bfX9_join_171 x  S t0 = some (r, S')) : Agr wX9_join S S' := by
    unfold bfX9_join_171 at hm
    exact Agr.tr Agr.rf (fbX9_join_173 x  S t0 _ _ hm)
set_option maxHeartbeats 4000000 in
set_option maxRecDepth 20000 in
theorem fbX9_join_21 (x : XT)  (S : ST) (v0 : Int32) (v1 : Int64) (v3 : Int64) (r : Int32) (S' : ST) (hm : bfX9_join_21 x  S v0 v1 v3 = some (r, S')) : Agr wX9_join S S' := by
    unfold bfX9_join_21 at hm
    by_cases c1 : v0 = 37
    · rw [if_pos c1] at hm
      obtain ⟨o2, hm⟩ := oblk hm
      exact Agr.tr Agr.rf (fbX9_join_173 x  S (v1 - v1 / v3 * v3) _ _ hm)
    rw [if_neg c1] at hm
    by_cases c3 : v0 = 42
    · rw [if_pos c3] at hm
      exact Agr.tr Agr.rf (fbX9_join_173 x  S (v1 * v3) _ _ hm)
    rw [if_neg c3] at hm
    by_cases c4 : v0 = 43
    · rw [if_pos c4] at hm
      exact Agr.tr Agr.rf (fbX9_join_173 x  S (v1 + v3) _ _ hm)
    rw [if_neg c4] at hm
    by_cases c5 : v0 = 45
    · rw [if_pos c5] at hm
      exact Agr.tr Agr.rf (fbX9_join_173 x  S (v1 - v3) _ _ hm)
    rw [if_neg c5] at hm
    by_cases c6 : v0 = 47
    · rw [if_pos c6] at hm
      obtain ⟨o7, hm⟩ := oblk hm
      exact Agr.tr Agr.rf (fbX9_join_173 x  S (v1 / v3) _ _ hm)
    rw [if_neg c6] at hm
    by_cases c8 : v0 = 60
    · rw [if_pos c8] at hm
      by_cases c9 : 0 ≤ (lg_cmp v1 v3)
      · rw [if_pos c9] at hm
        exact Agr.tr Agr.rf (fbX9_join_139 x  S 0 _ _ hm)
      · rw [if_neg c9] at hm
        exact Agr.tr Agr.rf (fbX9_join_139 x  S 1 _ _ hm)
    rw [if_neg c8] at hm
    by_cases c10 : v0 = 62
    · rw [if_pos c10] at hm
      by_cases c11 : (lg_cmp v1 v3) ≤ 0
      · rw [if_pos c11] at hm
        exact Agr.tr Agr.rf (fbX9_join_155 x  S 0 _ _ hm)
      · rw [if_neg c11] at hm
        exact Agr.tr Agr.rf (fbX9_join_155 x  S 1 _ _ hm)
    rw [if_neg c10] at hm
    by_cases c12 : ¬ (lg_cmp v1 v3) = 0
    · rw [if_pos c12] at hm
      exact Agr.tr Agr.rf (fbX9_join_171 x  S 0 _ _ hm)
    · rw [if_neg c12] at hm
      exact Agr.tr Agr.rf (fbX9_join_171 x  S 1 _ _ hm)
set_option maxHeartbeats 4000000 in
set_option maxRecDepth 20000 in
theorem fbX9_join_12 (x : XT)  (S : ST) (v0 : Int32) (v1 : Int64) (v3 : Int64) (r : Int32) (S' : ST) (hm : bfX9_join_12 x  S v0 v1 v3 = some (r, S')) : Agr wX9_join S S' := by
    unfold bfX9_join_12 at hm
    by_cases c1 : ¬ (lg_cmp v3 0) = 0
    · rw [if_pos c1] at hm
      exact Agr.tr Agr.rf (fbX9_join_21 x  S v0 v1 v3 _ _ hm)
    · rw [if_neg c1] at hm
      cases hm
      exact Agr.rf
set_option maxHeartbeats 4000000 in
set_option maxRecDepth 20000 in
theorem fbX9_join_0 (x : XT)  (S : ST) (p0 : Int32) (p1 : Int64) (p3 : Int64) (r : Int32) (S' : ST) (hm : bfX9_join_0 x  S p0 p1 p3 = some (r, S')) : Agr wX9_join S S' := by
    unfold bfX9_join_0 at hm
    by_cases c1 : p0 = 47
    · rw [if_pos c1] at hm
      exact Agr.tr Agr.rf (fbX9_join_12 x  S p0 p1 p3 _ _ hm)
    · rw [if_neg c1] at hm
      by_cases c2 : ¬ p0 = 37
      · rw [if_pos c2] at hm
        exact Agr.tr Agr.rf (fbX9_join_21 x  S p0 p1 p3 _ _ hm)
      · rw [if_neg c2] at hm
        exact Agr.tr Agr.rf (fbX9_join_12 x  S p0 p1 p3 _ _ hm)
theorem frX9_join (x : XT) (S : ST) (p0 : Int32) (p1 : Int64) (p3 : Int64) (r : Int32) (S' : ST) (hm : gfX9_join x S p0 p1 p3 = some (r, S')) : Agr wX9_join S S' := fbX9_join_0 x S p0 p1 p3 r S' hm
def wX9_reckon_T_21_22 : List (Nat × Nat) × List Nat × List Nat × List Nat := ([], [22], [], [])
set_option maxHeartbeats 4000000 in
set_option maxRecDepth 20000 in
theorem fbX9_reckon_T_21_22_298 (x : XT)  (S : ST) (t0 : Int32) (r : Int32) (S' : ST) (hm : bfX9_reckon_T_21_22_298 x  S t0 = some (r, S')) : Agr wX9_reckon_T_21_22 S S' := by
    unfold bfX9_reckon_T_21_22_298 at hm
    cases hm
    exact Agr.rf
set_option maxHeartbeats 4000000 in
set_option maxRecDepth 20000 in
theorem fbX9_reckon_T_21_22_111 (x : XT)  (S : ST)  (r : Int32) (S' : ST) (hm : bfX9_reckon_T_21_22_111 x  S  = some (r, S')) : Agr wX9_reckon_T_21_22 S S' := by
    unfold bfX9_reckon_T_21_22_111 at hm
    cases hm
    exact Agr.rf
set_option maxHeartbeats 4000000 in
set_option maxRecDepth 20000 in
theorem fbX9_reckon_T_21_22_278 (x : XT) (k36 : ST → Nat → Int32 → Int32 → Int32 → Option (Int32 × ST)) (ak36 : ∀ (S : ST) (v0 : Nat) (v5 : Int32) (v6 : Int32) (v7 : Int32) (r : Int32) (S' : ST), k36 S v0 v5 v6 v7 = some (r, S') → Agr wX9_reckon_T_21_22 S S') (S : ST) (v0 : Nat) (v5 : Int32) (v6 : Int32) (v7 : Int32) (r : Int32) (S' : ST) (hm : bfX9_reckon_T_21_22_278 x k36 S v0 v5 v6 v7 = some (r, S')) : Agr wX9_reckon_T_21_22 S S' := by
    unfold bfX9_reckon_T_21_22_278 at hm
    obtain ⟨o1, hm⟩ := oblk hm
    exact Agr.tr Agr.rf (ak36 S v0 v5 v6 (v7 + 1) _ _ hm)
set_option maxHeartbeats 4000000 in
set_option maxRecDepth 20000 in
theorem fbX9_reckon_T_21_22_135 (x : XT) (k36 : ST → Nat → Int32 → Int32 → Int32 → Option (Int32 × ST)) (ak36 : ∀ (S : ST) (v0 : Nat) (v5 : Int32) (v6 : Int32) (v7 : Int32) (r : Int32) (S' : ST), k36 S v0 v5 v6 v7 = some (r, S') → Agr wX9_reckon_T_21_22 S S') (S : ST) (v0 : Nat) (v5 : Int32) (v6 : Int32) (v7 : Int32) (t1 : Int32) (t2 : Int32) (r : Int32) (S' : ST) (hm : bfX9_reckon_T_21_22_135 x k36 S v0 v5 v6 v7 t1 t2 = some (r, S')) : Agr wX9_reckon_T_21_22 S S' := by
    unfold bfX9_reckon_T_21_22_135 at hm
    obtain ⟨o1, hm⟩ := oblk hm
    obtain ⟨o2, hm⟩ := oblk hm
    exact Agr.tr (Agr.i Agr.rf 22 t1.toNatClampNeg t2 (by decide)) (fbX9_reckon_T_21_22_278 x k36 ak36 (S.1, (u2 S.2.1 22 t1.toNatClampNeg t2), S.2.2.1, S.2.2.2) v0 v5 v6 v7 _ _ hm)
set_option maxHeartbeats 4000000 in
set_option maxRecDepth 20000 in
theorem fbX9_reckon_T_21_22_114 (x : XT) (k36 : ST → Nat → Int32 → Int32 → Int32 → Option (Int32 × ST)) (ak36 : ∀ (S : ST) (v0 : Nat) (v5 : Int32) (v6 : Int32) (v7 : Int32) (r : Int32) (S' : ST), k36 S v0 v5 v6 v7 = some (r, S') → Agr wX9_reckon_T_21_22 S S') (S : ST) (v0 : Nat) (v5 : Int32) (v6 : Int32) (v7 : Int32) (v8 : Int32) (v9 : Int32) (r : Int32) (S' : ST) (hm : bfX9_reckon_T_21_22_114 x k36 S v0 v5 v6 v7 v8 v9 = some (r, S')) : Agr wX9_reckon_T_21_22 S S' := by
    unfold bfX9_reckon_T_21_22_114 at hm
    obtain ⟨o1, hm⟩ := oblk hm
    by_cases c2 : ¬ v8 = 256
    · rw [if_pos c2] at hm
      obtain ⟨o3, hm⟩ := oblk hm
      exact Agr.tr Agr.rf (fbX9_reckon_T_21_22_135 x k36 ak36 S v0 v5 v6 v7 v6 (S.2.1 21 v9.toNatClampNeg) _ _ hm)
    · rw [if_neg c2] at hm
      exact Agr.tr Agr.rf (fbX9_reckon_T_21_22_135 x k36 ak36 S v0 v5 v6 v7 v6 v9 _ _ hm)
set_option maxHeartbeats 4000000 in
set_option maxRecDepth 20000 in
theorem fbX9_reckon_T_21_22_85 (x : XT) (k36 : ST → Nat → Int32 → Int32 → Int32 → Option (Int32 × ST)) (ak36 : ∀ (S : ST) (v0 : Nat) (v5 : Int32) (v6 : Int32) (v7 : Int32) (r : Int32) (S' : ST), k36 S v0 v5 v6 v7 = some (r, S') → Agr wX9_reckon_T_21_22 S S') (S : ST) (v0 : Nat) (v5 : Int32) (v6 : Int32) (v7 : Int32) (v8 : Int32) (v9 : Int32) (r : Int32) (S' : ST) (hm : bfX9_reckon_T_21_22_85 x k36 S v0 v5 v6 v7 v8 v9 = some (r, S')) : Agr wX9_reckon_T_21_22 S S' := by
    unfold bfX9_reckon_T_21_22_85 at hm
    obtain ⟨o1, hm⟩ := oblk hm
    by_cases c2 : 50 ≤ (v6 + 1)
    · rw [if_pos c2] at hm
      exact Agr.tr Agr.rf (fbX9_reckon_T_21_22_111 x  S _ _ hm)
    · rw [if_neg c2] at hm
      by_cases c3 : v9 < 8
      · rw [if_pos c3] at hm
        exact Agr.tr Agr.rf (fbX9_reckon_T_21_22_114 x k36 ak36 S v0 v5 (v6 + 1) v7 v8 v9 _ _ hm)
      · rw [if_neg c3] at hm
        by_cases c4 : ¬ v8 = 259
        · rw [if_pos c4] at hm
          exact Agr.tr Agr.rf (fbX9_reckon_T_21_22_114 x k36 ak36 S v0 v5 (v6 + 1) v7 v8 v9 _ _ hm)
        · rw [if_neg c4] at hm
          exact Agr.tr Agr.rf (fbX9_reckon_T_21_22_111 x  S _ _ hm)
set_option maxHeartbeats 4000000 in
set_option maxRecDepth 20000 in
theorem fbX9_reckon_T_21_22_204 (x : XT) (k36 : ST → Nat → Int32 → Int32 → Int32 → Option (Int32 × ST)) (ak36 : ∀ (S : ST) (v0 : Nat) (v5 : Int32) (v6 : Int32) (v7 : Int32) (r : Int32) (S' : ST), k36 S v0 v5 v6 v7 = some (r, S') → Agr wX9_reckon_T_21_22 S S') (S : ST) (v0 : Nat) (v5 : Int32) (v6 : Int32) (v7 : Int32) (v9 : Int32) (t0 : Int32) (t1 : Int32) (r : Int32) (S' : ST) (hm : bfX9_reckon_T_21_22_204 x k36 S v0 v5 v6 v7 v9 t0 t1 = some (r, S')) : Agr wX9_reckon_T_21_22 S S' := by
    unfold bfX9_reckon_T_21_22_204 at hm
    obtain ⟨o1, hm⟩ := oblk hm
    by_cases c2 : ¬ t0 = t1
    · rw [if_pos c2] at hm
      exact Agr.tr Agr.rf (fbX9_reckon_T_21_22_278 x k36 ak36 S v0 v5 (v6 + (-1)) v7 _ _ hm)
    · rw [if_neg c2] at hm
      exact Agr.tr Agr.rf (fbX9_reckon_T_21_22_278 x k36 ak36 S v0 v5 v6 (if v7 < (v9 - 1) then (v9 - 1) else v7) _ _ hm)
set_option maxHeartbeats 4000000 in
set_option maxRecDepth 20000 in
theorem fbX9_reckon_T_21_22_186 (x : XT) (k36 : ST → Nat → Int32 → Int32 → Int32 → Option (Int32 × ST)) (ak36 : ∀ (S : ST) (v0 : Nat) (v5 : Int32) (v6 : Int32) (v7 : Int32) (r : Int32) (S' : ST), k36 S v0 v5 v6 v7 = some (r, S') → Agr wX9_reckon_T_21_22 S S') (S : ST) (v0 : Nat) (v5 : Int32) (v6 : Int32) (v7 : Int32) (v8 : Int32) (v9 : Int32) (r : Int32) (S' : ST) (hm : bfX9_reckon_T_21_22_186 x k36 S v0 v5 v6 v7 v8 v9 = some (r, S')) : Agr wX9_reckon_T_21_22 S S' := by
    unfold bfX9_reckon_T_21_22_186 at hm
    obtain ⟨o1, hm⟩ := oblk hm
    obtain ⟨o2, hm⟩ := oblk hm
    by_cases c3 : ¬ v8 = 271
    · rw [if_pos c3] at hm
      exact Agr.tr Agr.rf (fbX9_reckon_T_21_22_204 x k36 ak36 S v0 v5 v6 v7 v9 (S.2.1 22 v6.toNatClampNeg) 0 _ _ hm)
    · rw [if_neg c3] at hm
      exact Agr.tr Agr.rf (fbX9_reckon_T_21_22_204 x k36 ak36 S v0 v5 v6 v7 v9 (S.2.1 22 v6.toNatClampNeg) 1 _ _ hm)
set_option maxHeartbeats 4000000 in
set_option maxRecDepth 20000 in
theorem fbX9_reckon_T_21_22_259 (x : XT) (k36 : ST → Nat → Int32 → Int32 → Int32 → Option (Int32 × ST)) (ak36 : ∀ (S : ST) (v0 : Nat) (v5 : Int32) (v6 : Int32) (v7 : Int32) (r : Int32) (S' : ST), k36 S v0 v5 v6 v7 = some (r, S') → Agr wX9_reckon_T_21_22 S S') (S : ST) (v0 : Nat) (v5 : Int32) (v6 : Int32) (v7 : Int32) (t0 : Int32) (r : Int32) (S' : ST) (hm : bfX9_reckon_T_21_22_259 x k36 S v0 v5 v6 v7 t0 = some (r, S')) : Agr wX9_reckon_T_21_22 S S' := by
    unfold bfX9_reckon_T_21_22_259 at hm
    obtain ⟨o1, hm⟩ := oblk hm
    by_cases c2 : ¬ t0 = (-2000000000)
    · rw [if_pos c2] at hm
      obtain ⟨o3, hm⟩ := oblk hm
      exact Agr.tr (Agr.i Agr.rf 22 v6.toNatClampNeg t0 (by decide)) (fbX9_reckon_T_21_22_278 x k36 ak36 (S.1, (u2 S.2.1 22 v6.toNatClampNeg t0), S.2.2.1, S.2.2.2) v0 v5 v6 v7 _ _ hm)
    · rw [if_neg c2] at hm
      cases hm
      exact Agr.rf
set_option maxHeartbeats 4000000 in
set_option maxRecDepth 20000 in
theorem fbX9_reckon_T_21_22_36 (x : XT) (k36 : ST → Nat → Int32 → Int32 → Int32 → Option (Int32 × ST)) (ak36 : ∀ (S : ST) (v0 : Nat) (v5 : Int32) (v6 : Int32) (v7 : Int32) (r : Int32) (S' : ST), k36 S v0 v5 v6 v7 = some (r, S') → Agr wX9_reckon_T_21_22 S S') (S : ST) (v0 : Nat) (v5 : Int32) (v6 : Int32) (v7 : Int32) (r : Int32) (S' : ST) (hm : bfX9_reckon_T_21_22_36 x k36 S v0 v5 v6 v7 = some (r, S')) : Agr wX9_reckon_T_21_22 S S' := by
    unfold bfX9_reckon_T_21_22_36 at hm
    obtain ⟨o1, hm⟩ := oblk hm
    by_cases c2 : v5 ≤ v7
    · rw [if_pos c2] at hm
      by_cases c3 : ¬ v6 = 0
      · rw [if_pos c3] at hm
        exact Agr.tr Agr.rf (fbX9_reckon_T_21_22_298 x  S (-2000000000) _ _ hm)
      · rw [if_neg c3] at hm
        exact Agr.tr Agr.rf (fbX9_reckon_T_21_22_298 x  S (S.2.1 22 0) _ _ hm)
    · rw [if_neg c2] at hm
      obtain ⟨o4, hm⟩ := oblk hm
      obtain ⟨o5, hm⟩ := oblk hm
      by_cases c6 : ((S.2.1 (v0 + 4) v7.toNatClampNeg) - (S.2.1 (v0 + 4) v7.toNatClampNeg) / 512 * 512) = 256
      · rw [if_pos c6] at hm
        exact Agr.tr Agr.rf (fbX9_reckon_T_21_22_85 x k36 ak36 S v0 v5 v6 v7 ((S.2.1 (v0 + 4) v7.toNatClampNeg) - (S.2.1 (v0 + 4) v7.toNatClampNeg) / 512 * 512) ((S.2.1 (v0 + 4) v7.toNatClampNeg) / 512) _ _ hm)
      · rw [if_neg c6] at hm
        by_cases c7 : ¬ ((S.2.1 (v0 + 4) v7.toNatClampNeg) - (S.2.1 (v0 + 4) v7.toNatClampNeg) / 512 * 512) = 259
        · rw [if_pos c7] at hm
          by_cases c8 : 0 ≤ v6
          · rw [if_pos c8] at hm
            by_cases c9 : ¬ ((S.2.1 (v0 + 4) v7.toNatClampNeg) - (S.2.1 (v0 + 4) v7.toNatClampNeg) / 512 * 512) = 273
            · rw [if_pos c9] at hm
              by_cases c10 : ((S.2.1 (v0 + 4) v7.toNatClampNeg) - (S.2.1 (v0 + 4) v7.toNatClampNeg) / 512 * 512) = 271
              · rw [if_pos c10] at hm
                exact Agr.tr Agr.rf (fbX9_reckon_T_21_22_186 x k36 ak36 S v0 v5 v6 v7 ((S.2.1 (v0 + 4) v7.toNatClampNeg) - (S.2.1 (v0 + 4) v7.toNatClampNeg) / 512 * 512) ((S.2.1 (v0 + 4) v7.toNatClampNeg) / 512) _ _ hm)
              · rw [if_neg c10] at hm
                by_cases c11 : ¬ ((S.2.1 (v0 + 4) v7.toNatClampNeg) - (S.2.1 (v0 + 4) v7.toNatClampNeg) / 512 * 512) = 272
                · rw [if_pos c11] at hm
                  by_cases c12 : 0 ≤ (v6 + (-1))
                  · rw [if_pos c12] at hm
                    obtain ⟨o13, hm⟩ := oblk hm
                    obtain ⟨o14, hm⟩ := oblk hm
                    cases h15 : gfX9_join x S ((S.2.1 (v0 + 4) v7.toNatClampNeg) - (S.2.1 (v0 + 4) v7.toNatClampNeg) / 512 * 512) ((S.2.1 22 ((v6 + (-1)).toNatClampNeg)).toInt64) ((S.2.1 22 (((v6 + (-1)) + 1).toNatClampNeg)).toInt64) with
                    | none => rw [h15] at hm; cases hm
                    | some q16 =>
                      obtain ⟨r17, S18⟩ := q16
                      rw [h15] at hm
                      dsimp only at hm
                      have a_S18 : Agr wX9_reckon_T_21_22 S S18 := Agr.tr Agr.rf (Agr.sub (frX9_join x S ((S.2.1 (v0 + 4) v7.toNatClampNeg) - (S.2.1 (v0 + 4) v7.toNatClampNeg) / 512 * 512) ((S.2.1 22 ((v6 + (-1)).toNatClampNeg)).toInt64) ((S.2.1 22 (((v6 + (-1)) + 1).toNatClampNeg)).toInt64) _ _ h15) (by decide))
                      exact Agr.tr a_S18 (fbX9_reckon_T_21_22_259 x k36 ak36 S18 v0 v5 (v6 + (-1)) v7 r17 _ _ hm)
                  · rw [if_neg c12] at hm
                    exact Agr.tr Agr.rf (fbX9_reckon_T_21_22_259 x k36 ak36 S v0 v5 (v6 + (-1)) v7 (-2000000000) _ _ hm)
                · rw [if_neg c11] at hm
                  exact Agr.tr Agr.rf (fbX9_reckon_T_21_22_186 x k36 ak36 S v0 v5 v6 v7 ((S.2.1 (v0 + 4) v7.toNatClampNeg) - (S.2.1 (v0 + 4) v7.toNatClampNeg) / 512 * 512) ((S.2.1 (v0 + 4) v7.toNatClampNeg) / 512) _ _ hm)
            · rw [if_neg c9] at hm
              obtain ⟨o19, hm⟩ := oblk hm
              obtain ⟨o20, hm⟩ := oblk hm
              exact Agr.tr (Agr.i Agr.rf 22 v6.toNatClampNeg (1 - (S.2.1 22 v6.toNatClampNeg)) (by decide)) (fbX9_reckon_T_21_22_278 x k36 ak36 (S.1, (u2 S.2.1 22 v6.toNatClampNeg (1 - (S.2.1 22 v6.toNatClampNeg))), S.2.2.1, S.2.2.2) v0 v5 v6 v7 _ _ hm)
          · rw [if_neg c8] at hm
            cases hm
            exact Agr.rf
        · rw [if_neg c7] at hm
          exact Agr.tr Agr.rf (fbX9_reckon_T_21_22_85 x k36 ak36 S v0 v5 v6 v7 ((S.2.1 (v0 + 4) v7.toNatClampNeg) - (S.2.1 (v0 + 4) v7.toNatClampNeg) / 512 * 512) ((S.2.1 (v0 + 4) v7.toNatClampNeg) / 512) _ _ hm)
theorem flX9_reckon_T_21_22_36 (x : XT)  : ∀ (n : Nat) (S : ST) (v0 : Nat) (v5 : Int32) (v6 : Int32) (v7 : Int32) (r : Int32) (S' : ST), lfX9_reckon_T_21_22_36 x  n S v0 v5 v6 v7 = some (r, S') → Agr wX9_reckon_T_21_22 S S'
  | 0, _, _, _, _, _, _, _, hm => by cases hm
  | n + 1, S, v0, v5, v6, v7, r, S', hm => fbX9_reckon_T_21_22_36 x (lfX9_reckon_T_21_22_36 x  n) (flX9_reckon_T_21_22_36 x  n) S v0 v5 v6 v7 r S' hm
set_option maxHeartbeats 4000000 in
set_option maxRecDepth 20000 in
theorem fbX9_reckon_T_21_22_0 (x : XT)  (S : ST) (p0 : Nat) (p1 : Int32) (p2 : Int32) (r : Int32) (S' : ST) (hm : bfX9_reckon_T_21_22_0 x  S p0 p1 p2 = some (r, S')) : Agr wX9_reckon_T_21_22 S S' := by
    unfold bfX9_reckon_T_21_22_0 at hm
    obtain ⟨o1, hm⟩ := oblk hm
    obtain ⟨o2, hm⟩ := oblk hm
    obtain ⟨o3, hm⟩ := oblk hm
    exact Agr.tr Agr.rf (flX9_reckon_T_21_22_36 x  20000 S p0 (if (S.1 p0 1) < (S.2.1 (p0 + 3) ((((4 * p1) + p2) + 1).toNatClampNeg)) then (S.1 p0 1) else (S.2.1 (p0 + 3) ((((4 * p1) + p2) + 1).toNatClampNeg))) (-1) (S.2.1 (p0 + 3) (((4 * p1) + p2).toNatClampNeg)) _ _ hm)
theorem frX9_reckon_T_21_22 (x : XT) (S : ST) (p0 : Nat) (p1 : Int32) (p2 : Int32) (r : Int32) (S' : ST) (hm : gfX9_reckon_T_21_22 x S p0 p1 p2 = some (r, S')) : Agr wX9_reckon_T_21_22 S S' := fbX9_reckon_T_21_22_0 x S p0 p1 p2 r S' hm
def wX9_has_T : List (Nat × Nat) × List Nat × List Nat × List Nat := ([], [], [], [])
set_option maxHeartbeats 4000000 in
set_option maxRecDepth 20000 in
theorem fbX9_has_T_30 (x : XT)  (S : ST) (t0 : Int32) (r : Int32) (S' : ST) (hm : bfX9_has_T_30 x  S t0 = some (r, S')) : Agr wX9_has_T S S' := by
    unfold bfX9_has_T_30 at hm
    obtain ⟨o1, hm⟩ := oblk hm
    cases hm
    exact Agr.rf
set_option maxHeartbeats 4000000 in
set_option maxRecDepth 20000 in
theorem fbX9_has_T_0 (x : XT)  (S : ST) (p0 : Nat) (p1 : Int32) (p2 : Int32) (r : Int32) (S' : ST) (hm : bfX9_has_T_0 x  S p0 p1 p2 = some (r, S')) : Agr wX9_has_T S S' := by
    unfold bfX9_has_T_0 at hm
    obtain ⟨o1, hm⟩ := oblk hm
    obtain ⟨o2, hm⟩ := oblk hm
    obtain ⟨o3, hm⟩ := oblk hm
    by_cases c4 : (S.2.1 (p0 + 3) ((((4 * p1) + p2) + 1).toNatClampNeg)) ≤ (S.2.1 (p0 + 3) (((4 * p1) + p2).toNatClampNeg))
    · rw [if_pos c4] at hm
      exact Agr.tr Agr.rf (fbX9_has_T_30 x  S 0 _ _ hm)
    · rw [if_neg c4] at hm
      exact Agr.tr Agr.rf (fbX9_has_T_30 x  S 1 _ _ hm)
theorem frX9_has_T (x : XT) (S : ST) (p0 : Nat) (p1 : Int32) (p2 : Int32) (r : Int32) (S' : ST) (hm : gfX9_has_T x S p0 p1 p2 = some (r, S')) : Agr wX9_has_T S S' := fbX9_has_T_0 x S p0 p1 p2 r S' hm
def wX7_hasLaw_1 : List (Nat × Nat) × List Nat × List Nat × List Nat := ([], [], [], [])
set_option maxHeartbeats 4000000 in
set_option maxRecDepth 20000 in
theorem fbX7_hasLaw_1_17 (x : XT)  (S : ST) (t0 : Int32) (r : Int32) (S' : ST) (hm : bfX7_hasLaw_1_17 x  S t0 = some (r, S')) : Agr wX7_hasLaw_1 S S' := by
    unfold bfX7_hasLaw_1_17 at hm
    obtain ⟨o1, hm⟩ := oblk hm
    cases hm
    exact Agr.rf
set_option maxHeartbeats 4000000 in
set_option maxRecDepth 20000 in
theorem fbX7_hasLaw_1_16 (x : XT)  (S : ST)  (r : Int32) (S' : ST) (hm : bfX7_hasLaw_1_16 x  S  = some (r, S')) : Agr wX7_hasLaw_1 S S' := by
    unfold bfX7_hasLaw_1_16 at hm
    exact Agr.tr Agr.rf (fbX7_hasLaw_1_17 x  S 0 _ _ hm)
set_option maxHeartbeats 4000000 in
set_option maxRecDepth 20000 in
theorem fbX7_hasLaw_1_0 (x : XT)  (S : ST) (p1 : Int32) (r : Int32) (S' : ST) (hm : bfX7_hasLaw_1_0 x  S p1 = some (r, S')) : Agr wX7_hasLaw_1 S S' := by
    unfold bfX7_hasLaw_1_0 at hm
    by_cases c1 : p1 < 0
    · rw [if_pos c1] at hm
      exact Agr.tr Agr.rf (fbX7_hasLaw_1_16 x  S _ _ hm)
    · rw [if_neg c1] at hm
      by_cases c2 : (S.1 1 16) ≤ p1
      · rw [if_pos c2] at hm
        exact Agr.tr Agr.rf (fbX7_hasLaw_1_16 x  S _ _ hm)
      · rw [if_neg c2] at hm
        exact Agr.tr Agr.rf (fbX7_hasLaw_1_17 x  S 1 _ _ hm)
theorem frX7_hasLaw_1 (x : XT) (S : ST) (p1 : Int32) (r : Int32) (S' : ST) (hm : gfX7_hasLaw_1 x S p1 = some (r, S')) : Agr wX7_hasLaw_1 S S' := fbX7_hasLaw_1_0 x S p1 r S' hm
def wX7_inForce_1 : List (Nat × Nat) × List Nat × List Nat × List Nat := ([], [], [], [])
set_option maxHeartbeats 4000000 in
set_option maxRecDepth 20000 in
theorem fbX7_inForce_1_24 (x : XT)  (S : ST) (t0 : Option Nat) (r : Option Nat) (S' : ST) (hm : bfX7_inForce_1_24 x  S t0 = some (r, S')) : Agr wX7_inForce_1 S S' := by
    unfold bfX7_inForce_1_24 at hm
    cases hm
    exact Agr.rf
set_option maxHeartbeats 4000000 in
set_option maxRecDepth 20000 in
theorem fbX7_inForce_1_0 (x : XT)  (S : ST)  (r : Option Nat) (S' : ST) (hm : bfX7_inForce_1_0 x  S  = some (r, S')) : Agr wX7_inForce_1 S S' := by
    unfold bfX7_inForce_1_0 at hm
    cases h1 : gfX7_hasLaw_1 x S (S.1 1 18) with
    | none => rw [h1] at hm; cases hm
    | some q2 =>
      obtain ⟨r3, S4⟩ := q2
      rw [h1] at hm
      dsimp only at hm
      have a_S4 : Agr wX7_inForce_1 S S4 := Agr.tr Agr.rf (Agr.sub (frX7_hasLaw_1 x S (S.1 1 18) _ _ h1) (by decide))
      by_cases c5 : r3 = 0
      · rw [if_pos c5] at hm
        exact Agr.tr a_S4 (fbX7_inForce_1_24 x  S4 none _ _ hm)
      · rw [if_neg c5] at hm
        obtain ⟨o6, hm⟩ := oblk hm
        exact Agr.tr a_S4 (fbX7_inForce_1_24 x  S4 (S4.2.2.2 15 ((S4.1 1 18).toNatClampNeg)) _ _ hm)
theorem frX7_inForce_1 (x : XT) (S : ST)  (r : Option Nat) (S' : ST) (hm : gfX7_inForce_1 x S  = some (r, S')) : Agr wX7_inForce_1 S S' := fbX7_inForce_1_0 x S  r S' hm
def wX0_told_20_1 : List (Nat × Nat) × List Nat × List Nat × List Nat := ([], [22], [], [])
set_option maxHeartbeats 4000000 in
set_option maxRecDepth 20000 in
theorem fbX0_told_20_1_171 (x : XT)  (S : ST) (t0 : Int32) (r : Int32) (S' : ST) (hm : bfX0_told_20_1_171 x  S t0 = some (r, S')) : Agr wX0_told_20_1 S S' := by
    unfold bfX0_told_20_1_171 at hm
    cases hm
    exact Agr.rf
set_option maxHeartbeats 4000000 in
set_option maxRecDepth 20000 in
theorem fbX0_told_20_1_192 (x : XT)  (S : ST) (t0 : Int32) (r : Int32) (S' : ST) (hm : bfX0_told_20_1_192 x  S t0 = some (r, S')) : Agr wX0_told_20_1 S S' := by
    unfold bfX0_told_20_1_192 at hm
    cases hm
    exact Agr.rf
set_option maxHeartbeats 4000000 in
set_option maxRecDepth 20000 in
theorem fbX0_told_20_1_204 (x : XT)  (S : ST) (t0 : Int32) (r : Int32) (S' : ST) (hm : bfX0_told_20_1_204 x  S t0 = some (r, S')) : Agr wX0_told_20_1 S S' := by
    unfold bfX0_told_20_1_204 at hm
    cases hm
    exact Agr.rf
set_option maxHeartbeats 4000000 in
set_option maxRecDepth 20000 in
theorem fbX0_told_20_1_111 (x : XT)  (S : ST) (v2 : Int32) (v3 : Int32) (r : Int32) (S' : ST) (hm : bfX0_told_20_1_111 x  S v2 v3 = some (r, S')) : Agr wX0_told_20_1 S S' := by
    unfold bfX0_told_20_1_111 at hm
    by_cases c1 : v2 = 260
    · rw [if_pos c1] at hm
      by_cases c2 : ¬ v3 = (-2000000000)
      · rw [if_pos c2] at hm
        exact Agr.tr Agr.rf (fbX0_told_20_1_171 x  S (if 0 < (if 19 < v3 then 19 else v3) then (if 19 < v3 then 19 else v3) else 0) _ _ hm)
      · rw [if_neg c2] at hm
        exact Agr.tr Agr.rf (fbX0_told_20_1_171 x  S (if ((S.2.1 21 2) - 1) < 0 then 0 else ((S.2.1 21 2) - 1)) _ _ hm)
    rw [if_neg c1] at hm
    by_cases c3 : v2 = 261
    · rw [if_pos c3] at hm
      by_cases c4 : ¬ v3 = (-2000000000)
      · rw [if_pos c4] at hm
        exact Agr.tr Agr.rf (fbX0_told_20_1_192 x  S (if 0 < (if 9 < v3 then 9 else v3) then (if 9 < v3 then 9 else v3) else 0) _ _ hm)
      · rw [if_neg c4] at hm
        exact Agr.tr Agr.rf (fbX0_told_20_1_192 x  S 1 _ _ hm)
    rw [if_neg c3] at hm
    by_cases c5 : ¬ v3 = (-2000000000)
    · rw [if_pos c5] at hm
      exact Agr.tr Agr.rf (fbX0_told_20_1_204 x  S 1 _ _ hm)
    · rw [if_neg c5] at hm
      exact Agr.tr Agr.rf (fbX0_told_20_1_204 x  S 0 _ _ hm)
set_option maxHeartbeats 4000000 in
set_option maxRecDepth 20000 in
theorem fbX0_told_20_1_105 (x : XT) (k23 : ST → Int32 → Int32 → Nat → Int32 → Option (Int32 × ST)) (ak23 : ∀ (S : ST) (v2 : Int32) (v3 : Int32) (v4 : Nat) (v5 : Int32) (r : Int32) (S' : ST), k23 S v2 v3 v4 v5 = some (r, S') → Agr wX0_told_20_1 S S') (S : ST) (v2 : Int32) (v3 : Int32) (v4 : Nat) (v5 : Int32) (r : Int32) (S' : ST) (hm : bfX0_told_20_1_105 x k23 S v2 v3 v4 v5 = some (r, S')) : Agr wX0_told_20_1 S S' := by
    unfold bfX0_told_20_1_105 at hm
    obtain ⟨o1, hm⟩ := oblk hm
    exact Agr.tr Agr.rf (ak23 S v2 v3 v4 (v5 + (-1)) _ _ hm)
set_option maxHeartbeats 4000000 in
set_option maxRecDepth 20000 in
theorem fbX0_told_20_1_104 (x : XT) (k23 : ST → Int32 → Int32 → Nat → Int32 → Option (Int32 × ST)) (ak23 : ∀ (S : ST) (v2 : Int32) (v3 : Int32) (v4 : Nat) (v5 : Int32) (r : Int32) (S' : ST), k23 S v2 v3 v4 v5 = some (r, S') → Agr wX0_told_20_1 S S') (S : ST) (v2 : Int32) (v4 : Nat) (v5 : Int32) (t0 : Int32) (r : Int32) (S' : ST) (hm : bfX0_told_20_1_104 x k23 S v2 v4 v5 t0 = some (r, S')) : Agr wX0_told_20_1 S S' := by
    unfold bfX0_told_20_1_104 at hm
    obtain ⟨o1, hm⟩ := oblk hm
    exact Agr.tr Agr.rf (fbX0_told_20_1_105 x k23 ak23 S v2 t0 v4 v5 _ _ hm)
set_option maxHeartbeats 4000000 in
set_option maxRecDepth 20000 in
theorem fbX0_told_20_1_77 (x : XT) (k23 : ST → Int32 → Int32 → Nat → Int32 → Option (Int32 × ST)) (ak23 : ∀ (S : ST) (v2 : Int32) (v3 : Int32) (v4 : Nat) (v5 : Int32) (r : Int32) (S' : ST), k23 S v2 v3 v4 v5 = some (r, S') → Agr wX0_told_20_1 S S') (S : ST) (v2 : Int32) (v4 : Nat) (v5 : Int32) (r : Int32) (S' : ST) (hm : bfX0_told_20_1_77 x k23 S v2 v4 v5 = some (r, S')) : Agr wX0_told_20_1 S S' := by
    unfold bfX0_told_20_1_77 at hm
    obtain ⟨o1, hm⟩ := oblk hm
    by_cases c2 : ¬ v2 = 262
    · rw [if_pos c2] at hm
      cases h3 : gfX9_reckon_T_21_22 x S v4 v5 0 with
      | none => rw [h3] at hm; cases hm
      | some q4 =>
        obtain ⟨r5, S6⟩ := q4
        rw [h3] at hm
        dsimp only at hm
        have a_S6 : Agr wX0_told_20_1 S S6 := Agr.tr Agr.rf (Agr.sub (frX9_reckon_T_21_22 x S v4 v5 0 _ _ h3) (by decide))
        exact Agr.tr a_S6 (fbX0_told_20_1_104 x k23 ak23 S6 v2 v4 v5 r5 _ _ hm)
    · rw [if_neg c2] at hm
      exact Agr.tr Agr.rf (fbX0_told_20_1_104 x k23 ak23 S v2 v4 v5 1 _ _ hm)
set_option maxHeartbeats 4000000 in
set_option maxRecDepth 20000 in
theorem fbX0_told_20_1_23 (x : XT) (k23 : ST → Int32 → Int32 → Nat → Int32 → Option (Int32 × ST)) (ak23 : ∀ (S : ST) (v2 : Int32) (v3 : Int32) (v4 : Nat) (v5 : Int32) (r : Int32) (S' : ST), k23 S v2 v3 v4 v5 = some (r, S') → Agr wX0_told_20_1 S S') (S : ST) (v2 : Int32) (v3 : Int32) (v4 : Nat) (v5 : Int32) (r : Int32) (S' : ST) (hm : bfX0_told_20_1_23 x k23 S v2 v3 v4 v5 = some (r, S')) : Agr wX0_told_20_1 S S' := by
    unfold bfX0_told_20_1_23 at hm
    obtain ⟨o1, hm⟩ := oblk hm
    by_cases c2 : v5 < 0
    · rw [if_pos c2] at hm
      exact Agr.tr Agr.rf (fbX0_told_20_1_111 x  S v2 v3 _ _ hm)
    · rw [if_neg c2] at hm
      by_cases c3 : ¬ v3 = (-2000000000)
      · rw [if_pos c3] at hm
        exact Agr.tr Agr.rf (fbX0_told_20_1_111 x  S v2 v3 _ _ hm)
      · rw [if_neg c3] at hm
        obtain ⟨o4, hm⟩ := oblk hm
        by_cases c5 : ¬ (S.2.1 (v4 + 1) v5.toNatClampNeg) = v2
        · rw [if_pos c5] at hm
          exact Agr.tr Agr.rf (fbX0_told_20_1_105 x k23 ak23 S v2 v3 v4 v5 _ _ hm)
        · rw [if_neg c5] at hm
          cases h6 : gfX9_has_T x S v4 v5 2 with
          | none => rw [h6] at hm; cases hm
          | some q7 =>
            obtain ⟨r8, S9⟩ := q7
            rw [h6] at hm
            dsimp only at hm
            have a_S9 : Agr wX0_told_20_1 S S9 := Agr.tr Agr.rf (Agr.sub (frX9_has_T x S v4 v5 2 _ _ h6) (by decide))
            by_cases c10 : r8 = 0
            · rw [if_pos c10] at hm
              exact Agr.tr a_S9 (fbX0_told_20_1_77 x k23 ak23 S9 v2 v4 v5 _ _ hm)
            · rw [if_neg c10] at hm
              cases h11 : gfX9_reckon_T_21_22 x S9 v4 v5 2 with
              | none => rw [h11] at hm; cases hm
              | some q12 =>
                obtain ⟨r13, S14⟩ := q12
                rw [h11] at hm
                dsimp only at hm
                have a_S14 : Agr wX0_told_20_1 S S14 := Agr.tr a_S9 (Agr.sub (frX9_reckon_T_21_22 x S9 v4 v5 2 _ _ h11) (by decide))
                by_cases c15 : ¬ r13 = 1
                · rw [if_pos c15] at hm
                  exact Agr.tr a_S14 (fbX0_told_20_1_105 x k23 ak23 S14 v2 v3 v4 v5 _ _ hm)
                · rw [if_neg c15] at hm
                  exact Agr.tr a_S14 (fbX0_told_20_1_77 x k23 ak23 S14 v2 v4 v5 _ _ hm)
theorem flX0_told_20_1_23 (x : XT)  : ∀ (n : Nat) (S : ST) (v2 : Int32) (v3 : Int32) (v4 : Nat) (v5 : Int32) (r : Int32) (S' : ST), lfX0_told_20_1_23 x  n S v2 v3 v4 v5 = some (r, S') → Agr wX0_told_20_1 S S'
  | 0, _, _, _, _, _, _, _, hm => by cases hm
  | n + 1, S, v2, v3, v4, v5, r, S', hm => fbX0_told_20_1_23 x (lfX0_told_20_1_23 x  n) (flX0_told_20_1_23 x  n) S v2 v3 v4 v5 r S' hm
set_option maxHeartbeats 4000000 in
set_option maxRecDepth 20000 in
theorem fbX0_told_20_1_0 (x : XT)  (S : ST) (p2 : Int32) (r : Int32) (S' : ST) (hm : bfX0_told_20_1_0 x  S p2 = some (r, S')) : Agr wX0_told_20_1 S S' := by
    unfold bfX0_told_20_1_0 at hm
    cases h1 : gfX7_inForce_1 x S with
    | none => rw [h1] at hm; cases hm
    | some q2 =>
      obtain ⟨r3, S4⟩ := q2
      rw [h1] at hm
      dsimp only at hm
      have a_S4 : Agr wX0_told_20_1 S S4 := Agr.tr Agr.rf (Agr.sub (frX7_inForce_1 x S _ _ h1) (by decide))
      rcases hz : r3 with _ | t5
      · rw [hz] at hm
        exact Agr.tr a_S4 (fbX0_told_20_1_111 x  S4 p2 (-2000000000) _ _ hm)
      · rw [hz] at hm
        obtain ⟨o6, hm⟩ := oblk hm
        exact Agr.tr a_S4 (flX0_told_20_1_23 x  20000 S4 p2 (-2000000000) t5 ((S4.1 t5 0) - 1) _ _ hm)
theorem frX0_told_20_1 (x : XT) (S : ST) (p2 : Int32) (r : Int32) (S' : ST) (hm : gfX0_told_20_1 x S p2 = some (r, S')) : Agr wX0_told_20_1 S S' := fbX0_told_20_1_0 x S p2 r S' hm
def wX0_can_20_1 : List (Nat × Nat) × List Nat × List Nat × List Nat := ([], [21, 22], [], [])
set_option maxHeartbeats 4000000 in
set_option maxRecDepth 20000 in
theorem fbX0_can_20_1_24 (x : XT)  (S : ST)  (r : Int32) (S' : ST) (hm : bfX0_can_20_1_24 x  S  = some (r, S')) : Agr wX0_can_20_1 S S' := by
    unfold bfX0_can_20_1_24 at hm
    cases hm
    exact Agr.rf
set_option maxHeartbeats 4000000 in
set_option maxRecDepth 20000 in
theorem fbX0_can_20_1_55 (x : XT)  (S : ST) (t0 : Int32) (r : Int32) (S' : ST) (hm : bfX0_can_20_1_55 x  S t0 = some (r, S')) : Agr wX0_can_20_1 S S' := by
    unfold bfX0_can_20_1_55 at hm
    obtain ⟨o1, hm⟩ := oblk hm
    cases hm
    exact Agr.rf
set_option maxHeartbeats 4000000 in
set_option maxRecDepth 20000 in
theorem fbX0_can_20_1_0 (x : XT)  (S : ST) (p2 : Int32) (p3 : Int32) (r : Int32) (S' : ST) (hm : bfX0_can_20_1_0 x  S p2 p3 = some (r, S')) : Agr wX0_can_20_1 S S' := by
    unfold bfX0_can_20_1_0 at hm
    obtain ⟨o1, hm⟩ := oblk hm
    obtain ⟨o2, hm⟩ := oblk hm
    by_cases c3 : ¬ (S.2.1 7 p2.toNatClampNeg) = (S.2.1 2 p3.toNatClampNeg)
    · rw [if_pos c3] at hm
      exact Agr.tr Agr.rf (fbX0_can_20_1_24 x  S _ _ hm)
    · rw [if_neg c3] at hm
      obtain ⟨o4, hm⟩ := oblk hm
      by_cases c5 : ¬ (S.2.1 6 p3.toNatClampNeg) = 0
      · rw [if_pos c5] at hm
        obtain ⟨o6, hm⟩ := oblk hm
        cases h7 : gfX0_regard_20_1 x S p2 p3 (S.2.1 8 p2.toNatClampNeg) with
        | none => rw [h7] at hm; cases hm
        | some q8 =>
          obtain ⟨r9, S10⟩ := q8
          rw [h7] at hm
          dsimp only at hm
          have a_S10 : Agr wX0_can_20_1 S S10 := Agr.tr Agr.rf (Agr.sub (frX0_regard_20_1 x S p2 p3 (S.2.1 8 p2.toNatClampNeg) _ _ h7) (by decide))
          cases h11 : gfX0_told_20_1 x S10 262 with
          | none => rw [h11] at hm; cases hm
          | some q12 =>
            obtain ⟨r13, S14⟩ := q12
            rw [h11] at hm
            dsimp only at hm
            have a_S14 : Agr wX0_can_20_1 S S14 := Agr.tr a_S10 (Agr.sub (frX0_told_20_1 x S10 262 _ _ h11) (by decide))
            by_cases c15 : ¬ r13 = 0
            · rw [if_pos c15] at hm
              exact Agr.tr a_S14 (fbX0_can_20_1_55 x  S14 0 _ _ hm)
            · rw [if_neg c15] at hm
              exact Agr.tr a_S14 (fbX0_can_20_1_55 x  S14 1 _ _ hm)
      · rw [if_neg c5] at hm
        exact Agr.tr Agr.rf (fbX0_can_20_1_24 x  S _ _ hm)
theorem frX0_can_20_1 (x : XT) (S : ST) (p2 : Int32) (p3 : Int32) (r : Int32) (S' : ST) (hm : gfX0_can_20_1 x S p2 p3 = some (r, S')) : Agr wX0_can_20_1 S S' := fbX0_can_20_1_0 x S p2 p3 r S' hm
def wX0_canBits_20_1 : List (Nat × Nat) × List Nat × List Nat × List Nat := ([], [21, 22], [], [])
set_option maxHeartbeats 4000000 in
set_option maxRecDepth 20000 in
theorem fbX0_canBits_20_1_32 (x : XT) (k5 : ST → Int32 → Int32 → Int32 → Option (Int32 × ST)) (ak5 : ∀ (S : ST) (v2 : Int32) (v3 : Int32) (v4 : Int32) (r : Int32) (S' : ST), k5 S v2 v3 v4 = some (r, S') → Agr wX0_canBits_20_1 S S') (S : ST) (v2 : Int32) (v3 : Int32) (v4 : Int32) (r : Int32) (S' : ST) (hm : bfX0_canBits_20_1_32 x k5 S v2 v3 v4 = some (r, S')) : Agr wX0_canBits_20_1 S S' := by
    unfold bfX0_canBits_20_1_32 at hm
    exact Agr.tr Agr.rf (ak5 S v2 v3 (v4 + 1) _ _ hm)
set_option maxHeartbeats 4000000 in
set_option maxRecDepth 20000 in
theorem fbX0_canBits_20_1_5 (x : XT) (k5 : ST → Int32 → Int32 → Int32 → Option (Int32 × ST)) (ak5 : ∀ (S : ST) (v2 : Int32) (v3 : Int32) (v4 : Int32) (r : Int32) (S' : ST), k5 S v2 v3 v4 = some (r, S') → Agr wX0_canBits_20_1 S S') (S : ST) (v2 : Int32) (v3 : Int32) (v4 : Int32) (r : Int32) (S' : ST) (hm : bfX0_canBits_20_1_5 x k5 S v2 v3 v4 = some (r, S')) : Agr wX0_canBits_20_1 S S' := by
    unfold bfX0_canBits_20_1_5 at hm
    by_cases c1 : (S.1 1 0) ≤ v4
    · rw [if_pos c1] at hm
      cases hm
      exact Agr.rf
    · rw [if_neg c1] at hm
      cases h2 : gfX0_can_20_1 x S v2 v4 with
      | none => rw [h2] at hm; cases hm
      | some q3 =>
        obtain ⟨r4, S5⟩ := q3
        rw [h2] at hm
        dsimp only at hm
        have a_S5 : Agr wX0_canBits_20_1 S S5 := Agr.tr Agr.rf (Agr.sub (frX0_can_20_1 x S v2 v4 _ _ h2) (by decide))
        by_cases c6 : r4 = 0
        · rw [if_pos c6] at hm
          exact Agr.tr a_S5 (fbX0_canBits_20_1_32 x k5 ak5 S5 v2 v3 v4 _ _ hm)
        · rw [if_neg c6] at hm
          exact Agr.tr a_S5 (fbX0_canBits_20_1_32 x k5 ak5 S5 v2 (v3 ||| (1 <<< (v4 &&& 31))) v4 _ _ hm)
theorem flX0_canBits_20_1_5 (x : XT)  : ∀ (n : Nat) (S : ST) (v2 : Int32) (v3 : Int32) (v4 : Int32) (r : Int32) (S' : ST), lfX0_canBits_20_1_5 x  n S v2 v3 v4 = some (r, S') → Agr wX0_canBits_20_1 S S'
  | 0, _, _, _, _, _, _, hm => by cases hm
  | n + 1, S, v2, v3, v4, r, S', hm => fbX0_canBits_20_1_5 x (lfX0_canBits_20_1_5 x  n) (flX0_canBits_20_1_5 x  n) S v2 v3 v4 r S' hm
set_option maxHeartbeats 4000000 in
set_option maxRecDepth 20000 in
theorem fbX0_canBits_20_1_0 (x : XT)  (S : ST) (p2 : Int32) (r : Int32) (S' : ST) (hm : bfX0_canBits_20_1_0 x  S p2 = some (r, S')) : Agr wX0_canBits_20_1 S S' := by
    unfold bfX0_canBits_20_1_0 at hm
    exact Agr.tr Agr.rf (flX0_canBits_20_1_5 x  20000 S p2 0 0 _ _ hm)
theorem frX0_canBits_20_1 (x : XT) (S : ST) (p2 : Int32) (r : Int32) (S' : ST) (hm : gfX0_canBits_20_1 x S p2 = some (r, S')) : Agr wX0_canBits_20_1 S S' := fbX0_canBits_20_1_0 x S p2 r S' hm
def wX10_of_0 : List (Nat × Nat) × List Nat × List Nat × List Nat := ([], [21, 22], [], [])
set_option maxHeartbeats 4000000 in
set_option maxRecDepth 20000 in
theorem fbX10_of_0_0 (x : XT)  (S : ST) (p1 : Int32) (p2 : Int32) (r : Int32) (S' : ST) (hm : bfX10_of_0_0 x  S p1 p2 = some (r, S')) : Agr wX10_of_0 S S' := by
    unfold bfX10_of_0_0 at hm
    cases h1 : gfX7_hasGoer_1 x S p1 with
    | none => rw [h1] at hm; cases hm
    | some q2 =>
      obtain ⟨r3, S4⟩ := q2
      rw [h1] at hm
      dsimp only at hm
      have a_S4 : Agr wX10_of_0 S S4 := Agr.tr Agr.rf (Agr.sub (frX7_hasGoer_1 x S p1 _ _ h1) (by decide))
      by_cases c5 : ¬ r3 = 0
      · rw [if_pos c5] at hm
        by_cases c6 : p2 = 0
        · rw [if_pos c6] at hm
          obtain ⟨o7, hm⟩ := oblk hm
          cases hm
          exact a_S4
        rw [if_neg c6] at hm
        by_cases c8 : p2 = 1
        · rw [if_pos c8] at hm
          obtain ⟨o9, hm⟩ := oblk hm
          cases hm
          exact a_S4
        rw [if_neg c8] at hm
        by_cases c10 : p2 = 2
        · rw [if_pos c10] at hm
          obtain ⟨o11, hm⟩ := oblk hm
          cases hm
          exact a_S4
        rw [if_neg c10] at hm
        by_cases c12 : p2 = 3
        · rw [if_pos c12] at hm
          obtain ⟨o13, hm⟩ := oblk hm
          cases hm
          exact a_S4
        rw [if_neg c12] at hm
        by_cases c14 : p2 = 4
        · rw [if_pos c14] at hm
          cases h15 : gfX0_canBits_20_1 x S4 p1 with
          | none => rw [h15] at hm; cases hm
          | some q16 =>
            obtain ⟨r17, S18⟩ := q16
            rw [h15] at hm
            dsimp only at hm
            have a_S18 : Agr wX10_of_0 S S18 := Agr.tr a_S4 (Agr.sub (frX0_canBits_20_1 x S4 p1 _ _ h15) (by decide))
            cases hm
            exact a_S18
        rw [if_neg c14] at hm
        cases hm
        exact a_S4
      · rw [if_neg c5] at hm
        cases hm
        exact a_S4
theorem frX10_of_0 (x : XT) (S : ST) (p1 : Int32) (p2 : Int32) (r : Int32) (S' : ST) (hm : gfX10_of_0 x S p1 p2 = some (r, S')) : Agr wX10_of_0 S S' := fbX10_of_0_0 x S p1 p2 r S' hm
def wX10_asks_0 : List (Nat × Nat) × List Nat × List Nat × List Nat := ([], [21, 22], [], [])
set_option maxHeartbeats 4000000 in
set_option maxRecDepth 20000 in
theorem fbX10_asks_0_31 (x : XT)  (S : ST)  (r : Int32) (S' : ST) (hm : bfX10_asks_0_31 x  S  = some (r, S')) : Agr wX10_asks_0 S S' := by
    unfold bfX10_asks_0_31 at hm
    cases hm
    exact Agr.rf
set_option maxHeartbeats 4000000 in
set_option maxRecDepth 20000 in
theorem fbX10_asks_0_0 (x : XT)  (S : ST) (p1 : Int32) (p2 : Int32) (p3 : Int32) (p4 : Int32) (r : Int32) (S' : ST) (hm : bfX10_asks_0_0 x  S p1 p2 p3 p4 = some (r, S')) : Agr wX10_asks_0 S S' := by
    unfold bfX10_asks_0_0 at hm
    cases h1 : gfX7_hasGoer_1 x S p1 with
    | none => rw [h1] at hm; cases hm
    | some q2 =>
      obtain ⟨r3, S4⟩ := q2
      rw [h1] at hm
      dsimp only at hm
      have a_S4 : Agr wX10_asks_0 S S4 := Agr.tr Agr.rf (Agr.sub (frX7_hasGoer_1 x S p1 _ _ h1) (by decide))
      by_cases c5 : r3 = 0
      · rw [if_pos c5] at hm
        exact Agr.tr a_S4 (fbX10_asks_0_31 x  S4 _ _ hm)
      · rw [if_neg c5] at hm
        cases h6 : gfX7_hasGate_1 x S4 p2 with
        | none => rw [h6] at hm; cases hm
        | some q7 =>
          obtain ⟨r8, S9⟩ := q7
          rw [h6] at hm
          dsimp only at hm
          have a_S9 : Agr wX10_asks_0 S S9 := Agr.tr a_S4 (Agr.sub (frX7_hasGate_1 x S4 p2 _ _ h6) (by decide))
          by_cases c10 : r8 = 0
          · rw [if_pos c10] at hm
            exact Agr.tr a_S9 (fbX10_asks_0_31 x  S9 _ _ hm)
          · rw [if_neg c10] at hm
            cases h11 : gfX10_within x S9 p3 20 with
            | none => rw [h11] at hm; cases hm
            | some q12 =>
              obtain ⟨r13, S14⟩ := q12
              rw [h11] at hm
              dsimp only at hm
              have a_S14 : Agr wX10_asks_0 S S14 := Agr.tr a_S9 (Agr.sub (frX10_within x S9 p3 20 _ _ h11) (by decide))
              by_cases c15 : ¬ r13 = 0
              · rw [if_pos c15] at hm
                cases h16 : gfX0_regard_20_1 x S14 p1 p2 p3 with
                | none => rw [h16] at hm; cases hm
                | some q17 =>
                  obtain ⟨r18, S19⟩ := q17
                  rw [h16] at hm
                  dsimp only at hm
                  have a_S19 : Agr wX10_asks_0 S S19 := Agr.tr a_S14 (Agr.sub (frX0_regard_20_1 x S14 p1 p2 p3 _ _ h16) (by decide))
                  by_cases c20 : p4 = 0
                  · rw [if_pos c20] at hm
                    cases h21 : gfX0_told_20_1 x S19 260 with
                    | none => rw [h21] at hm; cases hm
                    | some q22 =>
                      obtain ⟨r23, S24⟩ := q22
                      rw [h21] at hm
                      dsimp only at hm
                      have a_S24 : Agr wX10_asks_0 S S24 := Agr.tr a_S19 (Agr.sub (frX0_told_20_1 x S19 260 _ _ h21) (by decide))
                      cases hm
                      exact a_S24
                  rw [if_neg c20] at hm
                  by_cases c25 : p4 = 1
                  · rw [if_pos c25] at hm
                    cases h26 : gfX0_told_20_1 x S19 261 with
                    | none => rw [h26] at hm; cases hm
                    | some q27 =>
                      obtain ⟨r28, S29⟩ := q27
                      rw [h26] at hm
                      dsimp only at hm
                      have a_S29 : Agr wX10_asks_0 S S29 := Agr.tr a_S19 (Agr.sub (frX0_told_20_1 x S19 261 _ _ h26) (by decide))
                      cases hm
                      exact a_S29
                  rw [if_neg c25] at hm
                  by_cases c30 : p4 = 2
                  · rw [if_pos c30] at hm
                    cases h31 : gfX0_told_20_1 x S19 262 with
                    | none => rw [h31] at hm; cases hm
                    | some q32 =>
                      obtain ⟨r33, S34⟩ := q32
                      rw [h31] at hm
                      dsimp only at hm
                      have a_S34 : Agr wX10_asks_0 S S34 := Agr.tr a_S19 (Agr.sub (frX0_told_20_1 x S19 262 _ _ h31) (by decide))
                      cases hm
                      exact a_S34
                  rw [if_neg c30] at hm
                  cases hm
                  exact a_S19
              · rw [if_neg c15] at hm
                exact Agr.tr a_S14 (fbX10_asks_0_31 x  S14 _ _ hm)
theorem frX10_asks_0 (x : XT) (S : ST) (p1 : Int32) (p2 : Int32) (p3 : Int32) (p4 : Int32) (r : Int32) (S' : ST) (hm : gfX10_asks_0 x S p1 p2 p3 p4 = some (r, S')) : Agr wX10_asks_0 S S' := fbX10_asks_0_0 x S p1 p2 p3 p4 r S' hm
def wX7_changeTerm_1 : List (Nat × Nat) × List Nat × List Nat × List Nat := ([], [14], [], [])
set_option maxHeartbeats 4000000 in
set_option maxRecDepth 20000 in
theorem fbX7_changeTerm_1_42 (x : XT)  (S : ST)  (r : Int32) (S' : ST) (hm : bfX7_changeTerm_1_42 x  S  = some (r, S')) : Agr wX7_changeTerm_1 S S' := by
    unfold bfX7_changeTerm_1_42 at hm
    cases hm
    exact Agr.rf
set_option maxHeartbeats 4000000 in
set_option maxRecDepth 20000 in
theorem fbX7_changeTerm_1_32 (x : XT)  (S : ST) (v1 : Int32) (v2 : Int32) (t0 : Int32) (r : Int32) (S' : ST) (hm : bfX7_changeTerm_1_32 x  S v1 v2 t0 = some (r, S')) : Agr wX7_changeTerm_1 S S' := by
    unfold bfX7_changeTerm_1_32 at hm
    by_cases c1 : v2 < 0
    · rw [if_pos c1] at hm
      exact Agr.tr Agr.rf (fbX7_changeTerm_1_42 x  S _ _ hm)
    · rw [if_neg c1] at hm
      by_cases c2 : v2 ≤ t0
      · rw [if_pos c2] at hm
        obtain ⟨o3, hm⟩ := oblk hm
        obtain ⟨o4, hm⟩ := oblk hm
        cases hm
        exact (Agr.i Agr.rf 14 v1.toNatClampNeg v2 (by decide))
      · rw [if_neg c2] at hm
        exact Agr.tr Agr.rf (fbX7_changeTerm_1_42 x  S _ _ hm)
set_option maxHeartbeats 4000000 in
set_option maxRecDepth 20000 in
theorem fbX7_changeTerm_1_0 (x : XT)  (S : ST) (p1 : Int32) (p2 : Int32) (r : Int32) (S' : ST) (hm : bfX7_changeTerm_1_0 x  S p1 p2 = some (r, S')) : Agr wX7_changeTerm_1 S S' := by
    unfold bfX7_changeTerm_1_0 at hm
    cases h1 : gfX10_within x S p1 3 with
    | none => rw [h1] at hm; cases hm
    | some q2 =>
      obtain ⟨r3, S4⟩ := q2
      rw [h1] at hm
      dsimp only at hm
      have a_S4 : Agr wX7_changeTerm_1 S S4 := Agr.tr Agr.rf (Agr.sub (frX10_within x S p1 3 _ _ h1) (by decide))
      by_cases c5 : ¬ r3 = 0
      · rw [if_pos c5] at hm
        by_cases c6 : ¬ p1 = 0
        · rw [if_pos c6] at hm
          by_cases c7 : ¬ p1 = 1
          · rw [if_pos c7] at hm
            exact Agr.tr a_S4 (fbX7_changeTerm_1_32 x  S4 p1 p2 9 _ _ hm)
          · rw [if_neg c7] at hm
            exact Agr.tr a_S4 (fbX7_changeTerm_1_32 x  S4 p1 p2 10 _ _ hm)
        · rw [if_neg c6] at hm
          exact Agr.tr a_S4 (fbX7_changeTerm_1_32 x  S4 p1 p2 999 _ _ hm)
      · rw [if_neg c5] at hm
        cases hm
        exact a_S4
theorem frX7_changeTerm_1 (x : XT) (S : ST) (p1 : Int32) (p2 : Int32) (r : Int32) (S' : ST) (hm : gfX7_changeTerm_1 x S p1 p2 = some (r, S')) : Agr wX7_changeTerm_1 S S' := fbX7_changeTerm_1_0 x S p1 p2 r S' hm
def wX10_terms_0 : List (Nat × Nat) × List Nat × List Nat × List Nat := ([(0, 12), (33, 0)], [14, 99], [], [])
set_option maxHeartbeats 4000000 in
set_option maxRecDepth 20000 in
theorem fbX10_terms_0_0 (x : XT)  (S : ST) (p1 : Int32) (p2 : Int32) (r : Int32) (S' : ST) (hm : bfX10_terms_0_0 x  S p1 p2 = some (r, S')) : Agr wX10_terms_0 S S' := by
    unfold bfX10_terms_0_0 at hm
    cases h1 : gfX7_changeTerm_1 x S p1 p2 with
    | none => rw [h1] at hm; cases hm
    | some q2 =>
      obtain ⟨r3, S4⟩ := q2
      rw [h1] at hm
      dsimp only at hm
      have a_S4 : Agr wX10_terms_0 S S4 := Agr.tr Agr.rf (Agr.sub (frX7_changeTerm_1 x S p1 p2 _ _ h1) (by decide))
      cases h5 : gfX10_toldAnew_0 x S4 r3 with
      | none => rw [h5] at hm; cases hm
      | some q6 =>
        obtain ⟨r7, S8⟩ := q6
        rw [h5] at hm
        dsimp only at hm
        have a_S8 : Agr wX10_terms_0 S S8 := Agr.tr a_S4 (Agr.sub (frX10_toldAnew_0 x S4 r3 _ _ h5) (by decide))
        cases hm
        exact a_S8
theorem frX10_terms_0 (x : XT) (S : ST) (p1 : Int32) (p2 : Int32) (r : Int32) (S' : ST) (hm : gfX10_terms_0 x S p1 p2 = some (r, S')) : Agr wX10_terms_0 S S' := fbX10_terms_0_0 x S p1 p2 r S' hm
def wX8_takeFour_18 : List (Nat × Nat) × List Nat × List Nat × List Nat := ([(18, 1)], [19], [], [])
set_option maxHeartbeats 4000000 in
set_option maxRecDepth 20000 in
theorem fbX8_takeFour_18_46 (x : XT)  (S : ST)  (r : Unit) (S' : ST) (hm : bfX8_takeFour_18_46 x  S  = some (r, S')) : Agr wX8_takeFour_18 S S' := by
    unfold bfX8_takeFour_18_46 at hm
    cases hm
    exact Agr.rf
set_option maxHeartbeats 4000000 in
set_option maxRecDepth 20000 in
theorem fbX8_takeFour_18_3 (x : XT) (k3 : ST → Int32 → Int32 → Option (Unit × ST)) (ak3 : ∀ (S : ST) (v1 : Int32) (v2 : Int32) (r : Unit) (S' : ST), k3 S v1 v2 = some (r, S') → Agr wX8_takeFour_18 S S') (S : ST) (v1 : Int32) (v2 : Int32) (r : Unit) (S' : ST) (hm : bfX8_takeFour_18_3 x k3 S v1 v2 = some (r, S')) : Agr wX8_takeFour_18 S S' := by
    unfold bfX8_takeFour_18_3 at hm
    by_cases c1 : v2 < 0
    · rw [if_pos c1] at hm
      exact Agr.tr Agr.rf (fbX8_takeFour_18_46 x  S _ _ hm)
    · rw [if_neg c1] at hm
      by_cases c2 : 400 ≤ (S.1 18 1)
      · rw [if_pos c2] at hm
        exact Agr.tr Agr.rf (fbX8_takeFour_18_46 x  S _ _ hm)
      · rw [if_neg c2] at hm
        obtain ⟨o3, hm⟩ := oblk hm
        exact Agr.tr (Agr.i (Agr.f Agr.rf 18 1 ((S.1 18 1) + 1) (by decide)) 19 ((S.1 18 1).toNatClampNeg) (((v1.toUInt32 >>> (v2.toUInt32 &&& Int32.toUInt32 31)).toInt32) &&& 255) (by decide)) (ak3 ((u2 S.1 18 1 ((S.1 18 1) + 1)), (u2 S.2.1 19 ((S.1 18 1).toNatClampNeg) (((v1.toUInt32 >>> (v2.toUInt32 &&& Int32.toUInt32 31)).toInt32) &&& 255)), S.2.2.1, S.2.2.2) v1 (v2 + (-8)) _ _ hm)
theorem flX8_takeFour_18_3 (x : XT)  : ∀ (n : Nat) (S : ST) (v1 : Int32) (v2 : Int32) (r : Unit) (S' : ST), lfX8_takeFour_18_3 x  n S v1 v2 = some (r, S') → Agr wX8_takeFour_18 S S'
  | 0, _, _, _, _, _, hm => by cases hm
  | n + 1, S, v1, v2, r, S', hm => fbX8_takeFour_18_3 x (lfX8_takeFour_18_3 x  n) (flX8_takeFour_18_3 x  n) S v1 v2 r S' hm
set_option maxHeartbeats 4000000 in
set_option maxRecDepth 20000 in
theorem fbX8_takeFour_18_0 (x : XT)  (S : ST) (p1 : Int32) (r : Unit) (S' : ST) (hm : bfX8_takeFour_18_0 x  S p1 = some (r, S')) : Agr wX8_takeFour_18 S S' := by
    unfold bfX8_takeFour_18_0 at hm
    exact Agr.tr Agr.rf (flX8_takeFour_18_3 x  20000 S p1 24 _ _ hm)
theorem frX8_takeFour_18 (x : XT) (S : ST) (p1 : Int32) (r : Unit) (S' : ST) (hm : gfX8_takeFour_18 x S p1 = some (r, S')) : Agr wX8_takeFour_18 S S' := fbX8_takeFour_18_0 x S p1 r S' hm
end FRA
