section FRA
def wX11_back_130 : List (Nat × Nat) × List Nat × List Nat × List Nat := ([(130, 0), (130, 31)], [131, 132], [], [])
set_option maxHeartbeats 4000000 in
set_option maxRecDepth 20000 in
theorem fbX11_back_130_33 (x : XT) (k33 : ST → Int32 → Int32 → Option (Int32 × ST)) (ak33 : ∀ (S : ST) (v1 : Int32) (v2 : Int32) (r : Int32) (S' : ST), k33 S v1 v2 = some (r, S') → Agr wX11_back_130 S S') (S : ST) (v1 : Int32) (v2 : Int32) (r : Int32) (S' : ST) (hm : bfX11_back_130_33 x k33 S v1 v2 = some (r, S')) : Agr wX11_back_130 S S' := by
    unfold bfX11_back_130_33 at hm
    by_cases c1 : 5703 ≤ v2
    · rw [if_pos c1] at hm
      cases h2 : gfX11_settled_130 x S 0 with
      | none => rw [h2] at hm; cases hm
      | some q3 =>
        obtain ⟨r4, S5⟩ := q3
        rw [h2] at hm
        dsimp only at hm
        have a_S5 : Agr wX11_back_130 S S5 := Agr.tr Agr.rf (Agr.sub (frX11_settled_130 x S 0 _ _ h2) (by decide))
        cases hm
        exact a_S5
    · rw [if_neg c1] at hm
      obtain ⟨o6, hm⟩ := oblk hm
      obtain ⟨o7, hm⟩ := oblk hm
      exact Agr.tr (Agr.i Agr.rf 132 v2.toNatClampNeg (S.2.1 133 (((5703 * v1) + v2).toNatClampNeg)) (by decide)) (ak33 (S.1, (u2 S.2.1 132 v2.toNatClampNeg (S.2.1 133 (((5703 * v1) + v2).toNatClampNeg))), S.2.2.1, S.2.2.2) v1 (v2 + 1) _ _ hm)
theorem flX11_back_130_33 (x : XT)  : ∀ (n : Nat) (S : ST) (v1 : Int32) (v2 : Int32) (r : Int32) (S' : ST), lfX11_back_130_33 x  n S v1 v2 = some (r, S') → Agr wX11_back_130 S S'
  | 0, _, _, _, _, _, hm => by cases hm
  | n + 1, S, v1, v2, r, S', hm => fbX11_back_130_33 x (lfX11_back_130_33 x  n) (flX11_back_130_33 x  n) S v1 v2 r S' hm
set_option maxHeartbeats 4000000 in
set_option maxRecDepth 20000 in
theorem fbX11_back_130_0 (x : XT)  (S : ST) (p1 : Int32) (r : Int32) (S' : ST) (hm : bfX11_back_130_0 x  S p1 = some (r, S')) : Agr wX11_back_130 S S' := by
    unfold bfX11_back_130_0 at hm
    cases h1 : gfX11_lies x S p1 0 1 with
    | none => rw [h1] at hm; cases hm
    | some q2 =>
      obtain ⟨r3, S4⟩ := q2
      rw [h1] at hm
      dsimp only at hm
      have a_S4 : Agr wX11_back_130 S S4 := Agr.tr Agr.rf (Agr.sub (frX11_lies x S p1 0 1 _ _ h1) (by decide))
      by_cases c5 : ¬ r3 = 0
      · rw [if_pos c5] at hm
        obtain ⟨o6, hm⟩ := oblk hm
        by_cases c7 : ¬ (S4.2.1 134 p1.toNatClampNeg) = 0
        · rw [if_pos c7] at hm
          exact Agr.tr a_S4 (flX11_back_130_33 x  20000 S4 p1 0 _ _ hm)
        · rw [if_neg c7] at hm
          cases h8 : gfX11_refuses_130 x S4 (-2) with
          | none => rw [h8] at hm; cases hm
          | some q9 =>
            obtain ⟨r10, S11⟩ := q9
            rw [h8] at hm
            dsimp only at hm
            have a_S11 : Agr wX11_back_130 S S11 := Agr.tr a_S4 (Agr.sub (frX11_refuses_130 x S4 (-2) _ _ h8) (by decide))
            cases hm
            exact a_S11
      · rw [if_neg c5] at hm
        cases h12 : gfX11_refuses_130 x S4 (-1) with
        | none => rw [h12] at hm; cases hm
        | some q13 =>
          obtain ⟨r14, S15⟩ := q13
          rw [h12] at hm
          dsimp only at hm
          have a_S15 : Agr wX11_back_130 S S15 := Agr.tr a_S4 (Agr.sub (frX11_refuses_130 x S4 (-1) _ _ h12) (by decide))
          cases hm
          exact a_S15
theorem frX11_back_130 (x : XT) (S : ST) (p1 : Int32) (r : Int32) (S' : ST) (hm : gfX11_back_130 x S p1 = some (r, S')) : Agr wX11_back_130 S S' := fbX11_back_130_0 x S p1 r S' hm
def wX11_gateMany_130 : List (Nat × Nat) × List Nat × List Nat × List Nat := ([], [], [], [])
set_option maxHeartbeats 4000000 in
set_option maxRecDepth 20000 in
theorem fbX11_gateMany_130_0 (x : XT)  (S : ST)  (r : Int32) (S' : ST) (hm : bfX11_gateMany_130_0 x  S  = some (r, S')) : Agr wX11_gateMany_130 S S' := by
    unfold bfX11_gateMany_130_0 at hm
    cases hm
    exact Agr.rf
theorem frX11_gateMany_130 (x : XT) (S : ST)  (r : Int32) (S' : ST) (hm : gfX11_gateMany_130 x S  = some (r, S')) : Agr wX11_gateMany_130 S S' := fbX11_gateMany_130_0 x S  r S' hm
def wX11_isGate_130 : List (Nat × Nat) × List Nat × List Nat × List Nat := ([], [], [], [])
set_option maxHeartbeats 4000000 in
set_option maxRecDepth 20000 in
theorem fbX11_isGate_130_0 (x : XT)  (S : ST) (p1 : Int32) (r : Int32) (S' : ST) (hm : bfX11_isGate_130_0 x  S p1 = some (r, S')) : Agr wX11_isGate_130 S S' := by
    unfold bfX11_isGate_130_0 at hm
    cases h1 : gfX11_gateMany_130 x S with
    | none => rw [h1] at hm; cases hm
    | some q2 =>
      obtain ⟨r3, S4⟩ := q2
      rw [h1] at hm
      dsimp only at hm
      have a_S4 : Agr wX11_isGate_130 S S4 := Agr.tr Agr.rf (Agr.sub (frX11_gateMany_130 x S _ _ h1) (by decide))
      cases h5 : gfX11_lies x S4 p1 0 (r3 - 1) with
      | none => rw [h5] at hm; cases hm
      | some q6 =>
        obtain ⟨r7, S8⟩ := q6
        rw [h5] at hm
        dsimp only at hm
        have a_S8 : Agr wX11_isGate_130 S S8 := Agr.tr a_S4 (Agr.sub (frX11_lies x S4 p1 0 (r3 - 1) _ _ h5) (by decide))
        obtain ⟨o9, hm⟩ := oblk hm
        cases hm
        exact a_S8
theorem frX11_isGate_130 (x : XT) (S : ST) (p1 : Int32) (r : Int32) (S' : ST) (hm : gfX11_isGate_130 x S p1 = some (r, S')) : Agr wX11_isGate_130 S S' := fbX11_isGate_130_0 x S p1 r S' hm
def wX11_isGoer_130 : List (Nat × Nat) × List Nat × List Nat × List Nat := ([], [], [], [])
set_option maxHeartbeats 4000000 in
set_option maxRecDepth 20000 in
theorem fbX11_isGoer_130_0 (x : XT)  (S : ST) (p1 : Int32) (r : Int32) (S' : ST) (hm : bfX11_isGoer_130_0 x  S p1 = some (r, S')) : Agr wX11_isGoer_130 S S' := by
    unfold bfX11_isGoer_130_0 at hm
    cases h1 : gfX11_lies x S p1 0 ((S.2.1 132 92) - 1) with
    | none => rw [h1] at hm; cases hm
    | some q2 =>
      obtain ⟨r3, S4⟩ := q2
      rw [h1] at hm
      dsimp only at hm
      have a_S4 : Agr wX11_isGoer_130 S S4 := Agr.tr Agr.rf (Agr.sub (frX11_lies x S p1 0 ((S.2.1 132 92) - 1) _ _ h1) (by decide))
      obtain ⟨o5, hm⟩ := oblk hm
      cases hm
      exact a_S4
theorem frX11_isGoer_130 (x : XT) (S : ST) (p1 : Int32) (r : Int32) (S' : ST) (hm : gfX11_isGoer_130 x S p1 = some (r, S')) : Agr wX11_isGoer_130 S S' := fbX11_isGoer_130_0 x S p1 r S' hm
def wX11_canGate : List (Nat × Nat) × List Nat × List Nat × List Nat := ([], [], [], [])
set_option maxHeartbeats 4000000 in
set_option maxRecDepth 20000 in
theorem fbX11_canGate_36 (x : XT)  (S : ST) (t0 : Int32) (r : Int32) (S' : ST) (hm : bfX11_canGate_36 x  S t0 = some (r, S')) : Agr wX11_canGate S S' := by
    unfold bfX11_canGate_36 at hm
    obtain ⟨o1, hm⟩ := oblk hm
    cases hm
    exact Agr.rf
set_option maxHeartbeats 4000000 in
set_option maxRecDepth 20000 in
theorem fbX11_canGate_35 (x : XT)  (S : ST)  (r : Int32) (S' : ST) (hm : bfX11_canGate_35 x  S  = some (r, S')) : Agr wX11_canGate S S' := by
    unfold bfX11_canGate_35 at hm
    exact Agr.tr Agr.rf (fbX11_canGate_36 x  S 0 _ _ hm)
set_option maxHeartbeats 4000000 in
set_option maxRecDepth 20000 in
theorem fbX11_canGate_0 (x : XT)  (S : ST) (p0 : Int32) (p1 : Int32) (p2 : Int32) (p3 : Int32) (r : Int32) (S' : ST) (hm : bfX11_canGate_0 x  S p0 p1 p2 p3 = some (r, S')) : Agr wX11_canGate S S' := by
    unfold bfX11_canGate_0 at hm
    cases h1 : gfX11_isPark x S p0 with
    | none => rw [h1] at hm; cases hm
    | some q2 =>
      obtain ⟨r3, S4⟩ := q2
      rw [h1] at hm
      dsimp only at hm
      have a_S4 : Agr wX11_canGate S S4 := Agr.tr Agr.rf (Agr.sub (frX11_isPark x S p0 _ _ h1) (by decide))
      by_cases c5 : r3 = 0
      · rw [if_pos c5] at hm
        exact Agr.tr a_S4 (fbX11_canGate_35 x  S4 _ _ hm)
      · rw [if_neg c5] at hm
        cases h6 : gfX11_isPark x S4 p1 with
        | none => rw [h6] at hm; cases hm
        | some q7 =>
          obtain ⟨r8, S9⟩ := q7
          rw [h6] at hm
          dsimp only at hm
          have a_S9 : Agr wX11_canGate S S9 := Agr.tr a_S4 (Agr.sub (frX11_isPark x S4 p1 _ _ h6) (by decide))
          by_cases c10 : r8 = 0
          · rw [if_pos c10] at hm
            exact Agr.tr a_S9 (fbX11_canGate_35 x  S9 _ _ hm)
          · rw [if_neg c10] at hm
            cases h11 : gfX11_lies x S9 p2 0 7 with
            | none => rw [h11] at hm; cases hm
            | some q12 =>
              obtain ⟨r13, S14⟩ := q12
              rw [h11] at hm
              dsimp only at hm
              have a_S14 : Agr wX11_canGate S S14 := Agr.tr a_S9 (Agr.sub (frX11_lies x S9 p2 0 7 _ _ h11) (by decide))
              by_cases c15 : r13 = 0
              · rw [if_pos c15] at hm
                exact Agr.tr a_S14 (fbX11_canGate_35 x  S14 _ _ hm)
              · rw [if_neg c15] at hm
                cases h16 : gfX11_isArm x S14 p3 with
                | none => rw [h16] at hm; cases hm
                | some q17 =>
                  obtain ⟨r18, S19⟩ := q17
                  rw [h16] at hm
                  dsimp only at hm
                  have a_S19 : Agr wX11_canGate S S19 := Agr.tr a_S14 (Agr.sub (frX11_isArm x S14 p3 _ _ h16) (by decide))
                  by_cases c20 : r18 = 0
                  · rw [if_pos c20] at hm
                    exact Agr.tr a_S19 (fbX11_canGate_35 x  S19 _ _ hm)
                  · rw [if_neg c20] at hm
                    exact Agr.tr a_S19 (fbX11_canGate_36 x  S19 1 _ _ hm)
theorem frX11_canGate (x : XT) (S : ST) (p0 : Int32) (p1 : Int32) (p2 : Int32) (p3 : Int32) (r : Int32) (S' : ST) (hm : gfX11_canGate x S p0 p1 p2 p3 = some (r, S')) : Agr wX11_canGate S S' := fbX11_canGate_0 x S p0 p1 p2 p3 r S' hm
def wX11_adds_130 : List (Nat × Nat) × List Nat × List Nat × List Nat := ([], [132], [], [])
set_option maxHeartbeats 4000000 in
set_option maxRecDepth 20000 in
theorem fbX11_adds_130_0 (x : XT)  (S : ST) (p1 : Int32) (p2 : Int32) (p3 : Int32) (p4 : Int32) (r : Unit) (S' : ST) (hm : bfX11_adds_130_0 x  S p1 p2 p3 p4 = some (r, S')) : Agr wX11_adds_130 S S' := by
    unfold bfX11_adds_130_0 at hm
    cases h1 : gfX11_gateMany_130 x S with
    | none => rw [h1] at hm; cases hm
    | some q2 =>
      obtain ⟨r3, S4⟩ := q2
      rw [h1] at hm
      dsimp only at hm
      have a_S4 : Agr wX11_adds_130 S S4 := Agr.tr Agr.rf (Agr.sub (frX11_gateMany_130 x S _ _ h1) (by decide))
      obtain ⟨o5, hm⟩ := oblk hm
      obtain ⟨o6, hm⟩ := oblk hm
      obtain ⟨o7, hm⟩ := oblk hm
      obtain ⟨o8, hm⟩ := oblk hm
      obtain ⟨o9, hm⟩ := oblk hm
      cases hm
      exact (Agr.i (Agr.i (Agr.i (Agr.i (Agr.i (Agr.i a_S4 132 ((36 + r3).toNatClampNeg) p1 (by decide)) 132 ((46 + r3).toNatClampNeg) p2 (by decide)) 132 ((56 + r3).toNatClampNeg) p3 (by decide)) 132 ((15 + r3).toNatClampNeg) p4 (by decide)) 132 ((25 + r3).toNatClampNeg) 1 (by decide)) 132 91 (((u2 (u2 (u2 (u2 (u2 S4.2.1 132 ((36 + r3).toNatClampNeg) p1) 132 ((46 + r3).toNatClampNeg) p2) 132 ((56 + r3).toNatClampNeg) p3) 132 ((15 + r3).toNatClampNeg) p4) 132 ((25 + r3).toNatClampNeg) 1) 132 91) + 1) (by decide))
theorem frX11_adds_130 (x : XT) (S : ST) (p1 : Int32) (p2 : Int32) (p3 : Int32) (p4 : Int32) (r : Unit) (S' : ST) (hm : gfX11_adds_130 x S p1 p2 p3 p4 = some (r, S')) : Agr wX11_adds_130 S S' := fbX11_adds_130_0 x S p1 p2 p3 p4 r S' hm
def wX11_gate_130 : List (Nat × Nat) × List Nat × List Nat × List Nat := ([(130, 0), (130, 31)], [131, 132], [], [])
set_option maxHeartbeats 4000000 in
set_option maxRecDepth 20000 in
theorem fbX11_gate_130_0 (x : XT)  (S : ST) (p1 : Int32) (p2 : Int32) (p3 : Int32) (p4 : Int32) (r : Int32) (S' : ST) (hm : bfX11_gate_130_0 x  S p1 p2 p3 p4 = some (r, S')) : Agr wX11_gate_130 S S' := by
    unfold bfX11_gate_130_0 at hm
    cases h1 : gfX11_canGate x S p1 p2 p3 p4 with
    | none => rw [h1] at hm; cases hm
    | some q2 =>
      obtain ⟨r3, S4⟩ := q2
      rw [h1] at hm
      dsimp only at hm
      have a_S4 : Agr wX11_gate_130 S S4 := Agr.tr Agr.rf (Agr.sub (frX11_canGate x S p1 p2 p3 p4 _ _ h1) (by decide))
      by_cases c5 : ¬ r3 = 0
      · rw [if_pos c5] at hm
        cases h6 : gfX11_gateMany_130 x S4 with
        | none => rw [h6] at hm; cases hm
        | some q7 =>
          obtain ⟨r8, S9⟩ := q7
          rw [h6] at hm
          dsimp only at hm
          have a_S9 : Agr wX11_gate_130 S S9 := Agr.tr a_S4 (Agr.sub (frX11_gateMany_130 x S4 _ _ h6) (by decide))
          by_cases c10 : ¬ r8 = 10
          · rw [if_pos c10] at hm
            cases h11 : gfX11_adds_130 x S9 p1 p2 p3 p4 with
            | none => rw [h11] at hm; cases hm
            | some q12 =>
              obtain ⟨r13, S14⟩ := q12
              rw [h11] at hm
              dsimp only at hm
              have a_S14 : Agr wX11_gate_130 S S14 := Agr.tr a_S9 (Agr.sub (frX11_adds_130 x S9 p1 p2 p3 p4 _ _ h11) (by decide))
              cases h15 : gfX11_gateMany_130 x S14 with
              | none => rw [h15] at hm; cases hm
              | some q16 =>
                obtain ⟨r17, S18⟩ := q16
                rw [h15] at hm
                dsimp only at hm
                have a_S18 : Agr wX11_gate_130 S S18 := Agr.tr a_S14 (Agr.sub (frX11_gateMany_130 x S14 _ _ h15) (by decide))
                cases h19 : gfX11_settled_130 x S18 (r17 - 1) with
                | none => rw [h19] at hm; cases hm
                | some q20 =>
                  obtain ⟨r21, S22⟩ := q20
                  rw [h19] at hm
                  dsimp only at hm
                  have a_S22 : Agr wX11_gate_130 S S22 := Agr.tr a_S18 (Agr.sub (frX11_settled_130 x S18 (r17 - 1) _ _ h19) (by decide))
                  cases hm
                  exact a_S22
          · rw [if_neg c10] at hm
            cases h23 : gfX11_refuses_130 x S9 (-5) with
            | none => rw [h23] at hm; cases hm
            | some q24 =>
              obtain ⟨r25, S26⟩ := q24
              rw [h23] at hm
              dsimp only at hm
              have a_S26 : Agr wX11_gate_130 S S26 := Agr.tr a_S9 (Agr.sub (frX11_refuses_130 x S9 (-5) _ _ h23) (by decide))
              cases hm
              exact a_S26
      · rw [if_neg c5] at hm
        cases h27 : gfX11_refuses_130 x S4 (-1) with
        | none => rw [h27] at hm; cases hm
        | some q28 =>
          obtain ⟨r29, S30⟩ := q28
          rw [h27] at hm
          dsimp only at hm
          have a_S30 : Agr wX11_gate_130 S S30 := Agr.tr a_S4 (Agr.sub (frX11_refuses_130 x S4 (-1) _ _ h27) (by decide))
          cases hm
          exact a_S30
theorem frX11_gate_130 (x : XT) (S : ST) (p1 : Int32) (p2 : Int32) (p3 : Int32) (p4 : Int32) (r : Int32) (S' : ST) (hm : gfX11_gate_130 x S p1 p2 p3 p4 = some (r, S')) : Agr wX11_gate_130 S S' := fbX11_gate_130_0 x S p1 p2 p3 p4 r S' hm
def wX11_at_130 : List (Nat × Nat) × List Nat × List Nat × List Nat := ([], [], [], [])
set_option maxHeartbeats 4000000 in
set_option maxRecDepth 20000 in
theorem fbX11_at_130_0 (x : XT)  (S : ST) (p1 : Int32) (p2 : Int32) (r : Int32) (S' : ST) (hm : bfX11_at_130_0 x  S p1 p2 = some (r, S')) : Agr wX11_at_130 S S' := by
    unfold bfX11_at_130_0 at hm
    cases h1 : gfX11_isGate_130 x S p1 with
    | none => rw [h1] at hm; cases hm
    | some q2 =>
      obtain ⟨r3, S4⟩ := q2
      rw [h1] at hm
      dsimp only at hm
      have a_S4 : Agr wX11_at_130 S S4 := Agr.tr Agr.rf (Agr.sub (frX11_isGate_130 x S p1 _ _ h1) (by decide))
      by_cases c5 : ¬ r3 = 0
      · rw [if_pos c5] at hm
        by_cases c6 : p2 = 0
        · rw [if_pos c6] at hm
          obtain ⟨o7, hm⟩ := oblk hm
          cases hm
          exact a_S4
        rw [if_neg c6] at hm
        by_cases c8 : p2 = 1
        · rw [if_pos c8] at hm
          obtain ⟨o9, hm⟩ := oblk hm
          cases hm
          exact a_S4
        rw [if_neg c8] at hm
        by_cases c10 : p2 = 2
        · rw [if_pos c10] at hm
          obtain ⟨o11, hm⟩ := oblk hm
          cases hm
          exact a_S4
        rw [if_neg c10] at hm
        by_cases c12 : p2 = 3
        · rw [if_pos c12] at hm
          obtain ⟨o13, hm⟩ := oblk hm
          cases hm
          exact a_S4
        rw [if_neg c12] at hm
        by_cases c14 : p2 = 4
        · rw [if_pos c14] at hm
          obtain ⟨o15, hm⟩ := oblk hm
          cases hm
          exact a_S4
        rw [if_neg c14] at hm
        cases hm
        exact a_S4
      · rw [if_neg c5] at hm
        cases hm
        exact a_S4
theorem frX11_at_130 (x : XT) (S : ST) (p1 : Int32) (p2 : Int32) (r : Int32) (S' : ST) (hm : gfX11_at_130 x S p1 p2 = some (r, S')) : Agr wX11_at_130 S S' := fbX11_at_130_0 x S p1 p2 r S' hm
def wX11_goer_130 : List (Nat × Nat) × List Nat × List Nat × List Nat := ([(130, 0), (130, 31)], [131, 132], [], [])
set_option maxHeartbeats 4000000 in
set_option maxRecDepth 20000 in
theorem fbX11_goer_130_23 (x : XT)  (S : ST)  (r : Int32) (S' : ST) (hm : bfX11_goer_130_23 x  S  = some (r, S')) : Agr wX11_goer_130 S S' := by
    unfold bfX11_goer_130_23 at hm
    cases h1 : gfX11_refuses_130 x S (-1) with
    | none => rw [h1] at hm; cases hm
    | some q2 =>
      obtain ⟨r3, S4⟩ := q2
      rw [h1] at hm
      dsimp only at hm
      have a_S4 : Agr wX11_goer_130 S S4 := Agr.tr Agr.rf (Agr.sub (frX11_refuses_130 x S (-1) _ _ h1) (by decide))
      cases hm
      exact a_S4
set_option maxHeartbeats 4000000 in
set_option maxRecDepth 20000 in
theorem fbX11_goer_130_0 (x : XT)  (S : ST) (p1 : Int32) (p2 : Int32) (p3 : Int32) (r : Int32) (S' : ST) (hm : bfX11_goer_130_0 x  S p1 p2 p3 = some (r, S')) : Agr wX11_goer_130 S S' := by
    unfold bfX11_goer_130_0 at hm
    cases h1 : gfX11_isPark x S p1 with
    | none => rw [h1] at hm; cases hm
    | some q2 =>
      obtain ⟨r3, S4⟩ := q2
      rw [h1] at hm
      dsimp only at hm
      have a_S4 : Agr wX11_goer_130 S S4 := Agr.tr Agr.rf (Agr.sub (frX11_isPark x S p1 _ _ h1) (by decide))
      by_cases c5 : r3 = 0
      · rw [if_pos c5] at hm
        exact Agr.tr a_S4 (fbX11_goer_130_23 x  S4 _ _ hm)
      · rw [if_neg c5] at hm
        cases h6 : gfX11_isMany x S4 p2 with
        | none => rw [h6] at hm; cases hm
        | some q7 =>
          obtain ⟨r8, S9⟩ := q7
          rw [h6] at hm
          dsimp only at hm
          have a_S9 : Agr wX11_goer_130 S S9 := Agr.tr a_S4 (Agr.sub (frX11_isMany x S4 p2 _ _ h6) (by decide))
          by_cases c10 : r8 = 0
          · rw [if_pos c10] at hm
            exact Agr.tr a_S9 (fbX11_goer_130_23 x  S9 _ _ hm)
          · rw [if_neg c10] at hm
            cases h11 : gfX11_lies x S9 p3 0 3 with
            | none => rw [h11] at hm; cases hm
            | some q12 =>
              obtain ⟨r13, S14⟩ := q12
              rw [h11] at hm
              dsimp only at hm
              have a_S14 : Agr wX11_goer_130 S S14 := Agr.tr a_S9 (Agr.sub (frX11_lies x S9 p3 0 3 _ _ h11) (by decide))
              by_cases c15 : ¬ r13 = 0
              · rw [if_pos c15] at hm
                by_cases c16 : ¬ (S14.2.1 132 92) = 5
                · rw [if_pos c16] at hm
                  obtain ⟨o17, hm⟩ := oblk hm
                  obtain ⟨o18, hm⟩ := oblk hm
                  obtain ⟨o19, hm⟩ := oblk hm
                  obtain ⟨o20, hm⟩ := oblk hm
                  cases h21 : gfX11_settled_130 x (S14.1, (u2 (u2 (u2 (u2 (u2 S14.2.1 132 ((0 + (S14.2.1 132 92)).toNatClampNeg) p1) 132 ((5 + (S14.2.1 132 92)).toNatClampNeg) p2) 132 ((10 + (S14.2.1 132 92)).toNatClampNeg) 0) 132 ((66 + (S14.2.1 132 92)).toNatClampNeg) p3) 132 92 (((u2 (u2 (u2 (u2 S14.2.1 132 ((0 + (S14.2.1 132 92)).toNatClampNeg) p1) 132 ((5 + (S14.2.1 132 92)).toNatClampNeg) p2) 132 ((10 + (S14.2.1 132 92)).toNatClampNeg) 0) 132 ((66 + (S14.2.1 132 92)).toNatClampNeg) p3) 132 92) + 1)), S14.2.2.1, S14.2.2.2) (S14.2.1 132 92) with
                  | none => rw [h21] at hm; cases hm
                  | some q22 =>
                    obtain ⟨r23, S24⟩ := q22
                    rw [h21] at hm
                    dsimp only at hm
                    have a_S24 : Agr wX11_goer_130 S S24 := Agr.tr (Agr.i (Agr.i (Agr.i (Agr.i (Agr.i a_S14 132 ((0 + (S14.2.1 132 92)).toNatClampNeg) p1 (by decide)) 132 ((5 + (S14.2.1 132 92)).toNatClampNeg) p2 (by decide)) 132 ((10 + (S14.2.1 132 92)).toNatClampNeg) 0 (by decide)) 132 ((66 + (S14.2.1 132 92)).toNatClampNeg) p3 (by decide)) 132 92 (((u2 (u2 (u2 (u2 S14.2.1 132 ((0 + (S14.2.1 132 92)).toNatClampNeg) p1) 132 ((5 + (S14.2.1 132 92)).toNatClampNeg) p2) 132 ((10 + (S14.2.1 132 92)).toNatClampNeg) 0) 132 ((66 + (S14.2.1 132 92)).toNatClampNeg) p3) 132 92) + 1) (by decide)) (Agr.sub (frX11_settled_130 x (S14.1, (u2 (u2 (u2 (u2 (u2 S14.2.1 132 ((0 + (S14.2.1 132 92)).toNatClampNeg) p1) 132 ((5 + (S14.2.1 132 92)).toNatClampNeg) p2) 132 ((10 + (S14.2.1 132 92)).toNatClampNeg) 0) 132 ((66 + (S14.2.1 132 92)).toNatClampNeg) p3) 132 92 (((u2 (u2 (u2 (u2 S14.2.1 132 ((0 + (S14.2.1 132 92)).toNatClampNeg) p1) 132 ((5 + (S14.2.1 132 92)).toNatClampNeg) p2) 132 ((10 + (S14.2.1 132 92)).toNatClampNeg) 0) 132 ((66 + (S14.2.1 132 92)).toNatClampNeg) p3) 132 92) + 1)), S14.2.2.1, S14.2.2.2) (S14.2.1 132 92) _ _ h21) (by decide))
                    cases hm
                    exact a_S24
                · rw [if_neg c16] at hm
                  cases h25 : gfX11_refuses_130 x S14 (-5) with
                  | none => rw [h25] at hm; cases hm
                  | some q26 =>
                    obtain ⟨r27, S28⟩ := q26
                    rw [h25] at hm
                    dsimp only at hm
                    have a_S28 : Agr wX11_goer_130 S S28 := Agr.tr a_S14 (Agr.sub (frX11_refuses_130 x S14 (-5) _ _ h25) (by decide))
                    cases hm
                    exact a_S28
              · rw [if_neg c15] at hm
                exact Agr.tr a_S14 (fbX11_goer_130_23 x  S14 _ _ hm)
theorem frX11_goer_130 (x : XT) (S : ST) (p1 : Int32) (p2 : Int32) (p3 : Int32) (r : Int32) (S' : ST) (hm : gfX11_goer_130 x S p1 p2 p3 = some (r, S')) : Agr wX11_goer_130 S S' := fbX11_goer_130_0 x S p1 p2 p3 r S' hm
def wX11_setsAsked_130 : List (Nat × Nat) × List Nat × List Nat × List Nat := ([], [142], [], [])
set_option maxHeartbeats 4000000 in
set_option maxRecDepth 20000 in
theorem fbX11_setsAsked_130_0 (x : XT)  (S : ST) (p1 : Int32) (p2 : Int32) (p3 : Int32) (p4 : Int32) (p5 : Int32) (p6 : Int32) (r : Unit) (S' : ST) (hm : bfX11_setsAsked_130_0 x  S p1 p2 p3 p4 p5 p6 = some (r, S')) : Agr wX11_setsAsked_130 S S' := by
    unfold bfX11_setsAsked_130_0 at hm
    cases hm
    exact (Agr.i (Agr.i (Agr.i (Agr.i (Agr.i (Agr.i (Agr.i (Agr.i Agr.rf 142 0 p1 (by decide)) 142 1 p4 (by decide)) 142 2 p5 (by decide)) 142 3 p6 (by decide)) 142 4 (S.2.1 132 90) (by decide)) 142 5 p2 (by decide)) 142 6 p3 (by decide)) 142 7 (S.2.1 132 35) (by decide))
theorem frX11_setsAsked_130 (x : XT) (S : ST) (p1 : Int32) (p2 : Int32) (p3 : Int32) (p4 : Int32) (p5 : Int32) (p6 : Int32) (r : Unit) (S' : ST) (hm : gfX11_setsAsked_130 x S p1 p2 p3 p4 p5 p6 = some (r, S')) : Agr wX11_setsAsked_130 S S' := fbX11_setsAsked_130_0 x S p1 p2 p3 p4 p5 p6 r S' hm
def wX11_setsGate_130 : List (Nat × Nat) × List Nat × List Nat × List Nat := ([], [142], [], [])
set_option maxHeartbeats 4000000 in
set_option maxRecDepth 20000 in
theorem fbX11_setsGate_130_0 (x : XT)  (S : ST) (p1 : Int32) (p2 : Int32) (p3 : Int32) (r : Unit) (S' : ST) (hm : bfX11_setsGate_130_0 x  S p1 p2 p3 = some (r, S')) : Agr wX11_setsGate_130 S S' := by
    unfold bfX11_setsGate_130_0 at hm
    obtain ⟨o1, hm⟩ := oblk hm
    obtain ⟨o2, hm⟩ := oblk hm
    obtain ⟨o3, hm⟩ := oblk hm
    cases h4 : gfX11_setsAsked_130 x S (S.2.1 132 ((56 + p2).toNatClampNeg)) (S.2.1 132 ((15 + p2).toNatClampNeg)) p3 (S.2.1 132 ((66 + p1).toNatClampNeg)) p2 p1 with
    | none => rw [h4] at hm; cases hm
    | some q5 =>
      obtain ⟨r6, S7⟩ := q5
      rw [h4] at hm
      dsimp only at hm
      have a_S7 : Agr wX11_setsGate_130 S S7 := Agr.tr Agr.rf (Agr.sub (frX11_setsAsked_130 x S (S.2.1 132 ((56 + p2).toNatClampNeg)) (S.2.1 132 ((15 + p2).toNatClampNeg)) p3 (S.2.1 132 ((66 + p1).toNatClampNeg)) p2 p1 _ _ h4) (by decide))
      cases hm
      exact a_S7
theorem frX11_setsGate_130 (x : XT) (S : ST) (p1 : Int32) (p2 : Int32) (p3 : Int32) (r : Unit) (S' : ST) (hm : gfX11_setsGate_130 x S p1 p2 p3 = some (r, S')) : Agr wX11_setsGate_130 S S' := fbX11_setsGate_130_0 x S p1 p2 p3 r S' hm
def wX11_codeAt_130 : List (Nat × Nat) × List Nat × List Nat × List Nat := ([], [], [], [])
set_option maxHeartbeats 4000000 in
set_option maxRecDepth 20000 in
theorem fbX11_codeAt_130_21 (x : XT)  (S : ST) (t0 : Int32) (r : Int32) (S' : ST) (hm : bfX11_codeAt_130_21 x  S t0 = some (r, S')) : Agr wX11_codeAt_130 S S' := by
    unfold bfX11_codeAt_130_21 at hm
    cases hm
    exact Agr.rf
set_option maxHeartbeats 4000000 in
set_option maxRecDepth 20000 in
theorem fbX11_codeAt_130_0 (x : XT)  (S : ST) (p1 : Int32) (r : Int32) (S' : ST) (hm : bfX11_codeAt_130_0 x  S p1 = some (r, S')) : Agr wX11_codeAt_130 S S' := by
    unfold bfX11_codeAt_130_0 at hm
    by_cases c1 : (S.1 130 23) ≤ p1
    · rw [if_pos c1] at hm
      exact Agr.tr Agr.rf (fbX11_codeAt_130_21 x  S 0 _ _ hm)
    · rw [if_neg c1] at hm
      obtain ⟨o2, hm⟩ := oblk hm
      exact Agr.tr Agr.rf (fbX11_codeAt_130_21 x  S (S.2.1 132 ((103 + p1).toNatClampNeg)) _ _ hm)
theorem frX11_codeAt_130 (x : XT) (S : ST) (p1 : Int32) (r : Int32) (S' : ST) (hm : gfX11_codeAt_130 x S p1 = some (r, S')) : Agr wX11_codeAt_130 S S' := fbX11_codeAt_130_0 x S p1 r S' hm
def wX11_passes0_130 : List (Nat × Nat) × List Nat × List Nat × List Nat := ([(130, 22)], [], [], [])
set_option maxHeartbeats 4000000 in
set_option maxRecDepth 20000 in
theorem fbX11_passes0_130_32 (x : XT)  (S : ST) (v2 : Int32) (r : Int32) (S' : ST) (hm : bfX11_passes0_130_32 x  S v2 = some (r, S')) : Agr wX11_passes0_130 S S' := by
    unfold bfX11_passes0_130_32 at hm
    obtain ⟨o1, hm⟩ := oblk hm
    cases hm
    exact Agr.rf
set_option maxHeartbeats 4000000 in
set_option maxRecDepth 20000 in
theorem fbX11_passes0_130_17 (x : XT)  (S : ST) (t0 : Int32) (r : Int32) (S' : ST) (hm : bfX11_passes0_130_17 x  S t0 = some (r, S')) : Agr wX11_passes0_130 S S' := by
    unfold bfX11_passes0_130_17 at hm
    by_cases c1 : t0 = 0
    · rw [if_pos c1] at hm
      exact Agr.tr Agr.rf (fbX11_passes0_130_32 x  S t0 _ _ hm)
    · rw [if_neg c1] at hm
      exact Agr.tr (Agr.f Agr.rf 130 22 ((S.1 130 22) + 1) (by decide)) (fbX11_passes0_130_32 x  ((u2 S.1 130 22 ((S.1 130 22) + 1)), S.2.1, S.2.2.1, S.2.2.2) t0 _ _ hm)
set_option maxHeartbeats 4000000 in
set_option maxRecDepth 20000 in
theorem fbX11_passes0_130_0 (x : XT)  (S : ST) (p1 : Int32) (r : Int32) (S' : ST) (hm : bfX11_passes0_130_0 x  S p1 = some (r, S')) : Agr wX11_passes0_130 S S' := by
    unfold bfX11_passes0_130_0 at hm
    cases h1 : gfX11_codeAt_130 x S (S.1 130 22) with
    | none => rw [h1] at hm; cases hm
    | some q2 =>
      obtain ⟨r3, S4⟩ := q2
      rw [h1] at hm
      dsimp only at hm
      have a_S4 : Agr wX11_passes0_130 S S4 := Agr.tr Agr.rf (Agr.sub (frX11_codeAt_130 x S (S.1 130 22) _ _ h1) (by decide))
      by_cases c5 : ¬ r3 = p1
      · rw [if_pos c5] at hm
        exact Agr.tr a_S4 (fbX11_passes0_130_17 x  S4 0 _ _ hm)
      · rw [if_neg c5] at hm
        exact Agr.tr a_S4 (fbX11_passes0_130_17 x  S4 1 _ _ hm)
theorem frX11_passes0_130 (x : XT) (S : ST) (p1 : Int32) (r : Int32) (S' : ST) (hm : gfX11_passes0_130 x S p1 = some (r, S')) : Agr wX11_passes0_130 S S' := fbX11_passes0_130_0 x S p1 r S' hm
def wX11_sign : List (Nat × Nat) × List Nat × List Nat × List Nat := ([], [], [], [])
set_option maxHeartbeats 4000000 in
set_option maxRecDepth 20000 in
theorem fbX11_sign_0 (x : XT)  (S : ST) (p0 : Int32) (r : Int32) (S' : ST) (hm : bfX11_sign_0 x  S p0 = some (r, S')) : Agr wX11_sign S S' := by
    unfold bfX11_sign_0 at hm
    cases hm
    exact Agr.rf
theorem frX11_sign (x : XT) (S : ST) (p0 : Int32) (r : Int32) (S' : ST) (hm : gfX11_sign x S p0 = some (r, S')) : Agr wX11_sign S S' := fbX11_sign_0 x S p0 r S' hm
def wX11_bounded_130 : List (Nat × Nat) × List Nat × List Nat × List Nat := ([(130, 24)], [], [], [])
set_option maxHeartbeats 4000000 in
set_option maxRecDepth 20000 in
theorem fbX11_bounded_130_37 (x : XT)  (S : ST) (t0 : Int64) (r : Int64) (S' : ST) (hm : bfX11_bounded_130_37 x  S t0 = some (r, S')) : Agr wX11_bounded_130 S S' := by
    unfold bfX11_bounded_130_37 at hm
    cases hm
    exact Agr.rf
set_option maxHeartbeats 4000000 in
set_option maxRecDepth 20000 in
theorem fbX11_bounded_130_25 (x : XT)  (S : ST) (v1 : Int64) (r : Int64) (S' : ST) (hm : bfX11_bounded_130_25 x  S v1 = some (r, S')) : Agr wX11_bounded_130 S S' := by
    unfold bfX11_bounded_130_25 at hm
    by_cases c1 : (S.1 130 24) = 0
    · rw [if_pos c1] at hm
      exact Agr.tr Agr.rf (fbX11_bounded_130_37 x  S v1 _ _ hm)
    · rw [if_neg c1] at hm
      exact Agr.tr Agr.rf (fbX11_bounded_130_37 x  S 0 _ _ hm)
set_option maxHeartbeats 4000000 in
set_option maxRecDepth 20000 in
theorem fbX11_bounded_130_20 (x : XT)  (S : ST) (v1 : Int64) (r : Int64) (S' : ST) (hm : bfX11_bounded_130_20 x  S v1 = some (r, S')) : Agr wX11_bounded_130 S S' := by
    unfold bfX11_bounded_130_20 at hm
    exact Agr.tr (Agr.f Agr.rf 130 24 1 (by decide)) (fbX11_bounded_130_25 x  ((u2 S.1 130 24 1), S.2.1, S.2.2.1, S.2.2.2) v1 _ _ hm)
set_option maxHeartbeats 4000000 in
set_option maxRecDepth 20000 in
theorem fbX11_bounded_130_0 (x : XT)  (S : ST) (p1 : Int64) (p3 : Int32) (r : Int64) (S' : ST) (hm : bfX11_bounded_130_0 x  S p1 p3 = some (r, S')) : Agr wX11_bounded_130 S S' := by
    unfold bfX11_bounded_130_0 at hm
    by_cases c1 : p3 = 0
    · rw [if_pos c1] at hm
      exact Agr.tr Agr.rf (fbX11_bounded_130_25 x  S p1 _ _ hm)
    · rw [if_neg c1] at hm
      by_cases c2 : 0 < (lg_cmp p1 1000000000)
      · rw [if_pos c2] at hm
        exact Agr.tr Agr.rf (fbX11_bounded_130_20 x  S p1 _ _ hm)
      · rw [if_neg c2] at hm
        by_cases c3 : 0 ≤ (lg_cmp p1 (-1000000000))
        · rw [if_pos c3] at hm
          exact Agr.tr Agr.rf (fbX11_bounded_130_25 x  S p1 _ _ hm)
        · rw [if_neg c3] at hm
          exact Agr.tr Agr.rf (fbX11_bounded_130_20 x  S p1 _ _ hm)
theorem frX11_bounded_130 (x : XT) (S : ST) (p1 : Int64) (p3 : Int32) (r : Int64) (S' : ST) (hm : gfX11_bounded_130 x S p1 p3 = some (r, S')) : Agr wX11_bounded_130 S S' := fbX11_bounded_130_0 x S p1 p3 r S' hm
def wX11_wholeMany_130 : List (Nat × Nat) × List Nat × List Nat × List Nat := ([], [], [], [])
set_option maxHeartbeats 4000000 in
set_option maxRecDepth 20000 in
theorem fbX11_wholeMany_130_33 (x : XT) (k4 : ST → Int32 → Int32 → Option (Int32 × ST)) (ak4 : ∀ (S : ST) (v1 : Int32) (v2 : Int32) (r : Int32) (S' : ST), k4 S v1 v2 = some (r, S') → Agr wX11_wholeMany_130 S S') (S : ST) (v2 : Int32) (t0 : Int32) (t1 : Int32) (r : Int32) (S' : ST) (hm : bfX11_wholeMany_130_33 x k4 S v2 t0 t1 = some (r, S')) : Agr wX11_wholeMany_130 S S' := by
    unfold bfX11_wholeMany_130_33 at hm
    exact Agr.tr Agr.rf (ak4 S (t0 + t1) (v2 + 1) _ _ hm)
set_option maxHeartbeats 4000000 in
set_option maxRecDepth 20000 in
theorem fbX11_wholeMany_130_4 (x : XT) (k4 : ST → Int32 → Int32 → Option (Int32 × ST)) (ak4 : ∀ (S : ST) (v1 : Int32) (v2 : Int32) (r : Int32) (S' : ST), k4 S v1 v2 = some (r, S') → Agr wX11_wholeMany_130 S S') (S : ST) (v1 : Int32) (v2 : Int32) (r : Int32) (S' : ST) (hm : bfX11_wholeMany_130_4 x k4 S v1 v2 = some (r, S')) : Agr wX11_wholeMany_130 S S' := by
    unfold bfX11_wholeMany_130_4 at hm
    by_cases c1 : (S.2.1 132 92) ≤ v2
    · rw [if_pos c1] at hm
      cases hm
      exact Agr.rf
    · rw [if_neg c1] at hm
      obtain ⟨o2, hm⟩ := oblk hm
      by_cases c3 : ¬ (S.2.1 132 ((5 + v2).toNatClampNeg)) = 1
      · rw [if_pos c3] at hm
        exact Agr.tr Agr.rf (fbX11_wholeMany_130_33 x k4 ak4 S v2 v1 0 _ _ hm)
      · rw [if_neg c3] at hm
        exact Agr.tr Agr.rf (fbX11_wholeMany_130_33 x k4 ak4 S v2 v1 1 _ _ hm)
theorem flX11_wholeMany_130_4 (x : XT)  : ∀ (n : Nat) (S : ST) (v1 : Int32) (v2 : Int32) (r : Int32) (S' : ST), lfX11_wholeMany_130_4 x  n S v1 v2 = some (r, S') → Agr wX11_wholeMany_130 S S'
  | 0, _, _, _, _, _, hm => by cases hm
  | n + 1, S, v1, v2, r, S', hm => fbX11_wholeMany_130_4 x (lfX11_wholeMany_130_4 x  n) (flX11_wholeMany_130_4 x  n) S v1 v2 r S' hm
set_option maxHeartbeats 4000000 in
set_option maxRecDepth 20000 in
theorem fbX11_wholeMany_130_0 (x : XT)  (S : ST)  (r : Int32) (S' : ST) (hm : bfX11_wholeMany_130_0 x  S  = some (r, S')) : Agr wX11_wholeMany_130 S S' := by
    unfold bfX11_wholeMany_130_0 at hm
    exact Agr.tr Agr.rf (flX11_wholeMany_130_4 x  20000 S 0 0 _ _ hm)
theorem frX11_wholeMany_130 (x : XT) (S : ST)  (r : Int32) (S' : ST) (hm : gfX11_wholeMany_130 x S  = some (r, S')) : Agr wX11_wholeMany_130 S S' := fbX11_wholeMany_130_0 x S  r S' hm
def wX11_orderValue_130 : List (Nat × Nat) × List Nat × List Nat × List Nat := ([], [], [], [])
set_option maxHeartbeats 4000000 in
set_option maxRecDepth 20000 in
theorem fbX11_orderValue_130_65 (x : XT)  (S : ST) (t0 : Int32) (r : Int32) (S' : ST) (hm : bfX11_orderValue_130_65 x  S t0 = some (r, S')) : Agr wX11_orderValue_130 S S' := by
    unfold bfX11_orderValue_130_65 at hm
    cases hm
    exact Agr.rf
set_option maxHeartbeats 4000000 in
set_option maxRecDepth 20000 in
theorem fbX11_orderValue_130_86 (x : XT)  (S : ST) (t0 : Int32) (r : Int32) (S' : ST) (hm : bfX11_orderValue_130_86 x  S t0 = some (r, S')) : Agr wX11_orderValue_130 S S' := by
    unfold bfX11_orderValue_130_86 at hm
    cases hm
    exact Agr.rf
set_option maxHeartbeats 4000000 in
set_option maxRecDepth 20000 in
theorem fbX11_orderValue_130_107 (x : XT)  (S : ST) (t0 : Int32) (r : Int32) (S' : ST) (hm : bfX11_orderValue_130_107 x  S t0 = some (r, S')) : Agr wX11_orderValue_130 S S' := by
    unfold bfX11_orderValue_130_107 at hm
    cases hm
    exact Agr.rf
set_option maxHeartbeats 4000000 in
set_option maxRecDepth 20000 in
theorem fbX11_orderValue_130_0 (x : XT)  (S : ST) (p1 : Int32) (p2 : Int32) (r : Int32) (S' : ST) (hm : bfX11_orderValue_130_0 x  S p1 p2 = some (r, S')) : Agr wX11_orderValue_130 S S' := by
    unfold bfX11_orderValue_130_0 at hm
    by_cases c1 : p1 = 13
    · rw [if_pos c1] at hm
      cases h2 : gfX11_isGate_130 x S p2 with
      | none => rw [h2] at hm; cases hm
      | some q3 =>
        obtain ⟨r4, S5⟩ := q3
        rw [h2] at hm
        dsimp only at hm
        have a_S5 : Agr wX11_orderValue_130 S S5 := Agr.tr Agr.rf (Agr.sub (frX11_isGate_130 x S p2 _ _ h2) (by decide))
        by_cases c6 : r4 = 0
        · rw [if_pos c6] at hm
          exact Agr.tr a_S5 (fbX11_orderValue_130_65 x  S5 (-1) _ _ hm)
        · rw [if_neg c6] at hm
          obtain ⟨o7, hm⟩ := oblk hm
          exact Agr.tr a_S5 (fbX11_orderValue_130_65 x  S5 (S5.2.1 132 ((15 + p2).toNatClampNeg)) _ _ hm)
    rw [if_neg c1] at hm
    by_cases c8 : p1 = 14
    · rw [if_pos c8] at hm
      cases h9 : gfX11_isGoer_130 x S p2 with
      | none => rw [h9] at hm; cases hm
      | some q10 =>
        obtain ⟨r11, S12⟩ := q10
        rw [h9] at hm
        dsimp only at hm
        have a_S12 : Agr wX11_orderValue_130 S S12 := Agr.tr Agr.rf (Agr.sub (frX11_isGoer_130 x S p2 _ _ h9) (by decide))
        by_cases c13 : r11 = 0
        · rw [if_pos c13] at hm
          exact Agr.tr a_S12 (fbX11_orderValue_130_86 x  S12 (-1) _ _ hm)
        · rw [if_neg c13] at hm
          obtain ⟨o14, hm⟩ := oblk hm
          exact Agr.tr a_S12 (fbX11_orderValue_130_86 x  S12 (S12.2.1 132 ((5 + p2).toNatClampNeg)) _ _ hm)
    rw [if_neg c8] at hm
    by_cases c15 : p1 = 15
    · rw [if_pos c15] at hm
      cases hm
      exact Agr.rf
    rw [if_neg c15] at hm
    by_cases c16 : p1 = 16
    · rw [if_pos c16] at hm
      cases hm
      exact Agr.rf
    rw [if_neg c16] at hm
    by_cases c17 : p1 = 17
    · rw [if_pos c17] at hm
      cases hm
      exact Agr.rf
    rw [if_neg c17] at hm
    by_cases c18 : p1 = 18
    · rw [if_pos c18] at hm
      cases h19 : gfX11_wholeMany_130 x S with
      | none => rw [h19] at hm; cases hm
      | some q20 =>
        obtain ⟨r21, S22⟩ := q20
        rw [h19] at hm
        dsimp only at hm
        have a_S22 : Agr wX11_orderValue_130 S S22 := Agr.tr Agr.rf (Agr.sub (frX11_wholeMany_130 x S _ _ h19) (by decide))
        cases hm
        exact a_S22
    rw [if_neg c18] at hm
    by_cases c23 : p1 = 19
    · rw [if_pos c23] at hm
      cases h24 : gfX11_isGoer_130 x S p2 with
      | none => rw [h24] at hm; cases hm
      | some q25 =>
        obtain ⟨r26, S27⟩ := q25
        rw [h24] at hm
        dsimp only at hm
        have a_S27 : Agr wX11_orderValue_130 S S27 := Agr.tr Agr.rf (Agr.sub (frX11_isGoer_130 x S p2 _ _ h24) (by decide))
        by_cases c28 : r26 = 0
        · rw [if_pos c28] at hm
          exact Agr.tr a_S27 (fbX11_orderValue_130_107 x  S27 (-1) _ _ hm)
        · rw [if_neg c28] at hm
          obtain ⟨o29, hm⟩ := oblk hm
          exact Agr.tr a_S27 (fbX11_orderValue_130_107 x  S27 (S27.2.1 132 ((0 + p2).toNatClampNeg)) _ _ hm)
    rw [if_neg c23] at hm
    cases h30 : gfX11_wholeMany_130 x S with
    | none => rw [h30] at hm; cases hm
    | some q31 =>
      obtain ⟨r32, S33⟩ := q31
      rw [h30] at hm
      dsimp only at hm
      have a_S33 : Agr wX11_orderValue_130 S S33 := Agr.tr Agr.rf (Agr.sub (frX11_wholeMany_130 x S _ _ h30) (by decide))
      cases hm
      exact a_S33
theorem frX11_orderValue_130 (x : XT) (S : ST) (p1 : Int32) (p2 : Int32) (r : Int32) (S' : ST) (hm : gfX11_orderValue_130 x S p1 p2 = some (r, S')) : Agr wX11_orderValue_130 S S' := fbX11_orderValue_130_0 x S p1 p2 r S' hm
def wX11_sumOf_130 : List (Nat × Nat) × List Nat × List Nat × List Nat := ([(130, 22), (130, 24)], [], [], [])
set_option maxHeartbeats 4000000 in
set_option maxRecDepth 20000 in
theorem fbX11_sumOf_130_95 (x : XT) (rec_X11_sumOf : ST → Int32 → Option (Int64 × ST)) (arec_X11_sumOf : ∀ (S : ST) (z0 : Int32) (r : Int64) (S' : ST), rec_X11_sumOf S z0 = some (r, S') → Agr wX11_sumOf_130 S S') (rec_X11_termOf : ST → Int32 → Option (Int64 × ST)) (arec_X11_termOf : ∀ (S : ST) (z0 : Int32) (r : Int64) (S' : ST), rec_X11_termOf S z0 = some (r, S') → Agr wX11_sumOf_130 S S') (rec_X11_partOf : ST → Int32 → Option (Int64 × ST)) (arec_X11_partOf : ∀ (S : ST) (z0 : Int32) (r : Int64) (S' : ST), rec_X11_partOf S z0 = some (r, S') → Agr wX11_sumOf_130 S S') (k6 : ST → Int32 → Int64 → Option (Int64 × ST)) (ak6 : ∀ (S : ST) (v1 : Int32) (v2 : Int64) (r : Int64) (S' : ST), k6 S v1 v2 = some (r, S') → Agr wX11_sumOf_130 S S') (S : ST) (v1 : Int32) (t1 : Int64) (r : Int64) (S' : ST) (hm : bfX11_sumOf_130_95 x rec_X11_sumOf rec_X11_termOf rec_X11_partOf k6 S v1 t1 = some (r, S')) : Agr wX11_sumOf_130 S S' := by
    unfold bfX11_sumOf_130_95 at hm
    cases h1 : gfX11_bounded_130 x S t1 v1 with
    | none => rw [h1] at hm; cases hm
    | some q2 =>
      obtain ⟨r3, S4⟩ := q2
      rw [h1] at hm
      dsimp only at hm
      have a_S4 : Agr wX11_sumOf_130 S S4 := Agr.tr Agr.rf (Agr.sub (frX11_bounded_130 x S t1 v1 _ _ h1) (by decide))
      exact Agr.tr a_S4 (ak6 S4 v1 r3 _ _ hm)
set_option maxHeartbeats 4000000 in
set_option maxRecDepth 20000 in
theorem fbX11_sumOf_130_59 (x : XT) (rec_X11_sumOf : ST → Int32 → Option (Int64 × ST)) (arec_X11_sumOf : ∀ (S : ST) (z0 : Int32) (r : Int64) (S' : ST), rec_X11_sumOf S z0 = some (r, S') → Agr wX11_sumOf_130 S S') (rec_X11_termOf : ST → Int32 → Option (Int64 × ST)) (arec_X11_termOf : ∀ (S : ST) (z0 : Int32) (r : Int64) (S' : ST), rec_X11_termOf S z0 = some (r, S') → Agr wX11_sumOf_130 S S') (rec_X11_partOf : ST → Int32 → Option (Int64 × ST)) (arec_X11_partOf : ∀ (S : ST) (z0 : Int32) (r : Int64) (S' : ST), rec_X11_partOf S z0 = some (r, S') → Agr wX11_sumOf_130 S S') (k6 : ST → Int32 → Int64 → Option (Int64 × ST)) (ak6 : ∀ (S : ST) (v1 : Int32) (v2 : Int64) (r : Int64) (S' : ST), k6 S v1 v2 = some (r, S') → Agr wX11_sumOf_130 S S') (S : ST) (v1 : Int32) (v2 : Int64) (t0 : Int32) (r : Int64) (S' : ST) (hm : bfX11_sumOf_130_59 x rec_X11_sumOf rec_X11_termOf rec_X11_partOf k6 S v1 v2 t0 = some (r, S')) : Agr wX11_sumOf_130 S S' := by
    unfold bfX11_sumOf_130_59 at hm
    cases h1 : rec_X11_termOf ((u2 S.1 130 22 ((S.1 130 22) + 1)), S.2.1, S.2.2.1, S.2.2.2) v1 with
    | none => rw [h1] at hm; cases hm
    | some q2 =>
      obtain ⟨r3, S4⟩ := q2
      rw [h1] at hm
      dsimp only at hm
      have a_S4 : Agr wX11_sumOf_130 S S4 := Agr.tr (Agr.f Agr.rf 130 22 ((S.1 130 22) + 1) (by decide)) (arec_X11_termOf ((u2 S.1 130 22 ((S.1 130 22) + 1)), S.2.1, S.2.2.1, S.2.2.2) v1 _ _ h1)
      by_cases c5 : t0 = 0
      · rw [if_pos c5] at hm
        exact Agr.tr a_S4 (fbX11_sumOf_130_95 x rec_X11_sumOf arec_X11_sumOf rec_X11_termOf arec_X11_termOf rec_X11_partOf arec_X11_partOf k6 ak6 S4 v1 (v2 - r3) _ _ hm)
      · rw [if_neg c5] at hm
        exact Agr.tr a_S4 (fbX11_sumOf_130_95 x rec_X11_sumOf arec_X11_sumOf rec_X11_termOf arec_X11_termOf rec_X11_partOf arec_X11_partOf k6 ak6 S4 v1 (v2 + r3) _ _ hm)
set_option maxHeartbeats 4000000 in
set_option maxRecDepth 20000 in
theorem fbX11_sumOf_130_38 (x : XT) (rec_X11_sumOf : ST → Int32 → Option (Int64 × ST)) (arec_X11_sumOf : ∀ (S : ST) (z0 : Int32) (r : Int64) (S' : ST), rec_X11_sumOf S z0 = some (r, S') → Agr wX11_sumOf_130 S S') (rec_X11_termOf : ST → Int32 → Option (Int64 × ST)) (arec_X11_termOf : ∀ (S : ST) (z0 : Int32) (r : Int64) (S' : ST), rec_X11_termOf S z0 = some (r, S') → Agr wX11_sumOf_130 S S') (rec_X11_partOf : ST → Int32 → Option (Int64 × ST)) (arec_X11_partOf : ∀ (S : ST) (z0 : Int32) (r : Int64) (S' : ST), rec_X11_partOf S z0 = some (r, S') → Agr wX11_sumOf_130 S S') (k6 : ST → Int32 → Int64 → Option (Int64 × ST)) (ak6 : ∀ (S : ST) (v1 : Int32) (v2 : Int64) (r : Int64) (S' : ST), k6 S v1 v2 = some (r, S') → Agr wX11_sumOf_130 S S') (S : ST) (v1 : Int32) (v2 : Int64) (r : Int64) (S' : ST) (hm : bfX11_sumOf_130_38 x rec_X11_sumOf rec_X11_termOf rec_X11_partOf k6 S v1 v2 = some (r, S')) : Agr wX11_sumOf_130 S S' := by
    unfold bfX11_sumOf_130_38 at hm
    cases h1 : gfX11_codeAt_130 x S (S.1 130 22) with
    | none => rw [h1] at hm; cases hm
    | some q2 =>
      obtain ⟨r3, S4⟩ := q2
      rw [h1] at hm
      dsimp only at hm
      have a_S4 : Agr wX11_sumOf_130 S S4 := Agr.tr Agr.rf (Agr.sub (frX11_codeAt_130 x S (S.1 130 22) _ _ h1) (by decide))
      cases h5 : gfX11_sign x S4 43 with
      | none => rw [h5] at hm; cases hm
      | some q6 =>
        obtain ⟨r7, S8⟩ := q6
        rw [h5] at hm
        dsimp only at hm
        have a_S8 : Agr wX11_sumOf_130 S S8 := Agr.tr a_S4 (Agr.sub (frX11_sign x S4 43 _ _ h5) (by decide))
        by_cases c9 : ¬ r3 = r7
        · rw [if_pos c9] at hm
          exact Agr.tr a_S8 (fbX11_sumOf_130_59 x rec_X11_sumOf arec_X11_sumOf rec_X11_termOf arec_X11_termOf rec_X11_partOf arec_X11_partOf k6 ak6 S8 v1 v2 0 _ _ hm)
        · rw [if_neg c9] at hm
          exact Agr.tr a_S8 (fbX11_sumOf_130_59 x rec_X11_sumOf arec_X11_sumOf rec_X11_termOf arec_X11_termOf rec_X11_partOf arec_X11_partOf k6 ak6 S8 v1 v2 1 _ _ hm)
set_option maxHeartbeats 4000000 in
set_option maxRecDepth 20000 in
theorem fbX11_sumOf_130_6 (x : XT) (rec_X11_sumOf : ST → Int32 → Option (Int64 × ST)) (arec_X11_sumOf : ∀ (S : ST) (z0 : Int32) (r : Int64) (S' : ST), rec_X11_sumOf S z0 = some (r, S') → Agr wX11_sumOf_130 S S') (rec_X11_termOf : ST → Int32 → Option (Int64 × ST)) (arec_X11_termOf : ∀ (S : ST) (z0 : Int32) (r : Int64) (S' : ST), rec_X11_termOf S z0 = some (r, S') → Agr wX11_sumOf_130 S S') (rec_X11_partOf : ST → Int32 → Option (Int64 × ST)) (arec_X11_partOf : ∀ (S : ST) (z0 : Int32) (r : Int64) (S' : ST), rec_X11_partOf S z0 = some (r, S') → Agr wX11_sumOf_130 S S') (k6 : ST → Int32 → Int64 → Option (Int64 × ST)) (ak6 : ∀ (S : ST) (v1 : Int32) (v2 : Int64) (r : Int64) (S' : ST), k6 S v1 v2 = some (r, S') → Agr wX11_sumOf_130 S S') (S : ST) (v1 : Int32) (v2 : Int64) (r : Int64) (S' : ST) (hm : bfX11_sumOf_130_6 x rec_X11_sumOf rec_X11_termOf rec_X11_partOf k6 S v1 v2 = some (r, S')) : Agr wX11_sumOf_130 S S' := by
    unfold bfX11_sumOf_130_6 at hm
    cases h1 : gfX11_codeAt_130 x S (S.1 130 22) with
    | none => rw [h1] at hm; cases hm
    | some q2 =>
      obtain ⟨r3, S4⟩ := q2
      rw [h1] at hm
      dsimp only at hm
      have a_S4 : Agr wX11_sumOf_130 S S4 := Agr.tr Agr.rf (Agr.sub (frX11_codeAt_130 x S (S.1 130 22) _ _ h1) (by decide))
      cases h5 : gfX11_sign x S4 43 with
      | none => rw [h5] at hm; cases hm
      | some q6 =>
        obtain ⟨r7, S8⟩ := q6
        rw [h5] at hm
        dsimp only at hm
        have a_S8 : Agr wX11_sumOf_130 S S8 := Agr.tr a_S4 (Agr.sub (frX11_sign x S4 43 _ _ h5) (by decide))
        by_cases c9 : r3 = r7
        · rw [if_pos c9] at hm
          exact Agr.tr a_S8 (fbX11_sumOf_130_38 x rec_X11_sumOf arec_X11_sumOf rec_X11_termOf arec_X11_termOf rec_X11_partOf arec_X11_partOf k6 ak6 S8 v1 v2 _ _ hm)
        · rw [if_neg c9] at hm
          cases h10 : gfX11_codeAt_130 x S8 (S8.1 130 22) with
          | none => rw [h10] at hm; cases hm
          | some q11 =>
            obtain ⟨r12, S13⟩ := q11
            rw [h10] at hm
            dsimp only at hm
            have a_S13 : Agr wX11_sumOf_130 S S13 := Agr.tr a_S8 (Agr.sub (frX11_codeAt_130 x S8 (S8.1 130 22) _ _ h10) (by decide))
            cases h14 : gfX11_sign x S13 45 with
            | none => rw [h14] at hm; cases hm
            | some q15 =>
              obtain ⟨r16, S17⟩ := q15
              rw [h14] at hm
              dsimp only at hm
              have a_S17 : Agr wX11_sumOf_130 S S17 := Agr.tr a_S13 (Agr.sub (frX11_sign x S13 45 _ _ h14) (by decide))
              by_cases c18 : ¬ r12 = r16
              · rw [if_pos c18] at hm
                cases hm
                exact a_S17
              · rw [if_neg c18] at hm
                exact Agr.tr a_S17 (fbX11_sumOf_130_38 x rec_X11_sumOf arec_X11_sumOf rec_X11_termOf arec_X11_termOf rec_X11_partOf arec_X11_partOf k6 ak6 S17 v1 v2 _ _ hm)
theorem flX11_sumOf_130_6 (x : XT) (rec_X11_sumOf : ST → Int32 → Option (Int64 × ST)) (arec_X11_sumOf : ∀ (S : ST) (z0 : Int32) (r : Int64) (S' : ST), rec_X11_sumOf S z0 = some (r, S') → Agr wX11_sumOf_130 S S') (rec_X11_termOf : ST → Int32 → Option (Int64 × ST)) (arec_X11_termOf : ∀ (S : ST) (z0 : Int32) (r : Int64) (S' : ST), rec_X11_termOf S z0 = some (r, S') → Agr wX11_sumOf_130 S S') (rec_X11_partOf : ST → Int32 → Option (Int64 × ST)) (arec_X11_partOf : ∀ (S : ST) (z0 : Int32) (r : Int64) (S' : ST), rec_X11_partOf S z0 = some (r, S') → Agr wX11_sumOf_130 S S')  : ∀ (n : Nat) (S : ST) (v1 : Int32) (v2 : Int64) (r : Int64) (S' : ST), lfX11_sumOf_130_6 x rec_X11_sumOf rec_X11_termOf rec_X11_partOf  n S v1 v2 = some (r, S') → Agr wX11_sumOf_130 S S'
  | 0, _, _, _, _, _, hm => by cases hm
  | n + 1, S, v1, v2, r, S', hm => fbX11_sumOf_130_6 x rec_X11_sumOf arec_X11_sumOf rec_X11_termOf arec_X11_termOf rec_X11_partOf arec_X11_partOf (lfX11_sumOf_130_6 x rec_X11_sumOf rec_X11_termOf rec_X11_partOf  n) (flX11_sumOf_130_6 x rec_X11_sumOf arec_X11_sumOf rec_X11_termOf arec_X11_termOf rec_X11_partOf arec_X11_partOf  n) S v1 v2 r S' hm
set_option maxHeartbeats 4000000 in
set_option maxRecDepth 20000 in
theorem fbX11_sumOf_130_0 (x : XT) (rec_X11_sumOf : ST → Int32 → Option (Int64 × ST)) (arec_X11_sumOf : ∀ (S : ST) (z0 : Int32) (r : Int64) (S' : ST), rec_X11_sumOf S z0 = some (r, S') → Agr wX11_sumOf_130 S S') (rec_X11_termOf : ST → Int32 → Option (Int64 × ST)) (arec_X11_termOf : ∀ (S : ST) (z0 : Int32) (r : Int64) (S' : ST), rec_X11_termOf S z0 = some (r, S') → Agr wX11_sumOf_130 S S') (rec_X11_partOf : ST → Int32 → Option (Int64 × ST)) (arec_X11_partOf : ∀ (S : ST) (z0 : Int32) (r : Int64) (S' : ST), rec_X11_partOf S z0 = some (r, S') → Agr wX11_sumOf_130 S S')  (S : ST) (p1 : Int32) (r : Int64) (S' : ST) (hm : bfX11_sumOf_130_0 x rec_X11_sumOf rec_X11_termOf rec_X11_partOf  S p1 = some (r, S')) : Agr wX11_sumOf_130 S S' := by
    unfold bfX11_sumOf_130_0 at hm
    cases h1 : rec_X11_termOf S p1 with
    | none => rw [h1] at hm; cases hm
    | some q2 =>
      obtain ⟨r3, S4⟩ := q2
      rw [h1] at hm
      dsimp only at hm
      have a_S4 : Agr wX11_sumOf_130 S S4 := Agr.tr Agr.rf (arec_X11_termOf S p1 _ _ h1)
      exact Agr.tr a_S4 (flX11_sumOf_130_6 x rec_X11_sumOf arec_X11_sumOf rec_X11_termOf arec_X11_termOf rec_X11_partOf arec_X11_partOf  20000 S4 p1 r3 _ _ hm)
theorem frrX11_sumOf_130 (x : XT) (rec_X11_sumOf : ST → Int32 → Option (Int64 × ST)) (arec_X11_sumOf : ∀ (S : ST) (z0 : Int32) (r : Int64) (S' : ST), rec_X11_sumOf S z0 = some (r, S') → Agr wX11_sumOf_130 S S') (rec_X11_termOf : ST → Int32 → Option (Int64 × ST)) (arec_X11_termOf : ∀ (S : ST) (z0 : Int32) (r : Int64) (S' : ST), rec_X11_termOf S z0 = some (r, S') → Agr wX11_sumOf_130 S S') (rec_X11_partOf : ST → Int32 → Option (Int64 × ST)) (arec_X11_partOf : ∀ (S : ST) (z0 : Int32) (r : Int64) (S' : ST), rec_X11_partOf S z0 = some (r, S') → Agr wX11_sumOf_130 S S') (S : ST) (p1 : Int32) (r : Int64) (S' : ST) (hm : grfX11_sumOf_130 x rec_X11_sumOf rec_X11_termOf rec_X11_partOf S p1 = some (r, S')) : Agr wX11_sumOf_130 S S' := fbX11_sumOf_130_0 x rec_X11_sumOf arec_X11_sumOf rec_X11_termOf arec_X11_termOf rec_X11_partOf arec_X11_partOf S p1 r S' hm
set_option maxHeartbeats 4000000 in
set_option maxRecDepth 20000 in
theorem fbX11_termOf_130_160 (x : XT) (rec_X11_sumOf : ST → Int32 → Option (Int64 × ST)) (arec_X11_sumOf : ∀ (S : ST) (z0 : Int32) (r : Int64) (S' : ST), rec_X11_sumOf S z0 = some (r, S') → Agr wX11_sumOf_130 S S') (rec_X11_termOf : ST → Int32 → Option (Int64 × ST)) (arec_X11_termOf : ∀ (S : ST) (z0 : Int32) (r : Int64) (S' : ST), rec_X11_termOf S z0 = some (r, S') → Agr wX11_sumOf_130 S S') (rec_X11_partOf : ST → Int32 → Option (Int64 × ST)) (arec_X11_partOf : ∀ (S : ST) (z0 : Int32) (r : Int64) (S' : ST), rec_X11_partOf S z0 = some (r, S') → Agr wX11_sumOf_130 S S') (k6 : ST → Int32 → Int64 → Option (Int64 × ST)) (ak6 : ∀ (S : ST) (v1 : Int32) (v2 : Int64) (r : Int64) (S' : ST), k6 S v1 v2 = some (r, S') → Agr wX11_sumOf_130 S S') (S : ST) (v1 : Int32) (t1 : Int64) (r : Int64) (S' : ST) (hm : bfX11_termOf_130_160 x rec_X11_sumOf rec_X11_termOf rec_X11_partOf k6 S v1 t1 = some (r, S')) : Agr wX11_sumOf_130 S S' := by
    unfold bfX11_termOf_130_160 at hm
    cases h1 : gfX11_bounded_130 x S t1 v1 with
    | none => rw [h1] at hm; cases hm
    | some q2 =>
      obtain ⟨r3, S4⟩ := q2
      rw [h1] at hm
      dsimp only at hm
      have a_S4 : Agr wX11_sumOf_130 S S4 := Agr.tr Agr.rf (Agr.sub (frX11_bounded_130 x S t1 v1 _ _ h1) (by decide))
      exact Agr.tr a_S4 (ak6 S4 v1 r3 _ _ hm)
set_option maxHeartbeats 4000000 in
set_option maxRecDepth 20000 in
theorem fbX11_termOf_130_121 (x : XT) (rec_X11_sumOf : ST → Int32 → Option (Int64 × ST)) (arec_X11_sumOf : ∀ (S : ST) (z0 : Int32) (r : Int64) (S' : ST), rec_X11_sumOf S z0 = some (r, S') → Agr wX11_sumOf_130 S S') (rec_X11_termOf : ST → Int32 → Option (Int64 × ST)) (arec_X11_termOf : ∀ (S : ST) (z0 : Int32) (r : Int64) (S' : ST), rec_X11_termOf S z0 = some (r, S') → Agr wX11_sumOf_130 S S') (rec_X11_partOf : ST → Int32 → Option (Int64 × ST)) (arec_X11_partOf : ∀ (S : ST) (z0 : Int32) (r : Int64) (S' : ST), rec_X11_partOf S z0 = some (r, S') → Agr wX11_sumOf_130 S S') (k6 : ST → Int32 → Int64 → Option (Int64 × ST)) (ak6 : ∀ (S : ST) (v1 : Int32) (v2 : Int64) (r : Int64) (S' : ST), k6 S v1 v2 = some (r, S') → Agr wX11_sumOf_130 S S') (S : ST) (v1 : Int32) (v2 : Int64) (v4 : Int32) (v5 : Int64) (r : Int64) (S' : ST) (hm : bfX11_termOf_130_121 x rec_X11_sumOf rec_X11_termOf rec_X11_partOf k6 S v1 v2 v4 v5 = some (r, S')) : Agr wX11_sumOf_130 S S' := by
    unfold bfX11_termOf_130_121 at hm
    cases h1 : gfX11_sign x S 42 with
    | none => rw [h1] at hm; cases hm
    | some q2 =>
      obtain ⟨r3, S4⟩ := q2
      rw [h1] at hm
      dsimp only at hm
      have a_S4 : Agr wX11_sumOf_130 S S4 := Agr.tr Agr.rf (Agr.sub (frX11_sign x S 42 _ _ h1) (by decide))
      by_cases c5 : ¬ v4 = r3
      · rw [if_pos c5] at hm
        cases h6 : gfX11_sign x S4 47 with
        | none => rw [h6] at hm; cases hm
        | some q7 =>
          obtain ⟨r8, S9⟩ := q7
          rw [h6] at hm
          dsimp only at hm
          have a_S9 : Agr wX11_sumOf_130 S S9 := Agr.tr a_S4 (Agr.sub (frX11_sign x S4 47 _ _ h6) (by decide))
          by_cases c10 : ¬ v4 = r8
          · rw [if_pos c10] at hm
            obtain ⟨o11, hm⟩ := oblk hm
            exact Agr.tr a_S9 (fbX11_termOf_130_160 x rec_X11_sumOf arec_X11_sumOf rec_X11_termOf arec_X11_termOf rec_X11_partOf arec_X11_partOf k6 ak6 S9 v1 (v2 - v2 / v5 * v5) _ _ hm)
          · rw [if_neg c10] at hm
            obtain ⟨o12, hm⟩ := oblk hm
            exact Agr.tr a_S9 (fbX11_termOf_130_160 x rec_X11_sumOf arec_X11_sumOf rec_X11_termOf arec_X11_termOf rec_X11_partOf arec_X11_partOf k6 ak6 S9 v1 (v2 / v5) _ _ hm)
      · rw [if_neg c5] at hm
        exact Agr.tr a_S4 (fbX11_termOf_130_160 x rec_X11_sumOf arec_X11_sumOf rec_X11_termOf arec_X11_termOf rec_X11_partOf arec_X11_partOf k6 ak6 S4 v1 (v2 * v5) _ _ hm)
set_option maxHeartbeats 4000000 in
set_option maxRecDepth 20000 in
theorem fbX11_termOf_130_115 (x : XT) (rec_X11_sumOf : ST → Int32 → Option (Int64 × ST)) (arec_X11_sumOf : ∀ (S : ST) (z0 : Int32) (r : Int64) (S' : ST), rec_X11_sumOf S z0 = some (r, S') → Agr wX11_sumOf_130 S S') (rec_X11_termOf : ST → Int32 → Option (Int64 × ST)) (arec_X11_termOf : ∀ (S : ST) (z0 : Int32) (r : Int64) (S' : ST), rec_X11_termOf S z0 = some (r, S') → Agr wX11_sumOf_130 S S') (rec_X11_partOf : ST → Int32 → Option (Int64 × ST)) (arec_X11_partOf : ∀ (S : ST) (z0 : Int32) (r : Int64) (S' : ST), rec_X11_partOf S z0 = some (r, S') → Agr wX11_sumOf_130 S S') (k6 : ST → Int32 → Int64 → Option (Int64 × ST)) (ak6 : ∀ (S : ST) (v1 : Int32) (v2 : Int64) (r : Int64) (S' : ST), k6 S v1 v2 = some (r, S') → Agr wX11_sumOf_130 S S') (S : ST) (v1 : Int32) (v2 : Int64) (v4 : Int32) (t1 : Int32) (r : Int64) (S' : ST) (hm : bfX11_termOf_130_115 x rec_X11_sumOf rec_X11_termOf rec_X11_partOf k6 S v1 v2 v4 t1 = some (r, S')) : Agr wX11_sumOf_130 S S' := by
    unfold bfX11_termOf_130_115 at hm
    obtain ⟨o1, hm⟩ := oblk hm
    exact Agr.tr (Agr.f Agr.rf 130 24 t1 (by decide)) (fbX11_termOf_130_121 x rec_X11_sumOf arec_X11_sumOf rec_X11_termOf arec_X11_termOf rec_X11_partOf arec_X11_partOf k6 ak6 ((u2 S.1 130 24 t1), S.2.1, S.2.2.1, S.2.2.2) v1 v2 v4 1 _ _ hm)
set_option maxHeartbeats 4000000 in
set_option maxRecDepth 20000 in
theorem fbX11_termOf_130_110 (x : XT) (rec_X11_sumOf : ST → Int32 → Option (Int64 × ST)) (arec_X11_sumOf : ∀ (S : ST) (z0 : Int32) (r : Int64) (S' : ST), rec_X11_sumOf S z0 = some (r, S') → Agr wX11_sumOf_130 S S') (rec_X11_termOf : ST → Int32 → Option (Int64 × ST)) (arec_X11_termOf : ∀ (S : ST) (z0 : Int32) (r : Int64) (S' : ST), rec_X11_termOf S z0 = some (r, S') → Agr wX11_sumOf_130 S S') (rec_X11_partOf : ST → Int32 → Option (Int64 × ST)) (arec_X11_partOf : ∀ (S : ST) (z0 : Int32) (r : Int64) (S' : ST), rec_X11_partOf S z0 = some (r, S') → Agr wX11_sumOf_130 S S') (k6 : ST → Int32 → Int64 → Option (Int64 × ST)) (ak6 : ∀ (S : ST) (v1 : Int32) (v2 : Int64) (r : Int64) (S' : ST), k6 S v1 v2 = some (r, S') → Agr wX11_sumOf_130 S S') (S : ST) (v1 : Int32) (v2 : Int64) (v4 : Int32) (r : Int64) (S' : ST) (hm : bfX11_termOf_130_110 x rec_X11_sumOf rec_X11_termOf rec_X11_partOf k6 S v1 v2 v4 = some (r, S')) : Agr wX11_sumOf_130 S S' := by
    unfold bfX11_termOf_130_110 at hm
    exact Agr.tr Agr.rf (fbX11_termOf_130_115 x rec_X11_sumOf arec_X11_sumOf rec_X11_termOf arec_X11_termOf rec_X11_partOf arec_X11_partOf k6 ak6 S v1 v2 v4 1 _ _ hm)
set_option maxHeartbeats 4000000 in
set_option maxRecDepth 20000 in
theorem fbX11_termOf_130_54 (x : XT) (rec_X11_sumOf : ST → Int32 → Option (Int64 × ST)) (arec_X11_sumOf : ∀ (S : ST) (z0 : Int32) (r : Int64) (S' : ST), rec_X11_sumOf S z0 = some (r, S') → Agr wX11_sumOf_130 S S') (rec_X11_termOf : ST → Int32 → Option (Int64 × ST)) (arec_X11_termOf : ∀ (S : ST) (z0 : Int32) (r : Int64) (S' : ST), rec_X11_termOf S z0 = some (r, S') → Agr wX11_sumOf_130 S S') (rec_X11_partOf : ST → Int32 → Option (Int64 × ST)) (arec_X11_partOf : ∀ (S : ST) (z0 : Int32) (r : Int64) (S' : ST), rec_X11_partOf S z0 = some (r, S') → Agr wX11_sumOf_130 S S') (k6 : ST → Int32 → Int64 → Option (Int64 × ST)) (ak6 : ∀ (S : ST) (v1 : Int32) (v2 : Int64) (r : Int64) (S' : ST), k6 S v1 v2 = some (r, S') → Agr wX11_sumOf_130 S S') (S : ST) (v1 : Int32) (v2 : Int64) (r : Int64) (S' : ST) (hm : bfX11_termOf_130_54 x rec_X11_sumOf rec_X11_termOf rec_X11_partOf k6 S v1 v2 = some (r, S')) : Agr wX11_sumOf_130 S S' := by
    unfold bfX11_termOf_130_54 at hm
    cases h1 : gfX11_codeAt_130 x S (S.1 130 22) with
    | none => rw [h1] at hm; cases hm
    | some q2 =>
      obtain ⟨r3, S4⟩ := q2
      rw [h1] at hm
      dsimp only at hm
      have a_S4 : Agr wX11_sumOf_130 S S4 := Agr.tr Agr.rf (Agr.sub (frX11_codeAt_130 x S (S.1 130 22) _ _ h1) (by decide))
      cases h5 : rec_X11_partOf ((u2 S4.1 130 22 ((S4.1 130 22) + 1)), S4.2.1, S4.2.2.1, S4.2.2.2) v1 with
      | none => rw [h5] at hm; cases hm
      | some q6 =>
        obtain ⟨r7, S8⟩ := q6
        rw [h5] at hm
        dsimp only at hm
        have a_S8 : Agr wX11_sumOf_130 S S8 := Agr.tr (Agr.f a_S4 130 22 ((S4.1 130 22) + 1) (by decide)) (arec_X11_partOf ((u2 S4.1 130 22 ((S4.1 130 22) + 1)), S4.2.1, S4.2.2.1, S4.2.2.2) v1 _ _ h5)
        cases h9 : gfX11_sign x S8 42 with
        | none => rw [h9] at hm; cases hm
        | some q10 =>
          obtain ⟨r11, S12⟩ := q10
          rw [h9] at hm
          dsimp only at hm
          have a_S12 : Agr wX11_sumOf_130 S S12 := Agr.tr a_S8 (Agr.sub (frX11_sign x S8 42 _ _ h9) (by decide))
          by_cases c13 : r3 = r11
          · rw [if_pos c13] at hm
            exact Agr.tr a_S12 (fbX11_termOf_130_121 x rec_X11_sumOf arec_X11_sumOf rec_X11_termOf arec_X11_termOf rec_X11_partOf arec_X11_partOf k6 ak6 S12 v1 v2 r3 r7 _ _ hm)
          · rw [if_neg c13] at hm
            by_cases c14 : ¬ (lg_cmp r7 0) = 0
            · rw [if_pos c14] at hm
              exact Agr.tr a_S12 (fbX11_termOf_130_121 x rec_X11_sumOf arec_X11_sumOf rec_X11_termOf arec_X11_termOf rec_X11_partOf arec_X11_partOf k6 ak6 S12 v1 v2 r3 r7 _ _ hm)
            · rw [if_neg c14] at hm
              by_cases c15 : ¬ (S12.1 130 24) = 0
              · rw [if_pos c15] at hm
                exact Agr.tr a_S12 (fbX11_termOf_130_110 x rec_X11_sumOf arec_X11_sumOf rec_X11_termOf arec_X11_termOf rec_X11_partOf arec_X11_partOf k6 ak6 S12 v1 v2 r3 _ _ hm)
              · rw [if_neg c15] at hm
                by_cases c16 : v1 = 0
                · rw [if_pos c16] at hm
                  exact Agr.tr a_S12 (fbX11_termOf_130_115 x rec_X11_sumOf arec_X11_sumOf rec_X11_termOf arec_X11_termOf rec_X11_partOf arec_X11_partOf k6 ak6 S12 v1 v2 r3 0 _ _ hm)
                · rw [if_neg c16] at hm
                  exact Agr.tr a_S12 (fbX11_termOf_130_110 x rec_X11_sumOf arec_X11_sumOf rec_X11_termOf arec_X11_termOf rec_X11_partOf arec_X11_partOf k6 ak6 S12 v1 v2 r3 _ _ hm)
set_option maxHeartbeats 4000000 in
set_option maxRecDepth 20000 in
theorem fbX11_termOf_130_6 (x : XT) (rec_X11_sumOf : ST → Int32 → Option (Int64 × ST)) (arec_X11_sumOf : ∀ (S : ST) (z0 : Int32) (r : Int64) (S' : ST), rec_X11_sumOf S z0 = some (r, S') → Agr wX11_sumOf_130 S S') (rec_X11_termOf : ST → Int32 → Option (Int64 × ST)) (arec_X11_termOf : ∀ (S : ST) (z0 : Int32) (r : Int64) (S' : ST), rec_X11_termOf S z0 = some (r, S') → Agr wX11_sumOf_130 S S') (rec_X11_partOf : ST → Int32 → Option (Int64 × ST)) (arec_X11_partOf : ∀ (S : ST) (z0 : Int32) (r : Int64) (S' : ST), rec_X11_partOf S z0 = some (r, S') → Agr wX11_sumOf_130 S S') (k6 : ST → Int32 → Int64 → Option (Int64 × ST)) (ak6 : ∀ (S : ST) (v1 : Int32) (v2 : Int64) (r : Int64) (S' : ST), k6 S v1 v2 = some (r, S') → Agr wX11_sumOf_130 S S') (S : ST) (v1 : Int32) (v2 : Int64) (r : Int64) (S' : ST) (hm : bfX11_termOf_130_6 x rec_X11_sumOf rec_X11_termOf rec_X11_partOf k6 S v1 v2 = some (r, S')) : Agr wX11_sumOf_130 S S' := by
    unfold bfX11_termOf_130_6 at hm
    cases h1 : gfX11_codeAt_130 x S (S.1 130 22) with
    | none => rw [h1] at hm; cases hm
    | some q2 =>
      obtain ⟨r3, S4⟩ := q2
      rw [h1] at hm
      dsimp only at hm
      have a_S4 : Agr wX11_sumOf_130 S S4 := Agr.tr Agr.rf (Agr.sub (frX11_codeAt_130 x S (S.1 130 22) _ _ h1) (by decide))
      cases h5 : gfX11_sign x S4 42 with
      | none => rw [h5] at hm; cases hm
      | some q6 =>
        obtain ⟨r7, S8⟩ := q6
        rw [h5] at hm
        dsimp only at hm
        have a_S8 : Agr wX11_sumOf_130 S S8 := Agr.tr a_S4 (Agr.sub (frX11_sign x S4 42 _ _ h5) (by decide))
        by_cases c9 : r3 = r7
        · rw [if_pos c9] at hm
          exact Agr.tr a_S8 (fbX11_termOf_130_54 x rec_X11_sumOf arec_X11_sumOf rec_X11_termOf arec_X11_termOf rec_X11_partOf arec_X11_partOf k6 ak6 S8 v1 v2 _ _ hm)
        · rw [if_neg c9] at hm
          cases h10 : gfX11_codeAt_130 x S8 (S8.1 130 22) with
          | none => rw [h10] at hm; cases hm
          | some q11 =>
            obtain ⟨r12, S13⟩ := q11
            rw [h10] at hm
            dsimp only at hm
            have a_S13 : Agr wX11_sumOf_130 S S13 := Agr.tr a_S8 (Agr.sub (frX11_codeAt_130 x S8 (S8.1 130 22) _ _ h10) (by decide))
            cases h14 : gfX11_sign x S13 47 with
            | none => rw [h14] at hm; cases hm
            | some q15 =>
              obtain ⟨r16, S17⟩ := q15
              rw [h14] at hm
              dsimp only at hm
              have a_S17 : Agr wX11_sumOf_130 S S17 := Agr.tr a_S13 (Agr.sub (frX11_sign x S13 47 _ _ h14) (by decide))
              by_cases c18 : r12 = r16
              · rw [if_pos c18] at hm
                exact Agr.tr a_S17 (fbX11_termOf_130_54 x rec_X11_sumOf arec_X11_sumOf rec_X11_termOf arec_X11_termOf rec_X11_partOf arec_X11_partOf k6 ak6 S17 v1 v2 _ _ hm)
              · rw [if_neg c18] at hm
                cases h19 : gfX11_codeAt_130 x S17 (S17.1 130 22) with
                | none => rw [h19] at hm; cases hm
                | some q20 =>
                  obtain ⟨r21, S22⟩ := q20
                  rw [h19] at hm
                  dsimp only at hm
                  have a_S22 : Agr wX11_sumOf_130 S S22 := Agr.tr a_S17 (Agr.sub (frX11_codeAt_130 x S17 (S17.1 130 22) _ _ h19) (by decide))
                  cases h23 : gfX11_sign x S22 37 with
                  | none => rw [h23] at hm; cases hm
                  | some q24 =>
                    obtain ⟨r25, S26⟩ := q24
                    rw [h23] at hm
                    dsimp only at hm
                    have a_S26 : Agr wX11_sumOf_130 S S26 := Agr.tr a_S22 (Agr.sub (frX11_sign x S22 37 _ _ h23) (by decide))
                    by_cases c27 : ¬ r21 = r25
                    · rw [if_pos c27] at hm
                      cases hm
                      exact a_S26
                    · rw [if_neg c27] at hm
                      exact Agr.tr a_S26 (fbX11_termOf_130_54 x rec_X11_sumOf arec_X11_sumOf rec_X11_termOf arec_X11_termOf rec_X11_partOf arec_X11_partOf k6 ak6 S26 v1 v2 _ _ hm)
theorem flX11_termOf_130_6 (x : XT) (rec_X11_sumOf : ST → Int32 → Option (Int64 × ST)) (arec_X11_sumOf : ∀ (S : ST) (z0 : Int32) (r : Int64) (S' : ST), rec_X11_sumOf S z0 = some (r, S') → Agr wX11_sumOf_130 S S') (rec_X11_termOf : ST → Int32 → Option (Int64 × ST)) (arec_X11_termOf : ∀ (S : ST) (z0 : Int32) (r : Int64) (S' : ST), rec_X11_termOf S z0 = some (r, S') → Agr wX11_sumOf_130 S S') (rec_X11_partOf : ST → Int32 → Option (Int64 × ST)) (arec_X11_partOf : ∀ (S : ST) (z0 : Int32) (r : Int64) (S' : ST), rec_X11_partOf S z0 = some (r, S') → Agr wX11_sumOf_130 S S')  : ∀ (n : Nat) (S : ST) (v1 : Int32) (v2 : Int64) (r : Int64) (S' : ST), lfX11_termOf_130_6 x rec_X11_sumOf rec_X11_termOf rec_X11_partOf  n S v1 v2 = some (r, S') → Agr wX11_sumOf_130 S S'
  | 0, _, _, _, _, _, hm => by cases hm
  | n + 1, S, v1, v2, r, S', hm => fbX11_termOf_130_6 x rec_X11_sumOf arec_X11_sumOf rec_X11_termOf arec_X11_termOf rec_X11_partOf arec_X11_partOf (lfX11_termOf_130_6 x rec_X11_sumOf rec_X11_termOf rec_X11_partOf  n) (flX11_termOf_130_6 x rec_X11_sumOf arec_X11_sumOf rec_X11_termOf arec_X11_termOf rec_X11_partOf arec_X11_partOf  n) S v1 v2 r S' hm
set_option maxHeartbeats 4000000 in
set_option maxRecDepth 20000 in
theorem fbX11_termOf_130_0 (x : XT) (rec_X11_sumOf : ST → Int32 → Option (Int64 × ST)) (arec_X11_sumOf : ∀ (S : ST) (z0 : Int32) (r : Int64) (S' : ST), rec_X11_sumOf S z0 = some (r, S') → Agr wX11_sumOf_130 S S') (rec_X11_termOf : ST → Int32 → Option (Int64 × ST)) (arec_X11_termOf : ∀ (S : ST) (z0 : Int32) (r : Int64) (S' : ST), rec_X11_termOf S z0 = some (r, S') → Agr wX11_sumOf_130 S S') (rec_X11_partOf : ST → Int32 → Option (Int64 × ST)) (arec_X11_partOf : ∀ (S : ST) (z0 : Int32) (r : Int64) (S' : ST), rec_X11_partOf S z0 = some (r, S') → Agr wX11_sumOf_130 S S')  (S : ST) (p1 : Int32) (r : Int64) (S' : ST) (hm : bfX11_termOf_130_0 x rec_X11_sumOf rec_X11_termOf rec_X11_partOf  S p1 = some (r, S')) : Agr wX11_sumOf_130 S S' := by
    unfold bfX11_termOf_130_0 at hm
    cases h1 : rec_X11_partOf S p1 with
    | none => rw [h1] at hm; cases hm
    | some q2 =>
      obtain ⟨r3, S4⟩ := q2
      rw [h1] at hm
      dsimp only at hm
      have a_S4 : Agr wX11_sumOf_130 S S4 := Agr.tr Agr.rf (arec_X11_partOf S p1 _ _ h1)
      exact Agr.tr a_S4 (flX11_termOf_130_6 x rec_X11_sumOf arec_X11_sumOf rec_X11_termOf arec_X11_termOf rec_X11_partOf arec_X11_partOf  20000 S4 p1 r3 _ _ hm)
theorem frrX11_termOf_130 (x : XT) (rec_X11_sumOf : ST → Int32 → Option (Int64 × ST)) (arec_X11_sumOf : ∀ (S : ST) (z0 : Int32) (r : Int64) (S' : ST), rec_X11_sumOf S z0 = some (r, S') → Agr wX11_sumOf_130 S S') (rec_X11_termOf : ST → Int32 → Option (Int64 × ST)) (arec_X11_termOf : ∀ (S : ST) (z0 : Int32) (r : Int64) (S' : ST), rec_X11_termOf S z0 = some (r, S') → Agr wX11_sumOf_130 S S') (rec_X11_partOf : ST → Int32 → Option (Int64 × ST)) (arec_X11_partOf : ∀ (S : ST) (z0 : Int32) (r : Int64) (S' : ST), rec_X11_partOf S z0 = some (r, S') → Agr wX11_sumOf_130 S S') (S : ST) (p1 : Int32) (r : Int64) (S' : ST) (hm : grfX11_termOf_130 x rec_X11_sumOf rec_X11_termOf rec_X11_partOf S p1 = some (r, S')) : Agr wX11_sumOf_130 S S' := fbX11_termOf_130_0 x rec_X11_sumOf arec_X11_sumOf rec_X11_termOf arec_X11_termOf rec_X11_partOf arec_X11_partOf S p1 r S' hm
set_option maxHeartbeats 4000000 in
set_option maxRecDepth 20000 in
theorem fbX11_partOf_130_111 (x : XT) (rec_X11_sumOf : ST → Int32 → Option (Int64 × ST)) (arec_X11_sumOf : ∀ (S : ST) (z0 : Int32) (r : Int64) (S' : ST), rec_X11_sumOf S z0 = some (r, S') → Agr wX11_sumOf_130 S S') (rec_X11_termOf : ST → Int32 → Option (Int64 × ST)) (arec_X11_termOf : ∀ (S : ST) (z0 : Int32) (r : Int64) (S' : ST), rec_X11_termOf S z0 = some (r, S') → Agr wX11_sumOf_130 S S') (rec_X11_partOf : ST → Int32 → Option (Int64 × ST)) (arec_X11_partOf : ∀ (S : ST) (z0 : Int32) (r : Int64) (S' : ST), rec_X11_partOf S z0 = some (r, S') → Agr wX11_sumOf_130 S S')  (S : ST)  (r : Int64) (S' : ST) (hm : bfX11_partOf_130_111 x rec_X11_sumOf rec_X11_termOf rec_X11_partOf  S  = some (r, S')) : Agr wX11_sumOf_130 S S' := by
    unfold bfX11_partOf_130_111 at hm
    cases hm
    exact Agr.rf
set_option maxHeartbeats 4000000 in
set_option maxRecDepth 20000 in
theorem fbX11_partOf_130_163 (x : XT) (rec_X11_sumOf : ST → Int32 → Option (Int64 × ST)) (arec_X11_sumOf : ∀ (S : ST) (z0 : Int32) (r : Int64) (S' : ST), rec_X11_sumOf S z0 = some (r, S') → Agr wX11_sumOf_130 S S') (rec_X11_termOf : ST → Int32 → Option (Int64 × ST)) (arec_X11_termOf : ∀ (S : ST) (z0 : Int32) (r : Int64) (S' : ST), rec_X11_termOf S z0 = some (r, S') → Agr wX11_sumOf_130 S S') (rec_X11_partOf : ST → Int32 → Option (Int64 × ST)) (arec_X11_partOf : ∀ (S : ST) (z0 : Int32) (r : Int64) (S' : ST), rec_X11_partOf S z0 = some (r, S') → Agr wX11_sumOf_130 S S')  (S : ST) (t0 : Int64) (r : Int64) (S' : ST) (hm : bfX11_partOf_130_163 x rec_X11_sumOf rec_X11_termOf rec_X11_partOf  S t0 = some (r, S')) : Agr wX11_sumOf_130 S S' := by
    unfold bfX11_partOf_130_163 at hm
    cases hm
    exact Agr.rf
set_option maxHeartbeats 4000000 in
set_option maxRecDepth 20000 in
theorem fbX11_partOf_130_100 (x : XT) (rec_X11_sumOf : ST → Int32 → Option (Int64 × ST)) (arec_X11_sumOf : ∀ (S : ST) (z0 : Int32) (r : Int64) (S' : ST), rec_X11_sumOf S z0 = some (r, S') → Agr wX11_sumOf_130 S S') (rec_X11_termOf : ST → Int32 → Option (Int64 × ST)) (arec_X11_termOf : ∀ (S : ST) (z0 : Int32) (r : Int64) (S' : ST), rec_X11_termOf S z0 = some (r, S') → Agr wX11_sumOf_130 S S') (rec_X11_partOf : ST → Int32 → Option (Int64 × ST)) (arec_X11_partOf : ∀ (S : ST) (z0 : Int32) (r : Int64) (S' : ST), rec_X11_partOf S z0 = some (r, S') → Agr wX11_sumOf_130 S S')  (S : ST) (v1 : Int32) (v2 : Int32) (v3 : Int32) (r : Int64) (S' : ST) (hm : bfX11_partOf_130_100 x rec_X11_sumOf rec_X11_termOf rec_X11_partOf  S v1 v2 v3 = some (r, S')) : Agr wX11_sumOf_130 S S' := by
    unfold bfX11_partOf_130_100 at hm
    by_cases c1 : v1 = 0
    · rw [if_pos c1] at hm
      exact Agr.tr Agr.rf (fbX11_partOf_130_111 x rec_X11_sumOf arec_X11_sumOf rec_X11_termOf arec_X11_termOf rec_X11_partOf arec_X11_partOf  S _ _ hm)
    · rw [if_neg c1] at hm
      by_cases c2 : (S.1 130 24) = 0
      · rw [if_pos c2] at hm
        by_cases c3 : ¬ v2 = 50
        · rw [if_pos c3] at hm
          by_cases c4 : (S.1 130 25) = 0
          · rw [if_pos c4] at hm
            obtain ⟨o5, hm⟩ := oblk hm
            exact Agr.tr Agr.rf (fbX11_partOf_130_163 x rec_X11_sumOf arec_X11_sumOf rec_X11_termOf arec_X11_termOf rec_X11_partOf arec_X11_partOf  S ((S.2.1 142 ((v2 - 8).toNatClampNeg)).toInt64) _ _ hm)
          · rw [if_neg c4] at hm
            cases h6 : gfX11_orderValue_130 x S v2 v3 with
            | none => rw [h6] at hm; cases hm
            | some q7 =>
              obtain ⟨r8, S9⟩ := q7
              rw [h6] at hm
              dsimp only at hm
              have a_S9 : Agr wX11_sumOf_130 S S9 := Agr.tr Agr.rf (Agr.sub (frX11_orderValue_130 x S v2 v3 _ _ h6) (by decide))
              exact Agr.tr a_S9 (fbX11_partOf_130_163 x rec_X11_sumOf arec_X11_sumOf rec_X11_termOf arec_X11_termOf rec_X11_partOf arec_X11_partOf  S9 r8.toInt64 _ _ hm)
        · rw [if_neg c3] at hm
          obtain ⟨o10, hm⟩ := oblk hm
          cases hm
          exact Agr.rf
      · rw [if_neg c2] at hm
        exact Agr.tr Agr.rf (fbX11_partOf_130_111 x rec_X11_sumOf arec_X11_sumOf rec_X11_termOf arec_X11_termOf rec_X11_partOf arec_X11_partOf  S _ _ hm)
set_option maxHeartbeats 4000000 in
set_option maxRecDepth 20000 in
theorem fbX11_partOf_130_76 (x : XT) (rec_X11_sumOf : ST → Int32 → Option (Int64 × ST)) (arec_X11_sumOf : ∀ (S : ST) (z0 : Int32) (r : Int64) (S' : ST), rec_X11_sumOf S z0 = some (r, S') → Agr wX11_sumOf_130 S S') (rec_X11_termOf : ST → Int32 → Option (Int64 × ST)) (arec_X11_termOf : ∀ (S : ST) (z0 : Int32) (r : Int64) (S' : ST), rec_X11_termOf S z0 = some (r, S') → Agr wX11_sumOf_130 S S') (rec_X11_partOf : ST → Int32 → Option (Int64 × ST)) (arec_X11_partOf : ∀ (S : ST) (z0 : Int32) (r : Int64) (S' : ST), rec_X11_partOf S z0 = some (r, S') → Agr wX11_sumOf_130 S S')  (S : ST) (v1 : Int32) (v2 : Int32) (r : Int64) (S' : ST) (hm : bfX11_partOf_130_76 x rec_X11_sumOf rec_X11_termOf rec_X11_partOf  S v1 v2 = some (r, S')) : Agr wX11_sumOf_130 S S' := by
    unfold bfX11_partOf_130_76 at hm
    obtain ⟨o1, hm⟩ := oblk hm
    exact Agr.tr (Agr.f Agr.rf 130 22 ((S.1 130 22) + 1) (by decide)) (fbX11_partOf_130_100 x rec_X11_sumOf arec_X11_sumOf rec_X11_termOf arec_X11_termOf rec_X11_partOf arec_X11_partOf  ((u2 S.1 130 22 ((S.1 130 22) + 1)), S.2.1, S.2.2.1, S.2.2.2) v1 v2 (S.2.1 132 ((2903 + (S.1 130 22)).toNatClampNeg)) _ _ hm)
set_option maxHeartbeats 4000000 in
set_option maxRecDepth 20000 in
theorem fbX11_partOf_130_0 (x : XT) (rec_X11_sumOf : ST → Int32 → Option (Int64 × ST)) (arec_X11_sumOf : ∀ (S : ST) (z0 : Int32) (r : Int64) (S' : ST), rec_X11_sumOf S z0 = some (r, S') → Agr wX11_sumOf_130 S S') (rec_X11_termOf : ST → Int32 → Option (Int64 × ST)) (arec_X11_termOf : ∀ (S : ST) (z0 : Int32) (r : Int64) (S' : ST), rec_X11_termOf S z0 = some (r, S') → Agr wX11_sumOf_130 S S') (rec_X11_partOf : ST → Int32 → Option (Int64 × ST)) (arec_X11_partOf : ∀ (S : ST) (z0 : Int32) (r : Int64) (S' : ST), rec_X11_partOf S z0 = some (r, S') → Agr wX11_sumOf_130 S S')  (S : ST) (p1 : Int32) (r : Int64) (S' : ST) (hm : bfX11_partOf_130_0 x rec_X11_sumOf rec_X11_termOf rec_X11_partOf  S p1 = some (r, S')) : Agr wX11_sumOf_130 S S' := by
    unfold bfX11_partOf_130_0 at hm
    cases h1 : gfX11_sign x S 91 with
    | none => rw [h1] at hm; cases hm
    | some q2 =>
      obtain ⟨r3, S4⟩ := q2
      rw [h1] at hm
      dsimp only at hm
      have a_S4 : Agr wX11_sumOf_130 S S4 := Agr.tr Agr.rf (Agr.sub (frX11_sign x S 91 _ _ h1) (by decide))
      cases h5 : gfX11_passes0_130 x S4 r3 with
      | none => rw [h5] at hm; cases hm
      | some q6 =>
        obtain ⟨r7, S8⟩ := q6
        rw [h5] at hm
        dsimp only at hm
        have a_S8 : Agr wX11_sumOf_130 S S8 := Agr.tr a_S4 (Agr.sub (frX11_passes0_130 x S4 r3 _ _ h5) (by decide))
        by_cases c9 : r7 = 0
        · rw [if_pos c9] at hm
          cases h10 : gfX11_codeAt_130 x S8 (S8.1 130 22) with
          | none => rw [h10] at hm; cases hm
          | some q11 =>
            obtain ⟨r12, S13⟩ := q11
            rw [h10] at hm
            dsimp only at hm
            have a_S13 : Agr wX11_sumOf_130 S S13 := Agr.tr a_S8 (Agr.sub (frX11_codeAt_130 x S8 (S8.1 130 22) _ _ h10) (by decide))
            by_cases c14 : (S13.1 130 25) = 0
            · rw [if_pos c14] at hm
              exact Agr.tr (Agr.f a_S13 130 22 ((S13.1 130 22) + 1) (by decide)) (fbX11_partOf_130_100 x rec_X11_sumOf arec_X11_sumOf rec_X11_termOf arec_X11_termOf rec_X11_partOf arec_X11_partOf  ((u2 S13.1 130 22 ((S13.1 130 22) + 1)), S13.2.1, S13.2.2.1, S13.2.2.2) p1 r12 0 _ _ hm)
            · rw [if_neg c14] at hm
              by_cases c15 : r12 = 13
              · rw [if_pos c15] at hm
                exact Agr.tr (Agr.f a_S13 130 22 ((S13.1 130 22) + 1) (by decide)) (fbX11_partOf_130_76 x rec_X11_sumOf arec_X11_sumOf rec_X11_termOf arec_X11_termOf rec_X11_partOf arec_X11_partOf  ((u2 S13.1 130 22 ((S13.1 130 22) + 1)), S13.2.1, S13.2.2.1, S13.2.2.2) p1 r12 _ _ hm)
              · rw [if_neg c15] at hm
                by_cases c16 : r12 = 14
                · rw [if_pos c16] at hm
                  exact Agr.tr (Agr.f a_S13 130 22 ((S13.1 130 22) + 1) (by decide)) (fbX11_partOf_130_76 x rec_X11_sumOf arec_X11_sumOf rec_X11_termOf arec_X11_termOf rec_X11_partOf arec_X11_partOf  ((u2 S13.1 130 22 ((S13.1 130 22) + 1)), S13.2.1, S13.2.2.1, S13.2.2.2) p1 r12 _ _ hm)
                · rw [if_neg c16] at hm
                  by_cases c17 : ¬ r12 = 19
                  · rw [if_pos c17] at hm
                    exact Agr.tr (Agr.f a_S13 130 22 ((S13.1 130 22) + 1) (by decide)) (fbX11_partOf_130_100 x rec_X11_sumOf arec_X11_sumOf rec_X11_termOf arec_X11_termOf rec_X11_partOf arec_X11_partOf  ((u2 S13.1 130 22 ((S13.1 130 22) + 1)), S13.2.1, S13.2.2.1, S13.2.2.2) p1 r12 0 _ _ hm)
                  · rw [if_neg c17] at hm
                    exact Agr.tr (Agr.f a_S13 130 22 ((S13.1 130 22) + 1) (by decide)) (fbX11_partOf_130_76 x rec_X11_sumOf arec_X11_sumOf rec_X11_termOf arec_X11_termOf rec_X11_partOf arec_X11_partOf  ((u2 S13.1 130 22 ((S13.1 130 22) + 1)), S13.2.1, S13.2.2.1, S13.2.2.2) p1 r12 _ _ hm)
        · rw [if_neg c9] at hm
          cases h18 : rec_X11_sumOf S8 p1 with
          | none => rw [h18] at hm; cases hm
          | some q19 =>
            obtain ⟨r20, S21⟩ := q19
            rw [h18] at hm
            dsimp only at hm
            have a_S21 : Agr wX11_sumOf_130 S S21 := Agr.tr a_S8 (arec_X11_sumOf S8 p1 _ _ h18)
            cases hm
            exact (Agr.f a_S21 130 22 ((S21.1 130 22) + 1) (by decide))
theorem frrX11_partOf_130 (x : XT) (rec_X11_sumOf : ST → Int32 → Option (Int64 × ST)) (arec_X11_sumOf : ∀ (S : ST) (z0 : Int32) (r : Int64) (S' : ST), rec_X11_sumOf S z0 = some (r, S') → Agr wX11_sumOf_130 S S') (rec_X11_termOf : ST → Int32 → Option (Int64 × ST)) (arec_X11_termOf : ∀ (S : ST) (z0 : Int32) (r : Int64) (S' : ST), rec_X11_termOf S z0 = some (r, S') → Agr wX11_sumOf_130 S S') (rec_X11_partOf : ST → Int32 → Option (Int64 × ST)) (arec_X11_partOf : ∀ (S : ST) (z0 : Int32) (r : Int64) (S' : ST), rec_X11_partOf S z0 = some (r, S') → Agr wX11_sumOf_130 S S') (S : ST) (p1 : Int32) (r : Int64) (S' : ST) (hm : grfX11_partOf_130 x rec_X11_sumOf rec_X11_termOf rec_X11_partOf S p1 = some (r, S')) : Agr wX11_sumOf_130 S S' := fbX11_partOf_130_0 x rec_X11_sumOf arec_X11_sumOf rec_X11_termOf arec_X11_termOf rec_X11_partOf arec_X11_partOf S p1 r S' hm
theorem frqX11_sumOf_130 (x : XT) (n : Nat) : (∀ (S : ST) (a b : Int32) (r : Int64) (S' : ST), gqX11_sumOf_130 x n 0 S a b = some (r, S') → Agr wX11_sumOf_130 S S') ∧ (∀ (S : ST) (a b : Int32) (r : Int64) (S' : ST), gqX11_sumOf_130 x n 1 S a b = some (r, S') → Agr wX11_sumOf_130 S S') ∧ (∀ (S : ST) (a b : Int32) (r : Int64) (S' : ST), gqX11_sumOf_130 x n 2 S a b = some (r, S') → Agr wX11_sumOf_130 S S') := by
  induction n with
  | zero => exact ⟨(fun _ _ _ _ _ hm => (by cases hm)), (fun _ _ _ _ _ hm => (by cases hm)), (fun _ _ _ _ _ hm => (by cases hm))⟩
  | succ n ih =>
    refine ⟨?_, ?_, ?_⟩
    · intro S a b r S' hm
      rw [gqX11_sumOf_130] at hm
      rw [show Nat.beq 0 0 = true from rfl, cond_true] at hm
      exact frrX11_sumOf_130 x (fun S z0 => gqX11_sumOf_130 x n 0 S z0 0) (fun S z0 r S' h => ih.1 S z0 0 r S' h) (fun S z0 => gqX11_sumOf_130 x n 1 S z0 0) (fun S z0 r S' h => ih.2.1 S z0 0 r S' h) (fun S z0 => gqX11_sumOf_130 x n 2 S z0 0) (fun S z0 r S' h => ih.2.2 S z0 0 r S' h) S a r S' hm
    · intro S a b r S' hm
      rw [gqX11_sumOf_130] at hm
      rw [show Nat.beq 1 0 = false from rfl, cond_false, show Nat.beq 1 1 = true from rfl, cond_true] at hm
      exact frrX11_termOf_130 x (fun S z0 => gqX11_sumOf_130 x n 0 S z0 0) (fun S z0 r S' h => ih.1 S z0 0 r S' h) (fun S z0 => gqX11_sumOf_130 x n 1 S z0 0) (fun S z0 r S' h => ih.2.1 S z0 0 r S' h) (fun S z0 => gqX11_sumOf_130 x n 2 S z0 0) (fun S z0 r S' h => ih.2.2 S z0 0 r S' h) S a r S' hm
    · intro S a b r S' hm
      rw [gqX11_sumOf_130] at hm
      rw [show Nat.beq 2 0 = false from rfl, cond_false, show Nat.beq 2 1 = false from rfl, cond_false, show Nat.beq 2 2 = true from rfl, cond_true] at hm
      exact frrX11_partOf_130 x (fun S z0 => gqX11_sumOf_130 x n 0 S z0 0) (fun S z0 r S' h => ih.1 S z0 0 r S' h) (fun S z0 => gqX11_sumOf_130 x n 1 S z0 0) (fun S z0 r S' h => ih.2.1 S z0 0 r S' h) (fun S z0 => gqX11_sumOf_130 x n 2 S z0 0) (fun S z0 r S' h => ih.2.2 S z0 0 r S' h) S a r S' hm
theorem frX11_sumOf_130 (x : XT) (S : ST) (p1 : Int32) (r : Int64) (S' : ST) (hm : gfX11_sumOf_130 x S p1 = some (r, S')) : Agr wX11_sumOf_130 S S' :=
  (frqX11_sumOf_130 x 60).1 S p1 0 r S' hm
theorem frX11_termOf_130 (x : XT) (S : ST) (p1 : Int32) (r : Int64) (S' : ST) (hm : gfX11_termOf_130 x S p1 = some (r, S')) : Agr wX11_sumOf_130 S S' :=
  (frqX11_sumOf_130 x 60).2.1 S p1 0 r S' hm
theorem frX11_partOf_130 (x : XT) (S : ST) (p1 : Int32) (r : Int64) (S' : ST) (hm : gfX11_partOf_130 x S p1 = some (r, S')) : Agr wX11_sumOf_130 S S' :=
  (frqX11_sumOf_130 x 60).2.2 S p1 0 r S' hm
end FRA
