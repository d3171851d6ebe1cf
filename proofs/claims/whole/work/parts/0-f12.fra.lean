section FRA
def wX11_goesKept_130 : List (Nat × Nat) × List Nat × List Nat × List Nat := ([(130, 22), (130, 23), (130, 24), (130, 25), (130, 31)], [132, 142, 143], [], [])
set_option maxHeartbeats 4000000 in
set_option maxRecDepth 20000 in
theorem fbX11_goesKept_130_16 (x : XT)  (S : ST)  (r : Int32) (S' : ST) (hm : bfX11_goesKept_130_16 x  S  = some (r, S')) : Agr wX11_goesKept_130 S S' := by
    unfold bfX11_goesKept_130_16 at hm
    cases hm
    exact Agr.rf
set_option maxHeartbeats 4000000 in
set_option maxRecDepth 20000 in
theorem fbX11_goesKept_130_0 (x : XT)  (S : ST) (p1 : Int32) (p2 : Int32) (r : Int32) (S' : ST) (hm : bfX11_goesKept_130_0 x  S p1 p2 = some (r, S')) : Agr wX11_goesKept_130 S S' := by
    unfold bfX11_goesKept_130_0 at hm
    cases h1 : gfX11_isGoer_130 x S p1 with
    | none => rw [h1] at hm; cases hm
    | some q2 =>
      obtain ⟨r3, S4⟩ := q2
      rw [h1] at hm
      dsimp only at hm
      have a_S4 : Agr wX11_goesKept_130 S S4 := Agr.tr Agr.rf (Agr.sub (frX11_isGoer_130 x S p1 _ _ h1) (by decide))
      by_cases c5 : r3 = 0
      · rw [if_pos c5] at hm
        exact Agr.tr a_S4 (fbX11_goesKept_130_16 x  S4 _ _ hm)
      · rw [if_neg c5] at hm
        cases h6 : gfX11_isGate_130 x S4 p2 with
        | none => rw [h6] at hm; cases hm
        | some q7 =>
          obtain ⟨r8, S9⟩ := q7
          rw [h6] at hm
          dsimp only at hm
          have a_S9 : Agr wX11_goesKept_130 S S9 := Agr.tr a_S4 (Agr.sub (frX11_isGate_130 x S4 p2 _ _ h6) (by decide))
          by_cases c10 : ¬ r8 = 0
          · rw [if_pos c10] at hm
            cases h11 : gfX11_canGo_130 x S9 p1 p2 with
            | none => rw [h11] at hm; cases hm
            | some q12 =>
              obtain ⟨r13, S14⟩ := q12
              rw [h11] at hm
              dsimp only at hm
              have a_S14 : Agr wX11_goesKept_130 S S14 := Agr.tr a_S9 (Agr.sub (frX11_canGo_130 x S9 p1 p2 _ _ h11) (by decide))
              by_cases c15 : ¬ r13 = 0
              · rw [if_pos c15] at hm
                cases h16 : gfX11_keeps_130 x S14 0 with
                | none => rw [h16] at hm; cases hm
                | some q17 =>
                  obtain ⟨r18, S19⟩ := q17
                  rw [h16] at hm
                  dsimp only at hm
                  have a_S19 : Agr wX11_goesKept_130 S S19 := Agr.tr a_S14 (Agr.sub (frX11_keeps_130 x S14 0 _ _ h16) (by decide))
                  cases h20 : gfX11_goesNow_130 x S19 p1 p2 with
                  | none => rw [h20] at hm; cases hm
                  | some q21 =>
                    obtain ⟨r22, S23⟩ := q21
                    rw [h20] at hm
                    dsimp only at hm
                    have a_S23 : Agr wX11_goesKept_130 S S23 := Agr.tr a_S19 (Agr.sub (frX11_goesNow_130 x S19 p1 p2 _ _ h20) (by decide))
                    cases hm
                    exact a_S23
              · rw [if_neg c15] at hm
                cases hm
                exact a_S14
          · rw [if_neg c10] at hm
            exact Agr.tr a_S9 (fbX11_goesKept_130_16 x  S9 _ _ hm)
theorem frX11_goesKept_130 (x : XT) (S : ST) (p1 : Int32) (p2 : Int32) (r : Int32) (S' : ST) (hm : gfX11_goesKept_130 x S p1 p2 = some (r, S')) : Agr wX11_goesKept_130 S S' := fbX11_goesKept_130_0 x S p1 p2 r S' hm
def wX11_latchesKept_130 : List (Nat × Nat) × List Nat × List Nat × List Nat := ([(130, 31)], [132, 143], [], [])
set_option maxHeartbeats 4000000 in
set_option maxRecDepth 20000 in
theorem fbX11_latchesKept_130_0 (x : XT)  (S : ST) (p1 : Int32) (r : Int32) (S' : ST) (hm : bfX11_latchesKept_130_0 x  S p1 = some (r, S')) : Agr wX11_latchesKept_130 S S' := by
    unfold bfX11_latchesKept_130_0 at hm
    cases h1 : gfX11_isGate_130 x S p1 with
    | none => rw [h1] at hm; cases hm
    | some q2 =>
      obtain ⟨r3, S4⟩ := q2
      rw [h1] at hm
      dsimp only at hm
      have a_S4 : Agr wX11_latchesKept_130 S S4 := Agr.tr Agr.rf (Agr.sub (frX11_isGate_130 x S p1 _ _ h1) (by decide))
      by_cases c5 : ¬ r3 = 0
      · rw [if_pos c5] at hm
        cases h6 : gfX11_keeps_130 x S4 1 with
        | none => rw [h6] at hm; cases hm
        | some q7 =>
          obtain ⟨r8, S9⟩ := q7
          rw [h6] at hm
          dsimp only at hm
          have a_S9 : Agr wX11_latchesKept_130 S S9 := Agr.tr a_S4 (Agr.sub (frX11_keeps_130 x S4 1 _ _ h6) (by decide))
          obtain ⟨o10, hm⟩ := oblk hm
          obtain ⟨o11, hm⟩ := oblk hm
          obtain ⟨o12, hm⟩ := oblk hm
          cases hm
          exact (Agr.i a_S9 132 ((25 + p1).toNatClampNeg) (1 - (S9.2.1 132 ((25 + p1).toNatClampNeg))) (by decide))
      · rw [if_neg c5] at hm
        cases hm
        exact a_S4
theorem frX11_latchesKept_130 (x : XT) (S : ST) (p1 : Int32) (r : Int32) (S' : ST) (hm : gfX11_latchesKept_130 x S p1 = some (r, S')) : Agr wX11_latchesKept_130 S S' := fbX11_latchesKept_130_0 x S p1 r S' hm
def wX11_setsKept_130 : List (Nat × Nat) × List Nat × List Nat × List Nat := ([(130, 31)], [132, 143], [], [])
set_option maxHeartbeats 4000000 in
set_option maxRecDepth 20000 in
theorem fbX11_setsKept_130_0 (x : XT)  (S : ST) (p1 : Int32) (p2 : Int32) (r : Int32) (S' : ST) (hm : bfX11_setsKept_130_0 x  S p1 p2 = some (r, S')) : Agr wX11_setsKept_130 S S' := by
    unfold bfX11_setsKept_130_0 at hm
    cases h1 : gfX11_isArm x S p2 with
    | none => rw [h1] at hm; cases hm
    | some q2 =>
      obtain ⟨r3, S4⟩ := q2
      rw [h1] at hm
      dsimp only at hm
      have a_S4 : Agr wX11_setsKept_130 S S4 := Agr.tr Agr.rf (Agr.sub (frX11_isArm x S p2 _ _ h1) (by decide))
      by_cases c5 : ¬ r3 = 0
      · rw [if_pos c5] at hm
        cases h6 : gfX11_isGate_130 x S4 p1 with
        | none => rw [h6] at hm; cases hm
        | some q7 =>
          obtain ⟨r8, S9⟩ := q7
          rw [h6] at hm
          dsimp only at hm
          have a_S9 : Agr wX11_setsKept_130 S S9 := Agr.tr a_S4 (Agr.sub (frX11_isGate_130 x S4 p1 _ _ h6) (by decide))
          by_cases c10 : ¬ r8 = 0
          · rw [if_pos c10] at hm
            obtain ⟨o11, hm⟩ := oblk hm
            by_cases c12 : ¬ (S9.2.1 132 ((15 + p1).toNatClampNeg)) = p2
            · rw [if_pos c12] at hm
              cases h13 : gfX11_keeps_130 x S9 2 with
              | none => rw [h13] at hm; cases hm
              | some q14 =>
                obtain ⟨r15, S16⟩ := q14
                rw [h13] at hm
                dsimp only at hm
                have a_S16 : Agr wX11_setsKept_130 S S16 := Agr.tr a_S9 (Agr.sub (frX11_keeps_130 x S9 2 _ _ h13) (by decide))
                obtain ⟨o17, hm⟩ := oblk hm
                cases hm
                exact (Agr.i a_S16 132 ((15 + p1).toNatClampNeg) p2 (by decide))
            · rw [if_neg c12] at hm
              cases hm
              exact a_S9
          · rw [if_neg c10] at hm
            cases hm
            exact a_S9
      · rw [if_neg c5] at hm
        cases hm
        exact a_S4
theorem frX11_setsKept_130 (x : XT) (S : ST) (p1 : Int32) (p2 : Int32) (r : Int32) (S' : ST) (hm : gfX11_setsKept_130 x S p1 p2 = some (r, S')) : Agr wX11_setsKept_130 S S' := fbX11_setsKept_130_0 x S p1 p2 r S' hm
def wX11_passesKept_130 : List (Nat × Nat) × List Nat × List Nat × List Nat := ([(130, 31)], [132, 143], [], [])
set_option maxHeartbeats 4000000 in
set_option maxRecDepth 20000 in
theorem fbX11_passesKept_130_0 (x : XT)  (S : ST)  (r : Int32) (S' : ST) (hm : bfX11_passesKept_130_0 x  S  = some (r, S')) : Agr wX11_passesKept_130 S S' := by
    unfold bfX11_passesKept_130_0 at hm
    by_cases c1 : ¬ (S.2.1 132 35) = 999
    · rw [if_pos c1] at hm
      cases h2 : gfX11_keeps_130 x S 3 with
      | none => rw [h2] at hm; cases hm
      | some q3 =>
        obtain ⟨r4, S5⟩ := q3
        rw [h2] at hm
        dsimp only at hm
        have a_S5 : Agr wX11_passesKept_130 S S5 := Agr.tr Agr.rf (Agr.sub (frX11_keeps_130 x S 3 _ _ h2) (by decide))
        cases hm
        exact (Agr.i a_S5 132 35 ((S5.2.1 132 35) + 1) (by decide))
    · rw [if_neg c1] at hm
      cases hm
      exact Agr.rf
theorem frX11_passesKept_130 (x : XT) (S : ST)  (r : Int32) (S' : ST) (hm : gfX11_passesKept_130 x S  = some (r, S')) : Agr wX11_passesKept_130 S S' := fbX11_passesKept_130_0 x S  r S' hm
def wX11_go_130 : List (Nat × Nat) × List Nat × List Nat × List Nat := ([(130, 0), (130, 22), (130, 23), (130, 24), (130, 25), (130, 31)], [131, 132, 142, 143], [], [])
set_option maxHeartbeats 4000000 in
set_option maxRecDepth 20000 in
theorem fbX11_go_130_0 (x : XT)  (S : ST) (p1 : Int32) (p2 : Int32) (r : Int32) (S' : ST) (hm : bfX11_go_130_0 x  S p1 p2 = some (r, S')) : Agr wX11_go_130 S S' := by
    unfold bfX11_go_130_0 at hm
    cases h1 : gfX11_goesKept_130 x S p1 p2 with
    | none => rw [h1] at hm; cases hm
    | some q2 =>
      obtain ⟨r3, S4⟩ := q2
      rw [h1] at hm
      dsimp only at hm
      have a_S4 : Agr wX11_go_130 S S4 := Agr.tr Agr.rf (Agr.sub (frX11_goesKept_130 x S p1 p2 _ _ h1) (by decide))
      cases h5 : gfX11_goodOr_130 x S4 r3 with
      | none => rw [h5] at hm; cases hm
      | some q6 =>
        obtain ⟨r7, S8⟩ := q6
        rw [h5] at hm
        dsimp only at hm
        have a_S8 : Agr wX11_go_130 S S8 := Agr.tr a_S4 (Agr.sub (frX11_goodOr_130 x S4 r3 _ _ h5) (by decide))
        cases hm
        exact a_S8
theorem frX11_go_130 (x : XT) (S : ST) (p1 : Int32) (p2 : Int32) (r : Int32) (S' : ST) (hm : gfX11_go_130 x S p1 p2 = some (r, S')) : Agr wX11_go_130 S S' := fbX11_go_130_0 x S p1 p2 r S' hm
def wX11_latch_130 : List (Nat × Nat) × List Nat × List Nat × List Nat := ([(130, 0), (130, 31)], [131, 132, 143], [], [])
set_option maxHeartbeats 4000000 in
set_option maxRecDepth 20000 in
theorem fbX11_latch_130_0 (x : XT)  (S : ST) (p1 : Int32) (r : Int32) (S' : ST) (hm : bfX11_latch_130_0 x  S p1 = some (r, S')) : Agr wX11_latch_130 S S' := by
    unfold bfX11_latch_130_0 at hm
    cases h1 : gfX11_latchesKept_130 x S p1 with
    | none => rw [h1] at hm; cases hm
    | some q2 =>
      obtain ⟨r3, S4⟩ := q2
      rw [h1] at hm
      dsimp only at hm
      have a_S4 : Agr wX11_latch_130 S S4 := Agr.tr Agr.rf (Agr.sub (frX11_latchesKept_130 x S p1 _ _ h1) (by decide))
      cases h5 : gfX11_goodOr_130 x S4 r3 with
      | none => rw [h5] at hm; cases hm
      | some q6 =>
        obtain ⟨r7, S8⟩ := q6
        rw [h5] at hm
        dsimp only at hm
        have a_S8 : Agr wX11_latch_130 S S8 := Agr.tr a_S4 (Agr.sub (frX11_goodOr_130 x S4 r3 _ _ h5) (by decide))
        cases hm
        exact a_S8
theorem frX11_latch_130 (x : XT) (S : ST) (p1 : Int32) (r : Int32) (S' : ST) (hm : gfX11_latch_130 x S p1 = some (r, S')) : Agr wX11_latch_130 S S' := fbX11_latch_130_0 x S p1 r S' hm
def wX11_set_130 : List (Nat × Nat) × List Nat × List Nat × List Nat := ([(130, 0), (130, 31)], [131, 132, 143], [], [])
set_option maxHeartbeats 4000000 in
set_option maxRecDepth 20000 in
theorem fbX11_set_130_0 (x : XT)  (S : ST) (p1 : Int32) (p2 : Int32) (r : Int32) (S' : ST) (hm : bfX11_set_130_0 x  S p1 p2 = some (r, S')) : Agr wX11_set_130 S S' := by
    unfold bfX11_set_130_0 at hm
    cases h1 : gfX11_setsKept_130 x S p1 p2 with
    | none => rw [h1] at hm; cases hm
    | some q2 =>
      obtain ⟨r3, S4⟩ := q2
      rw [h1] at hm
      dsimp only at hm
      have a_S4 : Agr wX11_set_130 S S4 := Agr.tr Agr.rf (Agr.sub (frX11_setsKept_130 x S p1 p2 _ _ h1) (by decide))
      cases h5 : gfX11_goodOr_130 x S4 r3 with
      | none => rw [h5] at hm; cases hm
      | some q6 =>
        obtain ⟨r7, S8⟩ := q6
        rw [h5] at hm
        dsimp only at hm
        have a_S8 : Agr wX11_set_130 S S8 := Agr.tr a_S4 (Agr.sub (frX11_goodOr_130 x S4 r3 _ _ h5) (by decide))
        cases hm
        exact a_S8
theorem frX11_set_130 (x : XT) (S : ST) (p1 : Int32) (p2 : Int32) (r : Int32) (S' : ST) (hm : gfX11_set_130 x S p1 p2 = some (r, S')) : Agr wX11_set_130 S S' := fbX11_set_130_0 x S p1 p2 r S' hm
def wX11_pass_130 : List (Nat × Nat) × List Nat × List Nat × List Nat := ([(130, 0), (130, 31)], [131, 132, 143], [], [])
set_option maxHeartbeats 4000000 in
set_option maxRecDepth 20000 in
theorem fbX11_pass_130_0 (x : XT)  (S : ST)  (r : Int32) (S' : ST) (hm : bfX11_pass_130_0 x  S  = some (r, S')) : Agr wX11_pass_130 S S' := by
    unfold bfX11_pass_130_0 at hm
    cases h1 : gfX11_passesKept_130 x S with
    | none => rw [h1] at hm; cases hm
    | some q2 =>
      obtain ⟨r3, S4⟩ := q2
      rw [h1] at hm
      dsimp only at hm
      have a_S4 : Agr wX11_pass_130 S S4 := Agr.tr Agr.rf (Agr.sub (frX11_passesKept_130 x S _ _ h1) (by decide))
      cases h5 : gfX11_goodOr_130 x S4 r3 with
      | none => rw [h5] at hm; cases hm
      | some q6 =>
        obtain ⟨r7, S8⟩ := q6
        rw [h5] at hm
        dsimp only at hm
        have a_S8 : Agr wX11_pass_130 S S8 := Agr.tr a_S4 (Agr.sub (frX11_goodOr_130 x S4 r3 _ _ h5) (by decide))
        cases hm
        exact a_S8
theorem frX11_pass_130 (x : XT) (S : ST)  (r : Int32) (S' : ST) (hm : gfX11_pass_130 x S  = some (r, S')) : Agr wX11_pass_130 S S' := fbX11_pass_130_0 x S  r S' hm
def wX11_laysGate_130 : List (Nat × Nat) × List Nat × List Nat × List Nat := ([(130, 22), (130, 23), (130, 24), (130, 25)], [142, 145, 146], [], [])
set_option maxHeartbeats 4000000 in
set_option maxRecDepth 20000 in
theorem fbX11_laysGate_130_40 (x : XT) (k2 : ST → Int32 → Int32 → Int32 → Option (Unit × ST)) (ak2 : ∀ (S : ST) (v1 : Int32) (v2 : Int32) (v3 : Int32) (r : Unit) (S' : ST), k2 S v1 v2 v3 = some (r, S') → Agr wX11_laysGate_130 S S') (S : ST) (v1 : Int32) (v2 : Int32) (v3 : Int32) (t1 : Int32) (t2 : Int32) (r : Unit) (S' : ST) (hm : bfX11_laysGate_130_40 x k2 S v1 v2 v3 t1 t2 = some (r, S')) : Agr wX11_laysGate_130 S S' := by
    unfold bfX11_laysGate_130_40 at hm
    obtain ⟨o1, hm⟩ := oblk hm
    cases h2 : gfX11_paysNow_130 x (S.1, (u2 S.2.1 145 t1.toNatClampNeg t2), S.2.2.1, S.2.2.2) with
    | none => rw [h2] at hm; cases hm
    | some q3 =>
      obtain ⟨r4, S5⟩ := q3
      rw [h2] at hm
      dsimp only at hm
      have a_S5 : Agr wX11_laysGate_130 S S5 := Agr.tr (Agr.i Agr.rf 145 t1.toNatClampNeg t2 (by decide)) (Agr.sub (frX11_paysNow_130 x (S.1, (u2 S.2.1 145 t1.toNatClampNeg t2), S.2.2.1, S.2.2.2) _ _ h2) (by decide))
      obtain ⟨o6, hm⟩ := oblk hm
      exact Agr.tr (Agr.i a_S5 146 (((10 * v3) + v2).toNatClampNeg) r4 (by decide)) (ak2 (S5.1, (u2 S5.2.1 146 (((10 * v3) + v2).toNatClampNeg) r4), S5.2.2.1, S5.2.2.2) v1 v2 (v3 + 1) _ _ hm)
set_option maxHeartbeats 4000000 in
set_option maxRecDepth 20000 in
theorem fbX11_laysGate_130_2 (x : XT) (k2 : ST → Int32 → Int32 → Int32 → Option (Unit × ST)) (ak2 : ∀ (S : ST) (v1 : Int32) (v2 : Int32) (v3 : Int32) (r : Unit) (S' : ST), k2 S v1 v2 v3 = some (r, S') → Agr wX11_laysGate_130 S S') (S : ST) (v1 : Int32) (v2 : Int32) (v3 : Int32) (r : Unit) (S' : ST) (hm : bfX11_laysGate_130_2 x k2 S v1 v2 v3 = some (r, S')) : Agr wX11_laysGate_130 S S' := by
    unfold bfX11_laysGate_130_2 at hm
    by_cases c1 : 20 ≤ v3
    · rw [if_pos c1] at hm
      cases hm
      exact Agr.rf
    · rw [if_neg c1] at hm
      cases h2 : gfX11_setsGate_130 x S v1 v2 v3 with
      | none => rw [h2] at hm; cases hm
      | some q3 =>
        obtain ⟨r4, S5⟩ := q3
        rw [h2] at hm
        dsimp only at hm
        have a_S5 : Agr wX11_laysGate_130 S S5 := Agr.tr Agr.rf (Agr.sub (frX11_setsGate_130 x S v1 v2 v3 _ _ h2) (by decide))
        cases h6 : gfX11_isBarredNow_130 x S5 with
        | none => rw [h6] at hm; cases hm
        | some q7 =>
          obtain ⟨r8, S9⟩ := q7
          rw [h6] at hm
          dsimp only at hm
          have a_S9 : Agr wX11_laysGate_130 S S9 := Agr.tr a_S5 (Agr.sub (frX11_isBarredNow_130 x S5 _ _ h6) (by decide))
          by_cases c10 : r8 = 0
          · rw [if_pos c10] at hm
            cases h11 : gfX11_turnsNow_130 x S9 with
            | none => rw [h11] at hm; cases hm
            | some q12 =>
              obtain ⟨r13, S14⟩ := q12
              rw [h11] at hm
              dsimp only at hm
              have a_S14 : Agr wX11_laysGate_130 S S14 := Agr.tr a_S9 (Agr.sub (frX11_turnsNow_130 x S9 _ _ h11) (by decide))
              exact Agr.tr a_S14 (fbX11_laysGate_130_40 x k2 ak2 S14 v1 v2 v3 ((10 * v3) + v2) r13 _ _ hm)
          · rw [if_neg c10] at hm
            exact Agr.tr a_S9 (fbX11_laysGate_130_40 x k2 ak2 S9 v1 v2 v3 ((10 * v3) + v2) (-1) _ _ hm)
theorem flX11_laysGate_130_2 (x : XT)  : ∀ (n : Nat) (S : ST) (v1 : Int32) (v2 : Int32) (v3 : Int32) (r : Unit) (S' : ST), lfX11_laysGate_130_2 x  n S v1 v2 v3 = some (r, S') → Agr wX11_laysGate_130 S S'
  | 0, _, _, _, _, _, _, hm => by cases hm
  | n + 1, S, v1, v2, v3, r, S', hm => fbX11_laysGate_130_2 x (lfX11_laysGate_130_2 x  n) (flX11_laysGate_130_2 x  n) S v1 v2 v3 r S' hm
set_option maxHeartbeats 4000000 in
set_option maxRecDepth 20000 in
theorem fbX11_laysGate_130_0 (x : XT)  (S : ST) (p1 : Int32) (p2 : Int32) (r : Unit) (S' : ST) (hm : bfX11_laysGate_130_0 x  S p1 p2 = some (r, S')) : Agr wX11_laysGate_130 S S' := by
    unfold bfX11_laysGate_130_0 at hm
    exact Agr.tr Agr.rf (flX11_laysGate_130_2 x  20000 S p1 p2 0 _ _ hm)
theorem frX11_laysGate_130 (x : XT) (S : ST) (p1 : Int32) (p2 : Int32) (r : Unit) (S' : ST) (hm : gfX11_laysGate_130 x S p1 p2 = some (r, S')) : Agr wX11_laysGate_130 S S' := fbX11_laysGate_130_0 x S p1 p2 r S' hm
def wX11_laysOut_130 : List (Nat × Nat) × List Nat × List Nat × List Nat := ([(130, 22), (130, 23), (130, 24), (130, 25)], [142, 145, 146], [], [])
set_option maxHeartbeats 4000000 in
set_option maxRecDepth 20000 in
theorem fbX11_laysOut_130_2 (x : XT) (k2 : ST → Int32 → Int32 → Option (Unit × ST)) (ak2 : ∀ (S : ST) (v1 : Int32) (v2 : Int32) (r : Unit) (S' : ST), k2 S v1 v2 = some (r, S') → Agr wX11_laysOut_130 S S') (S : ST) (v1 : Int32) (v2 : Int32) (r : Unit) (S' : ST) (hm : bfX11_laysOut_130_2 x k2 S v1 v2 = some (r, S')) : Agr wX11_laysOut_130 S S' := by
    unfold bfX11_laysOut_130_2 at hm
    cases h1 : gfX11_gateMany_130 x S with
    | none => rw [h1] at hm; cases hm
    | some q2 =>
      obtain ⟨r3, S4⟩ := q2
      rw [h1] at hm
      dsimp only at hm
      have a_S4 : Agr wX11_laysOut_130 S S4 := Agr.tr Agr.rf (Agr.sub (frX11_gateMany_130 x S _ _ h1) (by decide))
      by_cases c5 : r3 ≤ v2
      · rw [if_pos c5] at hm
        cases hm
        exact a_S4
      · rw [if_neg c5] at hm
        cases h6 : gfX11_laysGate_130 x S4 v1 v2 with
        | none => rw [h6] at hm; cases hm
        | some q7 =>
          obtain ⟨r8, S9⟩ := q7
          rw [h6] at hm
          dsimp only at hm
          have a_S9 : Agr wX11_laysOut_130 S S9 := Agr.tr a_S4 (Agr.sub (frX11_laysGate_130 x S4 v1 v2 _ _ h6) (by decide))
          exact Agr.tr a_S9 (ak2 S9 v1 (v2 + 1) _ _ hm)
theorem flX11_laysOut_130_2 (x : XT)  : ∀ (n : Nat) (S : ST) (v1 : Int32) (v2 : Int32) (r : Unit) (S' : ST), lfX11_laysOut_130_2 x  n S v1 v2 = some (r, S') → Agr wX11_laysOut_130 S S'
  | 0, _, _, _, _, _, hm => by cases hm
  | n + 1, S, v1, v2, r, S', hm => fbX11_laysOut_130_2 x (lfX11_laysOut_130_2 x  n) (flX11_laysOut_130_2 x  n) S v1 v2 r S' hm
set_option maxHeartbeats 4000000 in
set_option maxRecDepth 20000 in
theorem fbX11_laysOut_130_0 (x : XT)  (S : ST) (p1 : Int32) (r : Unit) (S' : ST) (hm : bfX11_laysOut_130_0 x  S p1 = some (r, S')) : Agr wX11_laysOut_130 S S' := by
    unfold bfX11_laysOut_130_0 at hm
    exact Agr.tr Agr.rf (flX11_laysOut_130_2 x  20000 S p1 0 _ _ hm)
theorem frX11_laysOut_130 (x : XT) (S : ST) (p1 : Int32) (r : Unit) (S' : ST) (hm : gfX11_laysOut_130 x S p1 = some (r, S')) : Agr wX11_laysOut_130 S S' := fbX11_laysOut_130_0 x S p1 r S' hm
def wX11_placeOf_130 : List (Nat × Nat) × List Nat × List Nat × List Nat := ([], [], [], [])
set_option maxHeartbeats 4000000 in
set_option maxRecDepth 20000 in
theorem fbX11_placeOf_130_0 (x : XT)  (S : ST) (p1 : Int32) (r : Int32) (S' : ST) (hm : bfX11_placeOf_130_0 x  S p1 = some (r, S')) : Agr wX11_placeOf_130 S S' := by
    unfold bfX11_placeOf_130_0 at hm
    obtain ⟨o1, hm⟩ := oblk hm
    obtain ⟨o2, hm⟩ := oblk hm
    cases hm
    exact Agr.rf
theorem frX11_placeOf_130 (x : XT) (S : ST) (p1 : Int32) (r : Int32) (S' : ST) (hm : gfX11_placeOf_130 x S p1 = some (r, S')) : Agr wX11_placeOf_130 S S' := fbX11_placeOf_130_0 x S p1 r S' hm
def wX11_nextPlace_130 : List (Nat × Nat) × List Nat × List Nat × List Nat := ([], [], [], [])
set_option maxHeartbeats 4000000 in
set_option maxRecDepth 20000 in
theorem fbX11_nextPlace_130_66 (x : XT)  (S : ST) (t0 : Int32) (r : Int32) (S' : ST) (hm : bfX11_nextPlace_130_66 x  S t0 = some (r, S')) : Agr wX11_nextPlace_130 S S' := by
    unfold bfX11_nextPlace_130_66 at hm
    cases hm
    exact Agr.rf
set_option maxHeartbeats 4000000 in
set_option maxRecDepth 20000 in
theorem fbX11_nextPlace_130_48 (x : XT)  (S : ST)  (r : Int32) (S' : ST) (hm : bfX11_nextPlace_130_48 x  S  = some (r, S')) : Agr wX11_nextPlace_130 S S' := by
    unfold bfX11_nextPlace_130_48 at hm
    exact Agr.tr Agr.rf (fbX11_nextPlace_130_66 x  S (-1) _ _ hm)
set_option maxHeartbeats 4000000 in
set_option maxRecDepth 20000 in
theorem fbX11_nextPlace_130_0 (x : XT)  (S : ST) (p1 : Int32) (p2 : Int32) (r : Int32) (S' : ST) (hm : bfX11_nextPlace_130_0 x  S p1 p2 = some (r, S')) : Agr wX11_nextPlace_130 S S' := by
    unfold bfX11_nextPlace_130_0 at hm
    obtain ⟨o1, hm⟩ := oblk hm
    obtain ⟨o2, hm⟩ := oblk hm
    by_cases c3 : ¬ (S.2.1 132 ((36 + p2).toNatClampNeg)) = (p1 / 20)
    · rw [if_pos c3] at hm
      exact Agr.tr Agr.rf (fbX11_nextPlace_130_48 x  S _ _ hm)
    · rw [if_neg c3] at hm
      obtain ⟨o4, hm⟩ := oblk hm
      by_cases c5 : (S.2.1 132 ((25 + p2).toNatClampNeg)) = 0
      · rw [if_pos c5] at hm
        exact Agr.tr Agr.rf (fbX11_nextPlace_130_48 x  S _ _ hm)
      · rw [if_neg c5] at hm
        by_cases c6 : ¬ (S.2.1 145 (((10 * (p1 - p1 / 20 * 20)) + p2).toNatClampNeg)) = (-1)
        · rw [if_pos c6] at hm
          obtain ⟨o7, hm⟩ := oblk hm
          exact Agr.tr Agr.rf (fbX11_nextPlace_130_66 x  S ((20 * (S.2.1 132 ((46 + p2).toNatClampNeg))) + (S.2.1 145 (((10 * (p1 - p1 / 20 * 20)) + p2).toNatClampNeg))) _ _ hm)
        · rw [if_neg c6] at hm
          exact Agr.tr Agr.rf (fbX11_nextPlace_130_48 x  S _ _ hm)
theorem frX11_nextPlace_130 (x : XT) (S : ST) (p1 : Int32) (p2 : Int32) (r : Int32) (S' : ST) (hm : gfX11_nextPlace_130 x S p1 p2 = some (r, S')) : Agr wX11_nextPlace_130 S S' := fbX11_nextPlace_130_0 x S p1 p2 r S' hm
def wX11_isGoal : List (Nat × Nat) × List Nat × List Nat × List Nat := ([], [], [], [])
set_option maxHeartbeats 4000000 in
set_option maxRecDepth 20000 in
theorem fbX11_isGoal_26 (x : XT)  (S : ST) (t0 : Int32) (r : Int32) (S' : ST) (hm : bfX11_isGoal_26 x  S t0 = some (r, S')) : Agr wX11_isGoal S S' := by
    unfold bfX11_isGoal_26 at hm
    obtain ⟨o1, hm⟩ := oblk hm
    cases hm
    exact Agr.rf
set_option maxHeartbeats 4000000 in
set_option maxRecDepth 20000 in
theorem fbX11_isGoal_25 (x : XT)  (S : ST)  (r : Int32) (S' : ST) (hm : bfX11_isGoal_25 x  S  = some (r, S')) : Agr wX11_isGoal S S' := by
    unfold bfX11_isGoal_25 at hm
    exact Agr.tr Agr.rf (fbX11_isGoal_26 x  S 0 _ _ hm)
set_option maxHeartbeats 4000000 in
set_option maxRecDepth 20000 in
theorem fbX11_isGoal_21 (x : XT)  (S : ST)  (r : Int32) (S' : ST) (hm : bfX11_isGoal_21 x  S  = some (r, S')) : Agr wX11_isGoal S S' := by
    unfold bfX11_isGoal_21 at hm
    exact Agr.tr Agr.rf (fbX11_isGoal_26 x  S 1 _ _ hm)
set_option maxHeartbeats 4000000 in
set_option maxRecDepth 20000 in
theorem fbX11_isGoal_0 (x : XT)  (S : ST) (p0 : Int32) (p1 : Int32) (p2 : Int32) (r : Int32) (S' : ST) (hm : bfX11_isGoal_0 x  S p0 p1 p2 = some (r, S')) : Agr wX11_isGoal S S' := by
    unfold bfX11_isGoal_0 at hm
    by_cases c1 : ¬ (p0 / 20) = p1
    · rw [if_pos c1] at hm
      exact Agr.tr Agr.rf (fbX11_isGoal_25 x  S _ _ hm)
    · rw [if_neg c1] at hm
      by_cases c2 : p2 = (-1)
      · rw [if_pos c2] at hm
        exact Agr.tr Agr.rf (fbX11_isGoal_21 x  S _ _ hm)
      · rw [if_neg c2] at hm
        by_cases c3 : ¬ (p0 - p0 / 20 * 20) = p2
        · rw [if_pos c3] at hm
          exact Agr.tr Agr.rf (fbX11_isGoal_25 x  S _ _ hm)
        · rw [if_neg c3] at hm
          exact Agr.tr Agr.rf (fbX11_isGoal_21 x  S _ _ hm)
theorem frX11_isGoal (x : XT) (S : ST) (p0 : Int32) (p1 : Int32) (p2 : Int32) (r : Int32) (S' : ST) (hm : gfX11_isGoal x S p0 p1 p2 = some (r, S')) : Agr wX11_isGoal S S' := fbX11_isGoal_0 x S p0 p1 p2 r S' hm
def wX11_canBeGoal : List (Nat × Nat) × List Nat × List Nat × List Nat := ([], [], [], [])
set_option maxHeartbeats 4000000 in
set_option maxRecDepth 20000 in
theorem fbX11_canBeGoal_22 (x : XT)  (S : ST) (t0 : Int32) (r : Int32) (S' : ST) (hm : bfX11_canBeGoal_22 x  S t0 = some (r, S')) : Agr wX11_canBeGoal S S' := by
    unfold bfX11_canBeGoal_22 at hm
    obtain ⟨o1, hm⟩ := oblk hm
    cases hm
    exact Agr.rf
set_option maxHeartbeats 4000000 in
set_option maxRecDepth 20000 in
theorem fbX11_canBeGoal_21 (x : XT)  (S : ST)  (r : Int32) (S' : ST) (hm : bfX11_canBeGoal_21 x  S  = some (r, S')) : Agr wX11_canBeGoal S S' := by
    unfold bfX11_canBeGoal_21 at hm
    exact Agr.tr Agr.rf (fbX11_canBeGoal_22 x  S 0 _ _ hm)
set_option maxHeartbeats 4000000 in
set_option maxRecDepth 20000 in
theorem fbX11_canBeGoal_0 (x : XT)  (S : ST) (p0 : Int32) (p1 : Int32) (r : Int32) (S' : ST) (hm : bfX11_canBeGoal_0 x  S p0 p1 = some (r, S')) : Agr wX11_canBeGoal S S' := by
    unfold bfX11_canBeGoal_0 at hm
    cases h1 : gfX11_isPark x S p0 with
    | none => rw [h1] at hm; cases hm
    | some q2 =>
      obtain ⟨r3, S4⟩ := q2
      rw [h1] at hm
      dsimp only at hm
      have a_S4 : Agr wX11_canBeGoal S S4 := Agr.tr Agr.rf (Agr.sub (frX11_isPark x S p0 _ _ h1) (by decide))
      by_cases c5 : r3 = 0
      · rw [if_pos c5] at hm
        exact Agr.tr a_S4 (fbX11_canBeGoal_21 x  S4 _ _ hm)
      · rw [if_neg c5] at hm
        cases h6 : gfX11_lies x S4 p1 (-1) 19 with
        | none => rw [h6] at hm; cases hm
        | some q7 =>
          obtain ⟨r8, S9⟩ := q7
          rw [h6] at hm
          dsimp only at hm
          have a_S9 : Agr wX11_canBeGoal S S9 := Agr.tr a_S4 (Agr.sub (frX11_lies x S4 p1 (-1) 19 _ _ h6) (by decide))
          by_cases c10 : r8 = 0
          · rw [if_pos c10] at hm
            exact Agr.tr a_S9 (fbX11_canBeGoal_21 x  S9 _ _ hm)
          · rw [if_neg c10] at hm
            exact Agr.tr a_S9 (fbX11_canBeGoal_22 x  S9 1 _ _ hm)
theorem frX11_canBeGoal (x : XT) (S : ST) (p0 : Int32) (p1 : Int32) (r : Int32) (S' : ST) (hm : gfX11_canBeGoal x S p0 p1 = some (r, S')) : Agr wX11_canBeGoal S S' := fbX11_canBeGoal_0 x S p0 p1 r S' hm
def wX11_laysLeft_130 : List (Nat × Nat) × List Nat × List Nat × List Nat := ([], [147], [], [])
set_option maxHeartbeats 4000000 in
set_option maxRecDepth 20000 in
theorem fbX11_laysLeft_130_163 (x : XT) (k42 : ST → Int32 → Int32 → Option (Unit × ST)) (ak42 : ∀ (S : ST) (v3 : Int32) (v4 : Int32) (r : Unit) (S' : ST), k42 S v3 v4 = some (r, S') → Agr wX11_laysLeft_130 S S') (k53 : ST → Int32 → Int32 → Int32 → Option (Unit × ST)) (ak53 : ∀ (S : ST) (v3 : Int32) (v4 : Int32) (v5 : Int32) (r : Unit) (S' : ST), k53 S v3 v4 v5 = some (r, S') → Agr wX11_laysLeft_130 S S') (S : ST) (v3 : Int32) (v4 : Int32) (v5 : Int32) (r : Unit) (S' : ST) (hm : bfX11_laysLeft_130_163 x k42 k53 S v3 v4 v5 = some (r, S')) : Agr wX11_laysLeft_130 S S' := by
    unfold bfX11_laysLeft_130_163 at hm
    exact Agr.tr Agr.rf (ak53 S v3 v4 (v5 + 1) _ _ hm)
set_option maxHeartbeats 4000000 in
set_option maxRecDepth 20000 in
theorem fbX11_laysLeft_130_133 (x : XT) (k42 : ST → Int32 → Int32 → Option (Unit × ST)) (ak42 : ∀ (S : ST) (v3 : Int32) (v4 : Int32) (r : Unit) (S' : ST), k42 S v3 v4 = some (r, S') → Agr wX11_laysLeft_130 S S') (k53 : ST → Int32 → Int32 → Int32 → Option (Unit × ST)) (ak53 : ∀ (S : ST) (v3 : Int32) (v4 : Int32) (v5 : Int32) (r : Unit) (S' : ST), k53 S v3 v4 v5 = some (r, S') → Agr wX11_laysLeft_130 S S') (S : ST) (v3 : Int32) (v4 : Int32) (v5 : Int32) (v6 : Int32) (t0 : Int32) (t1 : Int32) (r : Unit) (S' : ST) (hm : bfX11_laysLeft_130_133 x k42 k53 S v3 v4 v5 v6 t0 t1 = some (r, S')) : Agr wX11_laysLeft_130 S S' := by
    unfold bfX11_laysLeft_130_133 at hm
    obtain ⟨o1, hm⟩ := oblk hm
    by_cases c2 : (t0 + t1) < (S.2.1 147 v6.toNatClampNeg)
    · rw [if_pos c2] at hm
      obtain ⟨o3, hm⟩ := oblk hm
      exact Agr.tr (Agr.i Agr.rf 147 v6.toNatClampNeg (t0 + t1) (by decide)) (fbX11_laysLeft_130_163 x k42 ak42 k53 ak53 (S.1, (u2 S.2.1 147 v6.toNatClampNeg (t0 + t1)), S.2.2.1, S.2.2.2) v3 1 v5 _ _ hm)
    · rw [if_neg c2] at hm
      exact Agr.tr Agr.rf (fbX11_laysLeft_130_163 x k42 ak42 k53 ak53 S v3 v4 v5 _ _ hm)
set_option maxHeartbeats 4000000 in
set_option maxRecDepth 20000 in
theorem fbX11_laysLeft_130_53 (x : XT) (k42 : ST → Int32 → Int32 → Option (Unit × ST)) (ak42 : ∀ (S : ST) (v3 : Int32) (v4 : Int32) (r : Unit) (S' : ST), k42 S v3 v4 = some (r, S') → Agr wX11_laysLeft_130 S S') (k53 : ST → Int32 → Int32 → Int32 → Option (Unit × ST)) (ak53 : ∀ (S : ST) (v3 : Int32) (v4 : Int32) (v5 : Int32) (r : Unit) (S' : ST), k53 S v3 v4 v5 = some (r, S') → Agr wX11_laysLeft_130 S S') (S : ST) (v3 : Int32) (v4 : Int32) (v5 : Int32) (r : Unit) (S' : ST) (hm : bfX11_laysLeft_130_53 x k42 k53 S v3 v4 v5 = some (r, S')) : Agr wX11_laysLeft_130 S S' := by
    unfold bfX11_laysLeft_130_53 at hm
    cases h1 : gfX11_gateMany_130 x S with
    | none => rw [h1] at hm; cases hm
    | some q2 =>
      obtain ⟨r3, S4⟩ := q2
      rw [h1] at hm
      dsimp only at hm
      have a_S4 : Agr wX11_laysLeft_130 S S4 := Agr.tr Agr.rf (Agr.sub (frX11_gateMany_130 x S _ _ h1) (by decide))
      by_cases c5 : (120 * r3) ≤ v5
      · rw [if_pos c5] at hm
        exact Agr.tr a_S4 (ak42 S4 v3 v4 _ _ hm)
      · rw [if_neg c5] at hm
        cases h6 : gfX11_gateMany_130 x S4 with
        | none => rw [h6] at hm; cases hm
        | some q7 =>
          obtain ⟨r8, S9⟩ := q7
          rw [h6] at hm
          dsimp only at hm
          have a_S9 : Agr wX11_laysLeft_130 S S9 := Agr.tr a_S4 (Agr.sub (frX11_gateMany_130 x S4 _ _ h6) (by decide))
          obtain ⟨o10, hm⟩ := oblk hm
          cases h11 : gfX11_gateMany_130 x S9 with
          | none => rw [h11] at hm; cases hm
          | some q12 =>
            obtain ⟨r13, S14⟩ := q12
            rw [h11] at hm
            dsimp only at hm
            have a_S14 : Agr wX11_laysLeft_130 S S14 := Agr.tr a_S9 (Agr.sub (frX11_gateMany_130 x S9 _ _ h11) (by decide))
            obtain ⟨o15, hm⟩ := oblk hm
            cases h16 : gfX11_nextPlace_130 x S14 (v5 / r8) (v5 - v5 / r13 * r13) with
            | none => rw [h16] at hm; cases hm
            | some q17 =>
              obtain ⟨r18, S19⟩ := q17
              rw [h16] at hm
              dsimp only at hm
              have a_S19 : Agr wX11_laysLeft_130 S S19 := Agr.tr a_S14 (Agr.sub (frX11_nextPlace_130 x S14 (v5 / r8) (v5 - v5 / r13 * r13) _ _ h16) (by decide))
              by_cases c20 : ¬ r18 = (-1)
              · rw [if_pos c20] at hm
                obtain ⟨o21, hm⟩ := oblk hm
                by_cases c22 : v3 = 0
                · rw [if_pos c22] at hm
                  exact Agr.tr a_S19 (fbX11_laysLeft_130_133 x k42 ak42 k53 ak53 S19 v3 v4 v5 (v5 / r8) (S19.2.1 147 r18.toNatClampNeg) 1 _ _ hm)
                · rw [if_neg c22] at hm
                  obtain ⟨o23, hm⟩ := oblk hm
                  exact Agr.tr a_S19 (fbX11_laysLeft_130_133 x k42 ak42 k53 ak53 S19 v3 v4 v5 (v5 / r8) (S19.2.1 147 r18.toNatClampNeg) (S19.2.1 146 (((10 * ((v5 / r8) - (v5 / r8) / 20 * 20)) + (v5 - v5 / r13 * r13)).toNatClampNeg)) _ _ hm)
              · rw [if_neg c20] at hm
                exact Agr.tr a_S19 (fbX11_laysLeft_130_163 x k42 ak42 k53 ak53 S19 v3 v4 v5 _ _ hm)
theorem flX11_laysLeft_130_53 (x : XT) (k42 : ST → Int32 → Int32 → Option (Unit × ST)) (ak42 : ∀ (S : ST) (v3 : Int32) (v4 : Int32) (r : Unit) (S' : ST), k42 S v3 v4 = some (r, S') → Agr wX11_laysLeft_130 S S') : ∀ (n : Nat) (S : ST) (v3 : Int32) (v4 : Int32) (v5 : Int32) (r : Unit) (S' : ST), lfX11_laysLeft_130_53 x k42 n S v3 v4 v5 = some (r, S') → Agr wX11_laysLeft_130 S S'
  | 0, _, _, _, _, _, _, hm => by cases hm
  | n + 1, S, v3, v4, v5, r, S', hm => fbX11_laysLeft_130_53 x k42 ak42 (lfX11_laysLeft_130_53 x k42 n) (flX11_laysLeft_130_53 x k42 ak42 n) S v3 v4 v5 r S' hm
set_option maxHeartbeats 4000000 in
set_option maxRecDepth 20000 in
theorem fbX11_laysLeft_130_42 (x : XT) (k42 : ST → Int32 → Int32 → Option (Unit × ST)) (ak42 : ∀ (S : ST) (v3 : Int32) (v4 : Int32) (r : Unit) (S' : ST), k42 S v3 v4 = some (r, S') → Agr wX11_laysLeft_130 S S') (S : ST) (v3 : Int32) (v4 : Int32) (r : Unit) (S' : ST) (hm : bfX11_laysLeft_130_42 x k42 S v3 v4 = some (r, S')) : Agr wX11_laysLeft_130 S S' := by
    unfold bfX11_laysLeft_130_42 at hm
    by_cases c1 : v4 = 0
    · rw [if_pos c1] at hm
      cases hm
      exact Agr.rf
    · rw [if_neg c1] at hm
      exact Agr.tr Agr.rf (flX11_laysLeft_130_53 x k42 ak42 20000 S v3 0 0 _ _ hm)
theorem flX11_laysLeft_130_42 (x : XT)  : ∀ (n : Nat) (S : ST) (v3 : Int32) (v4 : Int32) (r : Unit) (S' : ST), lfX11_laysLeft_130_42 x  n S v3 v4 = some (r, S') → Agr wX11_laysLeft_130 S S'
  | 0, _, _, _, _, _, hm => by cases hm
  | n + 1, S, v3, v4, r, S', hm => fbX11_laysLeft_130_42 x (lfX11_laysLeft_130_42 x  n) (flX11_laysLeft_130_42 x  n) S v3 v4 r S' hm
set_option maxHeartbeats 4000000 in
set_option maxRecDepth 20000 in
theorem fbX11_laysLeft_130_32 (x : XT) (k3 : ST → Int32 → Int32 → Int32 → Int32 → Option (Unit × ST)) (ak3 : ∀ (S : ST) (v1 : Int32) (v2 : Int32) (v3 : Int32) (v4 : Int32) (r : Unit) (S' : ST), k3 S v1 v2 v3 v4 = some (r, S') → Agr wX11_laysLeft_130 S S') (S : ST) (v1 : Int32) (v2 : Int32) (v3 : Int32) (v4 : Int32) (t1 : Int32) (t2 : Int32) (r : Unit) (S' : ST) (hm : bfX11_laysLeft_130_32 x k3 S v1 v2 v3 v4 t1 t2 = some (r, S')) : Agr wX11_laysLeft_130 S S' := by
    unfold bfX11_laysLeft_130_32 at hm
    obtain ⟨o1, hm⟩ := oblk hm
    exact Agr.tr (Agr.i Agr.rf 147 t1.toNatClampNeg t2 (by decide)) (ak3 (S.1, (u2 S.2.1 147 t1.toNatClampNeg t2), S.2.2.1, S.2.2.2) v1 v2 v3 (v4 + 1) _ _ hm)
set_option maxHeartbeats 4000000 in
set_option maxRecDepth 20000 in
theorem fbX11_laysLeft_130_3 (x : XT) (k3 : ST → Int32 → Int32 → Int32 → Int32 → Option (Unit × ST)) (ak3 : ∀ (S : ST) (v1 : Int32) (v2 : Int32) (v3 : Int32) (v4 : Int32) (r : Unit) (S' : ST), k3 S v1 v2 v3 v4 = some (r, S') → Agr wX11_laysLeft_130 S S') (S : ST) (v1 : Int32) (v2 : Int32) (v3 : Int32) (v4 : Int32) (r : Unit) (S' : ST) (hm : bfX11_laysLeft_130_3 x k3 S v1 v2 v3 v4 = some (r, S')) : Agr wX11_laysLeft_130 S S' := by
    unfold bfX11_laysLeft_130_3 at hm
    by_cases c1 : 120 ≤ v4
    · rw [if_pos c1] at hm
      exact Agr.tr Agr.rf (flX11_laysLeft_130_42 x  1000000000 S v3 1 _ _ hm)
    · rw [if_neg c1] at hm
      cases h2 : gfX11_isGoal x S v4 v1 v2 with
      | none => rw [h2] at hm; cases hm
      | some q3 =>
        obtain ⟨r4, S5⟩ := q3
        rw [h2] at hm
        dsimp only at hm
        have a_S5 : Agr wX11_laysLeft_130 S S5 := Agr.tr Agr.rf (Agr.sub (frX11_isGoal x S v4 v1 v2 _ _ h2) (by decide))
        by_cases c6 : r4 = 0
        · rw [if_pos c6] at hm
          exact Agr.tr a_S5 (fbX11_laysLeft_130_32 x k3 ak3 S5 v1 v2 v3 v4 v4 1000000 _ _ hm)
        · rw [if_neg c6] at hm
          exact Agr.tr a_S5 (fbX11_laysLeft_130_32 x k3 ak3 S5 v1 v2 v3 v4 v4 0 _ _ hm)
theorem flX11_laysLeft_130_3 (x : XT)  : ∀ (n : Nat) (S : ST) (v1 : Int32) (v2 : Int32) (v3 : Int32) (v4 : Int32) (r : Unit) (S' : ST), lfX11_laysLeft_130_3 x  n S v1 v2 v3 v4 = some (r, S') → Agr wX11_laysLeft_130 S S'
  | 0, _, _, _, _, _, _, _, hm => by cases hm
  | n + 1, S, v1, v2, v3, v4, r, S', hm => fbX11_laysLeft_130_3 x (lfX11_laysLeft_130_3 x  n) (flX11_laysLeft_130_3 x  n) S v1 v2 v3 v4 r S' hm
set_option maxHeartbeats 4000000 in
set_option maxRecDepth 20000 in
theorem fbX11_laysLeft_130_0 (x : XT)  (S : ST) (p1 : Int32) (p2 : Int32) (p3 : Int32) (r : Unit) (S' : ST) (hm : bfX11_laysLeft_130_0 x  S p1 p2 p3 = some (r, S')) : Agr wX11_laysLeft_130 S S' := by
    unfold bfX11_laysLeft_130_0 at hm
    exact Agr.tr Agr.rf (flX11_laysLeft_130_3 x  20000 S p1 p2 p3 0 _ _ hm)
theorem frX11_laysLeft_130 (x : XT) (S : ST) (p1 : Int32) (p2 : Int32) (p3 : Int32) (r : Unit) (S' : ST) (hm : gfX11_laysLeft_130 x S p1 p2 p3 = some (r, S')) : Agr wX11_laysLeft_130 S S' := fbX11_laysLeft_130_0 x S p1 p2 p3 r S' hm
def wX11_way_130 : List (Nat × Nat) × List Nat × List Nat × List Nat := ([(130, 22), (130, 23), (130, 24), (130, 25)], [142, 145, 146, 147], [], [])
set_option maxHeartbeats 4000000 in
set_option maxRecDepth 20000 in
theorem fbX11_way_130_22 (x : XT)  (S : ST)  (r : Int32) (S' : ST) (hm : bfX11_way_130_22 x  S  = some (r, S')) : Agr wX11_way_130 S S' := by
    unfold bfX11_way_130_22 at hm
    cases hm
    exact Agr.rf
set_option maxHeartbeats 4000000 in
set_option maxRecDepth 20000 in
theorem fbX11_way_130_92 (x : XT)  (S : ST) (t0 : Int32) (r : Int32) (S' : ST) (hm : bfX11_way_130_92 x  S t0 = some (r, S')) : Agr wX11_way_130 S S' := by
    unfold bfX11_way_130_92 at hm
    cases hm
    exact Agr.rf
set_option maxHeartbeats 4000000 in
set_option maxRecDepth 20000 in
theorem fbX11_way_130_75 (x : XT)  (S : ST) (v4 : Int32) (v5 : Int32) (r : Int32) (S' : ST) (hm : bfX11_way_130_75 x  S v4 v5 = some (r, S')) : Agr wX11_way_130 S S' := by
    unfold bfX11_way_130_75 at hm
    by_cases c1 : ¬ v4 = (-1)
    · rw [if_pos c1] at hm
      exact Agr.tr Agr.rf (fbX11_way_130_92 x  S (-1) _ _ hm)
    · rw [if_neg c1] at hm
      obtain ⟨o2, hm⟩ := oblk hm
      exact Agr.tr Agr.rf (fbX11_way_130_92 x  S (S.2.1 147 v5.toNatClampNeg) _ _ hm)
set_option maxHeartbeats 4000000 in
set_option maxRecDepth 20000 in
theorem fbX11_way_130_146 (x : XT) (k99 : ST → Int32 → Int32 → Int32 → Int32 → Option (Int32 × ST)) (ak99 : ∀ (S : ST) (v4 : Int32) (v5 : Int32) (v6 : Int32) (v7 : Int32) (r : Int32) (S' : ST), k99 S v4 v5 v6 v7 = some (r, S') → Agr wX11_way_130 S S') (k109 : ST → Int32 → Int32 → Int32 → Int32 → Option (Int32 × ST)) (ak109 : ∀ (S : ST) (v4 : Int32) (v5 : Int32) (v6 : Int32) (v7 : Int32) (r : Int32) (S' : ST), k109 S v4 v5 v6 v7 = some (r, S') → Agr wX11_way_130 S S') (S : ST) (v4 : Int32) (v5 : Int32) (v6 : Int32) (v7 : Int32) (r : Int32) (S' : ST) (hm : bfX11_way_130_146 x k99 k109 S v4 v5 v6 v7 = some (r, S')) : Agr wX11_way_130 S S' := by
    unfold bfX11_way_130_146 at hm
    exact Agr.tr Agr.rf (ak109 S v4 v5 (v6 + 1) v7 _ _ hm)
set_option maxHeartbeats 4000000 in
set_option maxRecDepth 20000 in
theorem fbX11_way_130_109 (x : XT) (k99 : ST → Int32 → Int32 → Int32 → Int32 → Option (Int32 × ST)) (ak99 : ∀ (S : ST) (v4 : Int32) (v5 : Int32) (v6 : Int32) (v7 : Int32) (r : Int32) (S' : ST), k99 S v4 v5 v6 v7 = some (r, S') → Agr wX11_way_130 S S') (k109 : ST → Int32 → Int32 → Int32 → Int32 → Option (Int32 × ST)) (ak109 : ∀ (S : ST) (v4 : Int32) (v5 : Int32) (v6 : Int32) (v7 : Int32) (r : Int32) (S' : ST), k109 S v4 v5 v6 v7 = some (r, S') → Agr wX11_way_130 S S') (S : ST) (v4 : Int32) (v5 : Int32) (v6 : Int32) (v7 : Int32) (r : Int32) (S' : ST) (hm : bfX11_way_130_109 x k99 k109 S v4 v5 v6 v7 = some (r, S')) : Agr wX11_way_130 S S' := by
    unfold bfX11_way_130_109 at hm
    cases h1 : gfX11_nextPlace_130 x S v5 v6 with
    | none => rw [h1] at hm; cases hm
    | some q2 =>
      obtain ⟨r3, S4⟩ := q2
      rw [h1] at hm
      dsimp only at hm
      have a_S4 : Agr wX11_way_130 S S4 := Agr.tr Agr.rf (Agr.sub (frX11_nextPlace_130 x S v5 v6 _ _ h1) (by decide))
      by_cases c5 : r3 = (-1)
      · rw [if_pos c5] at hm
        exact Agr.tr a_S4 (fbX11_way_130_146 x k99 ak99 k109 ak109 S4 v4 v5 v6 v7 _ _ hm)
      · rw [if_neg c5] at hm
        cases h6 : gfX11_nextPlace_130 x S4 v5 v6 with
        | none => rw [h6] at hm; cases hm
        | some q7 =>
          obtain ⟨r8, S9⟩ := q7
          rw [h6] at hm
          dsimp only at hm
          have a_S9 : Agr wX11_way_130 S S9 := Agr.tr a_S4 (Agr.sub (frX11_nextPlace_130 x S4 v5 v6 _ _ h6) (by decide))
          obtain ⟨o10, hm⟩ := oblk hm
          obtain ⟨o11, hm⟩ := oblk hm
          by_cases c12 : (S9.2.1 147 r8.toNatClampNeg) = ((S9.2.1 147 v5.toNatClampNeg) - 1)
          · rw [if_pos c12] at hm
            cases h13 : gfX11_nextPlace_130 x S9 v5 v6 with
            | none => rw [h13] at hm; cases hm
            | some q14 =>
              obtain ⟨r15, S16⟩ := q14
              rw [h13] at hm
              dsimp only at hm
              have a_S16 : Agr wX11_way_130 S S16 := Agr.tr a_S9 (Agr.sub (frX11_nextPlace_130 x S9 v5 v6 _ _ h13) (by decide))
              exact Agr.tr a_S16 (ak99 S16 v4 r15 v6 (v7 + 1) _ _ hm)
          · rw [if_neg c12] at hm
            exact Agr.tr a_S9 (fbX11_way_130_146 x k99 ak99 k109 ak109 S9 v4 v5 v6 v7 _ _ hm)
theorem flX11_way_130_109 (x : XT) (k99 : ST → Int32 → Int32 → Int32 → Int32 → Option (Int32 × ST)) (ak99 : ∀ (S : ST) (v4 : Int32) (v5 : Int32) (v6 : Int32) (v7 : Int32) (r : Int32) (S' : ST), k99 S v4 v5 v6 v7 = some (r, S') → Agr wX11_way_130 S S') : ∀ (n : Nat) (S : ST) (v4 : Int32) (v5 : Int32) (v6 : Int32) (v7 : Int32) (r : Int32) (S' : ST), lfX11_way_130_109 x k99 n S v4 v5 v6 v7 = some (r, S') → Agr wX11_way_130 S S'
  | 0, _, _, _, _, _, _, _, hm => by cases hm
  | n + 1, S, v4, v5, v6, v7, r, S', hm => fbX11_way_130_109 x k99 ak99 (lfX11_way_130_109 x k99 n) (flX11_way_130_109 x k99 ak99 n) S v4 v5 v6 v7 r S' hm
set_option maxHeartbeats 4000000 in
set_option maxRecDepth 20000 in
theorem fbX11_way_130_99 (x : XT) (k99 : ST → Int32 → Int32 → Int32 → Int32 → Option (Int32 × ST)) (ak99 : ∀ (S : ST) (v4 : Int32) (v5 : Int32) (v6 : Int32) (v7 : Int32) (r : Int32) (S' : ST), k99 S v4 v5 v6 v7 = some (r, S') → Agr wX11_way_130 S S') (S : ST) (v4 : Int32) (v5 : Int32) (v6 : Int32) (v7 : Int32) (r : Int32) (S' : ST) (hm : bfX11_way_130_99 x k99 S v4 v5 v6 v7 = some (r, S')) : Agr wX11_way_130 S S' := by
    unfold bfX11_way_130_99 at hm
    by_cases c1 : v4 < v7
    · rw [if_pos c1] at hm
      cases hm
      exact Agr.rf
    · rw [if_neg c1] at hm
      exact Agr.tr Agr.rf (flX11_way_130_109 x k99 ak99 20000 S v4 v5 0 v7 _ _ hm)
theorem flX11_way_130_99 (x : XT)  : ∀ (n : Nat) (S : ST) (v4 : Int32) (v5 : Int32) (v6 : Int32) (v7 : Int32) (r : Int32) (S' : ST), lfX11_way_130_99 x  n S v4 v5 v6 v7 = some (r, S') → Agr wX11_way_130 S S'
  | 0, _, _, _, _, _, _, _, hm => by cases hm
  | n + 1, S, v4, v5, v6, v7, r, S', hm => fbX11_way_130_99 x (lfX11_way_130_99 x  n) (flX11_way_130_99 x  n) S v4 v5 v6 v7 r S' hm
set_option maxHeartbeats 4000000 in
set_option maxRecDepth 20000 in
theorem fbX11_way_130_0 (x : XT)  (S : ST) (p1 : Int32) (p2 : Int32) (p3 : Int32) (p4 : Int32) (r : Int32) (S' : ST) (hm : bfX11_way_130_0 x  S p1 p2 p3 p4 = some (r, S')) : Agr wX11_way_130 S S' := by
    unfold bfX11_way_130_0 at hm
    cases h1 : gfX11_isGoer_130 x S p1 with
    | none => rw [h1] at hm; cases hm
    | some q2 =>
      obtain ⟨r3, S4⟩ := q2
      rw [h1] at hm
      dsimp only at hm
      have a_S4 : Agr wX11_way_130 S S4 := Agr.tr Agr.rf (Agr.sub (frX11_isGoer_130 x S p1 _ _ h1) (by decide))
      by_cases c5 : r3 = 0
      · rw [if_pos c5] at hm
        exact Agr.tr a_S4 (fbX11_way_130_22 x  S4 _ _ hm)
      · rw [if_neg c5] at hm
        cases h6 : gfX11_canBeGoal x S4 p2 p3 with
        | none => rw [h6] at hm; cases hm
        | some q7 =>
          obtain ⟨r8, S9⟩ := q7
          rw [h6] at hm
          dsimp only at hm
          have a_S9 : Agr wX11_way_130 S S9 := Agr.tr a_S4 (Agr.sub (frX11_canBeGoal x S4 p2 p3 _ _ h6) (by decide))
          by_cases c10 : r8 = 0
          · rw [if_pos c10] at hm
            exact Agr.tr a_S9 (fbX11_way_130_22 x  S9 _ _ hm)
          · rw [if_neg c10] at hm
            by_cases c11 : (-1) ≤ p4
            · rw [if_pos c11] at hm
              cases h12 : gfX11_laysOut_130 x S9 p1 with
              | none => rw [h12] at hm; cases hm
              | some q13 =>
                obtain ⟨r14, S15⟩ := q13
                rw [h12] at hm
                dsimp only at hm
                have a_S15 : Agr wX11_way_130 S S15 := Agr.tr a_S9 (Agr.sub (frX11_laysOut_130 x S9 p1 _ _ h12) (by decide))
                cases h16 : gfX11_laysLeft_130 x S15 p2 p3 0 with
                | none => rw [h16] at hm; cases hm
                | some q17 =>
                  obtain ⟨r18, S19⟩ := q17
                  rw [h16] at hm
                  dsimp only at hm
                  have a_S19 : Agr wX11_way_130 S S19 := Agr.tr a_S15 (Agr.sub (frX11_laysLeft_130 x S15 p2 p3 0 _ _ h16) (by decide))
                  cases h20 : gfX11_placeOf_130 x S19 p1 with
                  | none => rw [h20] at hm; cases hm
                  | some q21 =>
                    obtain ⟨r22, S23⟩ := q21
                    rw [h20] at hm
                    dsimp only at hm
                    have a_S23 : Agr wX11_way_130 S S23 := Agr.tr a_S19 (Agr.sub (frX11_placeOf_130 x S19 p1 _ _ h20) (by decide))
                    obtain ⟨o24, hm⟩ := oblk hm
                    by_cases c25 : (S23.2.1 147 r22.toNatClampNeg) < 1000000
                    · rw [if_pos c25] at hm
                      by_cases c26 : p4 = (-1)
                      · rw [if_pos c26] at hm
                        exact Agr.tr a_S23 (fbX11_way_130_75 x  S23 p4 r22 _ _ hm)
                      · rw [if_neg c26] at hm
                        obtain ⟨o27, hm⟩ := oblk hm
                        by_cases c28 : p4 < (S23.2.1 147 r22.toNatClampNeg)
                        · rw [if_pos c28] at hm
                          exact Agr.tr a_S23 (flX11_way_130_99 x  20000 S23 p4 r22 (-1) 0 _ _ hm)
                        · rw [if_neg c28] at hm
                          exact Agr.tr a_S23 (fbX11_way_130_75 x  S23 p4 r22 _ _ hm)
                    · rw [if_neg c25] at hm
                      cases hm
                      exact a_S23
            · rw [if_neg c11] at hm
              exact Agr.tr a_S9 (fbX11_way_130_22 x  S9 _ _ hm)
theorem frX11_way_130 (x : XT) (S : ST) (p1 : Int32) (p2 : Int32) (p3 : Int32) (p4 : Int32) (r : Int32) (S' : ST) (hm : gfX11_way_130 x S p1 p2 p3 p4 = some (r, S')) : Agr wX11_way_130 S S' := fbX11_way_130_0 x S p1 p2 p3 p4 r S' hm
def wX11_cheap_130 : List (Nat × Nat) × List Nat × List Nat × List Nat := ([(130, 22), (130, 23), (130, 24), (130, 25)], [142, 145, 146, 147], [], [])
set_option maxHeartbeats 4000000 in
set_option maxRecDepth 20000 in
theorem fbX11_cheap_130_16 (x : XT)  (S : ST)  (r : Int32) (S' : ST) (hm : bfX11_cheap_130_16 x  S  = some (r, S')) : Agr wX11_cheap_130 S S' := by
    unfold bfX11_cheap_130_16 at hm
    cases hm
    exact Agr.rf
set_option maxHeartbeats 4000000 in
set_option maxRecDepth 20000 in
theorem fbX11_cheap_130_59 (x : XT)  (S : ST) (t0 : Int32) (r : Int32) (S' : ST) (hm : bfX11_cheap_130_59 x  S t0 = some (r, S')) : Agr wX11_cheap_130 S S' := by
    unfold bfX11_cheap_130_59 at hm
    cases hm
    exact Agr.rf
set_option maxHeartbeats 4000000 in
set_option maxRecDepth 20000 in
theorem fbX11_cheap_130_0 (x : XT)  (S : ST) (p1 : Int32) (p2 : Int32) (p3 : Int32) (r : Int32) (S' : ST) (hm : bfX11_cheap_130_0 x  S p1 p2 p3 = some (r, S')) : Agr wX11_cheap_130 S S' := by
    unfold bfX11_cheap_130_0 at hm
    cases h1 : gfX11_isGoer_130 x S p1 with
    | none => rw [h1] at hm; cases hm
    | some q2 =>
      obtain ⟨r3, S4⟩ := q2
      rw [h1] at hm
      dsimp only at hm
      have a_S4 : Agr wX11_cheap_130 S S4 := Agr.tr Agr.rf (Agr.sub (frX11_isGoer_130 x S p1 _ _ h1) (by decide))
      by_cases c5 : r3 = 0
      · rw [if_pos c5] at hm
        exact Agr.tr a_S4 (fbX11_cheap_130_16 x  S4 _ _ hm)
      · rw [if_neg c5] at hm
        cases h6 : gfX11_canBeGoal x S4 p2 p3 with
        | none => rw [h6] at hm; cases hm
        | some q7 =>
          obtain ⟨r8, S9⟩ := q7
          rw [h6] at hm
          dsimp only at hm
          have a_S9 : Agr wX11_cheap_130 S S9 := Agr.tr a_S4 (Agr.sub (frX11_canBeGoal x S4 p2 p3 _ _ h6) (by decide))
          by_cases c10 : ¬ r8 = 0
          · rw [if_pos c10] at hm
            cases h11 : gfX11_laysOut_130 x S9 p1 with
            | none => rw [h11] at hm; cases hm
            | some q12 =>
              obtain ⟨r13, S14⟩ := q12
              rw [h11] at hm
              dsimp only at hm
              have a_S14 : Agr wX11_cheap_130 S S14 := Agr.tr a_S9 (Agr.sub (frX11_laysOut_130 x S9 p1 _ _ h11) (by decide))
              cases h15 : gfX11_laysLeft_130 x S14 p2 p3 1 with
              | none => rw [h15] at hm; cases hm
              | some q16 =>
                obtain ⟨r17, S18⟩ := q16
                rw [h15] at hm
                dsimp only at hm
                have a_S18 : Agr wX11_cheap_130 S S18 := Agr.tr a_S14 (Agr.sub (frX11_laysLeft_130 x S14 p2 p3 1 _ _ h15) (by decide))
                cases h19 : gfX11_placeOf_130 x S18 p1 with
                | none => rw [h19] at hm; cases hm
                | some q20 =>
                  obtain ⟨r21, S22⟩ := q20
                  rw [h19] at hm
                  dsimp only at hm
                  have a_S22 : Agr wX11_cheap_130 S S22 := Agr.tr a_S18 (Agr.sub (frX11_placeOf_130 x S18 p1 _ _ h19) (by decide))
                  obtain ⟨o23, hm⟩ := oblk hm
                  by_cases c24 : (S22.2.1 147 r21.toNatClampNeg) < 1000000
                  · rw [if_pos c24] at hm
                    cases h25 : gfX11_placeOf_130 x S22 p1 with
                    | none => rw [h25] at hm; cases hm
                    | some q26 =>
                      obtain ⟨r27, S28⟩ := q26
                      rw [h25] at hm
                      dsimp only at hm
                      have a_S28 : Agr wX11_cheap_130 S S28 := Agr.tr a_S22 (Agr.sub (frX11_placeOf_130 x S22 p1 _ _ h25) (by decide))
                      obtain ⟨o29, hm⟩ := oblk hm
                      exact Agr.tr a_S28 (fbX11_cheap_130_59 x  S28 (S28.2.1 147 r27.toNatClampNeg) _ _ hm)
                  · rw [if_neg c24] at hm
                    exact Agr.tr a_S22 (fbX11_cheap_130_59 x  S22 (-1) _ _ hm)
          · rw [if_neg c10] at hm
            exact Agr.tr a_S9 (fbX11_cheap_130_16 x  S9 _ _ hm)
theorem frX11_cheap_130 (x : XT) (S : ST) (p1 : Int32) (p2 : Int32) (p3 : Int32) (r : Int32) (S' : ST) (hm : gfX11_cheap_130 x S p1 p2 p3 = some (r, S')) : Agr wX11_cheap_130 S S' := fbX11_cheap_130_0 x S p1 p2 p3 r S' hm
def wX11_compare_130 : List (Nat × Nat) × List Nat × List Nat × List Nat := ([(130, 22), (130, 23), (130, 24), (130, 25)], [132, 142, 145, 146, 147], [], [])
set_option maxHeartbeats 4000000 in
set_option maxRecDepth 20000 in
theorem fbX11_compare_130_0 (x : XT)  (S : ST) (p1 : Int32) (p2 : Int32) (p3 : Int32) (p4 : Int32) (r : Int32) (S' : ST) (hm : bfX11_compare_130_0 x  S p1 p2 p3 p4 = some (r, S')) : Agr wX11_compare_130 S S' := by
    unfold bfX11_compare_130_0 at hm
    cases h1 : gfX11_isLaw_130 x S p1 with
    | none => rw [h1] at hm; cases hm
    | some q2 =>
      obtain ⟨r3, S4⟩ := q2
      rw [h1] at hm
      dsimp only at hm
      have a_S4 : Agr wX11_compare_130 S S4 := Agr.tr Agr.rf (Agr.sub (frX11_isLaw_130 x S p1 _ _ h1) (by decide))
      by_cases c5 : ¬ r3 = 0
      · rw [if_pos c5] at hm
        cases h6 : gfX11_way_130 x (S4.1, (u2 S4.2.1 132 95 p1), S4.2.2.1, S4.2.2.2) p2 p3 p4 (-1) with
        | none => rw [h6] at hm; cases hm
        | some q7 =>
          obtain ⟨r8, S9⟩ := q7
          rw [h6] at hm
          dsimp only at hm
          have a_S9 : Agr wX11_compare_130 S S9 := Agr.tr (Agr.i a_S4 132 95 p1 (by decide)) (Agr.sub (frX11_way_130 x (S4.1, (u2 S4.2.1 132 95 p1), S4.2.2.1, S4.2.2.2) p2 p3 p4 (-1) _ _ h6) (by decide))
          cases hm
          exact (Agr.i a_S9 132 95 (S4.2.1 132 95) (by decide))
      · rw [if_neg c5] at hm
        cases hm
        exact a_S4
theorem frX11_compare_130 (x : XT) (S : ST) (p1 : Int32) (p2 : Int32) (p3 : Int32) (p4 : Int32) (r : Int32) (S' : ST) (hm : gfX11_compare_130 x S p1 p2 p3 p4 = some (r, S')) : Agr wX11_compare_130 S S' := fbX11_compare_130_0 x S p1 p2 p3 p4 r S' hm
def wX11_laysGone_130 : List (Nat × Nat) × List Nat × List Nat × List Nat := ([], [148, 149], [], [])
set_option maxHeartbeats 4000000 in
set_option maxRecDepth 20000 in
theorem fbX11_laysGone_130_142 (x : XT) (k43 : ST → Int32 → Int32 → Int32 → Option (Unit × ST)) (ak43 : ∀ (S : ST) (v2 : Int32) (v3 : Int32) (v4 : Int32) (r : Unit) (S' : ST), k43 S v2 v3 v4 = some (r, S') → Agr wX11_laysGone_130 S S') (k52 : ST → Int32 → Int32 → Int32 → Int32 → Option (Unit × ST)) (ak52 : ∀ (S : ST) (v2 : Int32) (v3 : Int32) (v4 : Int32) (v5 : Int32) (r : Unit) (S' : ST), k52 S v2 v3 v4 v5 = some (r, S') → Agr wX11_laysGone_130 S S') (S : ST) (v2 : Int32) (v3 : Int32) (v4 : Int32) (v5 : Int32) (r : Unit) (S' : ST) (hm : bfX11_laysGone_130_142 x k43 k52 S v2 v3 v4 v5 = some (r, S')) : Agr wX11_laysGone_130 S S' := by
    unfold bfX11_laysGone_130_142 at hm
    exact Agr.tr Agr.rf (ak52 S v2 v3 v4 (v5 + 1) _ _ hm)
set_option maxHeartbeats 4000000 in
set_option maxRecDepth 20000 in
theorem fbX11_laysGone_130_87 (x : XT) (k43 : ST → Int32 → Int32 → Int32 → Option (Unit × ST)) (ak43 : ∀ (S : ST) (v2 : Int32) (v3 : Int32) (v4 : Int32) (r : Unit) (S' : ST), k43 S v2 v3 v4 = some (r, S') → Agr wX11_laysGone_130 S S') (k52 : ST → Int32 → Int32 → Int32 → Int32 → Option (Unit × ST)) (ak52 : ∀ (S : ST) (v2 : Int32) (v3 : Int32) (v4 : Int32) (v5 : Int32) (r : Unit) (S' : ST), k52 S v2 v3 v4 v5 = some (r, S') → Agr wX11_laysGone_130 S S') (S : ST) (v2 : Int32) (v3 : Int32) (v4 : Int32) (v5 : Int32) (t0 : Int32) (r : Unit) (S' : ST) (hm : bfX11_laysGone_130_87 x k43 k52 S v2 v3 v4 v5 t0 = some (r, S')) : Agr wX11_laysGone_130 S S' := by
    unfold bfX11_laysGone_130_87 at hm
    by_cases c1 : t0 = (-1)
    · rw [if_pos c1] at hm
      exact Agr.tr Agr.rf (fbX11_laysGone_130_142 x k43 ak43 k52 ak52 S v2 v3 v4 v5 _ _ hm)
    · rw [if_neg c1] at hm
      obtain ⟨o2, hm⟩ := oblk hm
      by_cases c3 : 1000000 ≤ (S.2.1 148 t0.toNatClampNeg)
      · rw [if_pos c3] at hm
        obtain ⟨o4, hm⟩ := oblk hm
        obtain ⟨o5, hm⟩ := oblk hm
        obtain ⟨o6, hm⟩ := oblk hm
        obtain ⟨o7, hm⟩ := oblk hm
        exact Agr.tr (Agr.i (Agr.i Agr.rf 148 t0.toNatClampNeg ((S.2.1 148 ((S.2.1 149 v4.toNatClampNeg).toNatClampNeg)) + 1) (by decide)) 149 v3.toNatClampNeg t0 (by decide)) (fbX11_laysGone_130_142 x k43 ak43 k52 ak52 (S.1, (u2 (u2 S.2.1 148 t0.toNatClampNeg ((S.2.1 148 ((S.2.1 149 v4.toNatClampNeg).toNatClampNeg)) + 1)) 149 v3.toNatClampNeg t0), S.2.2.1, S.2.2.2) v2 (v3 + 1) v4 v5 _ _ hm)
      · rw [if_neg c3] at hm
        exact Agr.tr Agr.rf (fbX11_laysGone_130_142 x k43 ak43 k52 ak52 S v2 v3 v4 v5 _ _ hm)
set_option maxHeartbeats 4000000 in
set_option maxRecDepth 20000 in
theorem fbX11_laysGone_130_52 (x : XT) (k43 : ST → Int32 → Int32 → Int32 → Option (Unit × ST)) (ak43 : ∀ (S : ST) (v2 : Int32) (v3 : Int32) (v4 : Int32) (r : Unit) (S' : ST), k43 S v2 v3 v4 = some (r, S') → Agr wX11_laysGone_130 S S') (k52 : ST → Int32 → Int32 → Int32 → Int32 → Option (Unit × ST)) (ak52 : ∀ (S : ST) (v2 : Int32) (v3 : Int32) (v4 : Int32) (v5 : Int32) (r : Unit) (S' : ST), k52 S v2 v3 v4 v5 = some (r, S') → Agr wX11_laysGone_130 S S') (S : ST) (v2 : Int32) (v3 : Int32) (v4 : Int32) (v5 : Int32) (r : Unit) (S' : ST) (hm : bfX11_laysGone_130_52 x k43 k52 S v2 v3 v4 v5 = some (r, S')) : Agr wX11_laysGone_130 S S' := by
    unfold bfX11_laysGone_130_52 at hm
    cases h1 : gfX11_gateMany_130 x S with
    | none => rw [h1] at hm; cases hm
    | some q2 =>
      obtain ⟨r3, S4⟩ := q2
      rw [h1] at hm
      dsimp only at hm
      have a_S4 : Agr wX11_laysGone_130 S S4 := Agr.tr Agr.rf (Agr.sub (frX11_gateMany_130 x S _ _ h1) (by decide))
      by_cases c5 : r3 ≤ v5
      · rw [if_pos c5] at hm
        exact Agr.tr a_S4 (ak43 S4 v2 v3 (v4 + 1) _ _ hm)
      · rw [if_neg c5] at hm
        cases h6 : gfX11_isIn x S4 v2 v5 with
        | none => rw [h6] at hm; cases hm
        | some q7 =>
          obtain ⟨r8, S9⟩ := q7
          rw [h6] at hm
          dsimp only at hm
          have a_S9 : Agr wX11_laysGone_130 S S9 := Agr.tr a_S4 (Agr.sub (frX11_isIn x S4 v2 v5 _ _ h6) (by decide))
          by_cases c10 : r8 = 0
          · rw [if_pos c10] at hm
            obtain ⟨o11, hm⟩ := oblk hm
            cases h12 : gfX11_nextPlace_130 x S9 (S9.2.1 149 v4.toNatClampNeg) v5 with
            | none => rw [h12] at hm; cases hm
            | some q13 =>
              obtain ⟨r14, S15⟩ := q13
              rw [h12] at hm
              dsimp only at hm
              have a_S15 : Agr wX11_laysGone_130 S S15 := Agr.tr a_S9 (Agr.sub (frX11_nextPlace_130 x S9 (S9.2.1 149 v4.toNatClampNeg) v5 _ _ h12) (by decide))
              exact Agr.tr a_S15 (fbX11_laysGone_130_87 x k43 ak43 k52 ak52 S15 v2 v3 v4 v5 r14 _ _ hm)
          · rw [if_neg c10] at hm
            exact Agr.tr a_S9 (fbX11_laysGone_130_87 x k43 ak43 k52 ak52 S9 v2 v3 v4 v5 (-1) _ _ hm)
theorem flX11_laysGone_130_52 (x : XT) (k43 : ST → Int32 → Int32 → Int32 → Option (Unit × ST)) (ak43 : ∀ (S : ST) (v2 : Int32) (v3 : Int32) (v4 : Int32) (r : Unit) (S' : ST), k43 S v2 v3 v4 = some (r, S') → Agr wX11_laysGone_130 S S') : ∀ (n : Nat) (S : ST) (v2 : Int32) (v3 : Int32) (v4 : Int32) (v5 : Int32) (r : Unit) (S' : ST), lfX11_laysGone_130_52 x k43 n S v2 v3 v4 v5 = some (r, S') → Agr wX11_laysGone_130 S S'
  | 0, _, _, _, _, _, _, _, hm => by cases hm
  | n + 1, S, v2, v3, v4, v5, r, S', hm => fbX11_laysGone_130_52 x k43 ak43 (lfX11_laysGone_130_52 x k43 n) (flX11_laysGone_130_52 x k43 ak43 n) S v2 v3 v4 v5 r S' hm
set_option maxHeartbeats 4000000 in
set_option maxRecDepth 20000 in
theorem fbX11_laysGone_130_43 (x : XT) (k43 : ST → Int32 → Int32 → Int32 → Option (Unit × ST)) (ak43 : ∀ (S : ST) (v2 : Int32) (v3 : Int32) (v4 : Int32) (r : Unit) (S' : ST), k43 S v2 v3 v4 = some (r, S') → Agr wX11_laysGone_130 S S') (S : ST) (v2 : Int32) (v3 : Int32) (v4 : Int32) (r : Unit) (S' : ST) (hm : bfX11_laysGone_130_43 x k43 S v2 v3 v4 = some (r, S')) : Agr wX11_laysGone_130 S S' := by
    unfold bfX11_laysGone_130_43 at hm
    by_cases c1 : v3 ≤ v4
    · rw [if_pos c1] at hm
      cases hm
      exact Agr.rf
    · rw [if_neg c1] at hm
      exact Agr.tr Agr.rf (flX11_laysGone_130_52 x k43 ak43 20000 S v2 v3 v4 0 _ _ hm)
theorem flX11_laysGone_130_43 (x : XT)  : ∀ (n : Nat) (S : ST) (v2 : Int32) (v3 : Int32) (v4 : Int32) (r : Unit) (S' : ST), lfX11_laysGone_130_43 x  n S v2 v3 v4 = some (r, S') → Agr wX11_laysGone_130 S S'
  | 0, _, _, _, _, _, _, hm => by cases hm
  | n + 1, S, v2, v3, v4, r, S', hm => fbX11_laysGone_130_43 x (lfX11_laysGone_130_43 x  n) (flX11_laysGone_130_43 x  n) S v2 v3 v4 r S' hm
set_option maxHeartbeats 4000000 in
set_option maxRecDepth 20000 in
theorem fbX11_laysGone_130_24 (x : XT) (k2 : ST → Int32 → Int32 → Int32 → Option (Unit × ST)) (ak2 : ∀ (S : ST) (v1 : Int32) (v2 : Int32) (v3 : Int32) (r : Unit) (S' : ST), k2 S v1 v2 v3 = some (r, S') → Agr wX11_laysGone_130 S S') (S : ST) (v1 : Int32) (v2 : Int32) (v3 : Int32) (t1 : Int32) (t2 : Int32) (r : Unit) (S' : ST) (hm : bfX11_laysGone_130_24 x k2 S v1 v2 v3 t1 t2 = some (r, S')) : Agr wX11_laysGone_130 S S' := by
    unfold bfX11_laysGone_130_24 at hm
    obtain ⟨o1, hm⟩ := oblk hm
    exact Agr.tr (Agr.i Agr.rf 148 t1.toNatClampNeg t2 (by decide)) (ak2 (S.1, (u2 S.2.1 148 t1.toNatClampNeg t2), S.2.2.1, S.2.2.2) v1 v2 (v3 + 1) _ _ hm)
set_option maxHeartbeats 4000000 in
set_option maxRecDepth 20000 in
theorem fbX11_laysGone_130_2 (x : XT) (k2 : ST → Int32 → Int32 → Int32 → Option (Unit × ST)) (ak2 : ∀ (S : ST) (v1 : Int32) (v2 : Int32) (v3 : Int32) (r : Unit) (S' : ST), k2 S v1 v2 v3 = some (r, S') → Agr wX11_laysGone_130 S S') (S : ST) (v1 : Int32) (v2 : Int32) (v3 : Int32) (r : Unit) (S' : ST) (hm : bfX11_laysGone_130_2 x k2 S v1 v2 v3 = some (r, S')) : Agr wX11_laysGone_130 S S' := by
    unfold bfX11_laysGone_130_2 at hm
    by_cases c1 : 120 ≤ v3
    · rw [if_pos c1] at hm
      exact Agr.tr (Agr.i Agr.rf 149 0 v1 (by decide)) (flX11_laysGone_130_43 x  20000 (S.1, (u2 S.2.1 149 0 v1), S.2.2.1, S.2.2.2) v2 1 0 _ _ hm)
    · rw [if_neg c1] at hm
      by_cases c2 : ¬ v3 = v1
      · rw [if_pos c2] at hm
        exact Agr.tr Agr.rf (fbX11_laysGone_130_24 x k2 ak2 S v1 v2 v3 v3 1000000 _ _ hm)
      · rw [if_neg c2] at hm
        exact Agr.tr Agr.rf (fbX11_laysGone_130_24 x k2 ak2 S v1 v2 v3 v3 0 _ _ hm)
theorem flX11_laysGone_130_2 (x : XT)  : ∀ (n : Nat) (S : ST) (v1 : Int32) (v2 : Int32) (v3 : Int32) (r : Unit) (S' : ST), lfX11_laysGone_130_2 x  n S v1 v2 v3 = some (r, S') → Agr wX11_laysGone_130 S S'
  | 0, _, _, _, _, _, _, hm => by cases hm
  | n + 1, S, v1, v2, v3, r, S', hm => fbX11_laysGone_130_2 x (lfX11_laysGone_130_2 x  n) (flX11_laysGone_130_2 x  n) S v1 v2 v3 r S' hm
set_option maxHeartbeats 4000000 in
set_option maxRecDepth 20000 in
theorem fbX11_laysGone_130_0 (x : XT)  (S : ST) (p1 : Int32) (p2 : Int32) (r : Unit) (S' : ST) (hm : bfX11_laysGone_130_0 x  S p1 p2 = some (r, S')) : Agr wX11_laysGone_130 S S' := by
    unfold bfX11_laysGone_130_0 at hm
    exact Agr.tr Agr.rf (flX11_laysGone_130_2 x  20000 S p1 p2 0 _ _ hm)
theorem frX11_laysGone_130 (x : XT) (S : ST) (p1 : Int32) (p2 : Int32) (r : Unit) (S' : ST) (hm : gfX11_laysGone_130 x S p1 p2 = some (r, S')) : Agr wX11_laysGone_130 S S' := fbX11_laysGone_130_0 x S p1 p2 r S' hm
def wX11_comesTo_130 : List (Nat × Nat) × List Nat × List Nat × List Nat := ([], [], [], [])
set_option maxHeartbeats 4000000 in
set_option maxRecDepth 20000 in
theorem fbX11_comesTo_130_35 (x : XT) (k4 : ST → Int32 → Int32 → Int32 → Option (Int32 × ST)) (ak4 : ∀ (S : ST) (v1 : Int32) (v2 : Int32) (v3 : Int32) (r : Int32) (S' : ST), k4 S v1 v2 v3 = some (r, S') → Agr wX11_comesTo_130 S S') (S : ST) (v1 : Int32) (v3 : Int32) (t0 : Int32) (r : Int32) (S' : ST) (hm : bfX11_comesTo_130_35 x k4 S v1 v3 t0 = some (r, S')) : Agr wX11_comesTo_130 S S' := by
    unfold bfX11_comesTo_130_35 at hm
    exact Agr.tr Agr.rf (ak4 S v1 t0 (v3 + 1) _ _ hm)
set_option maxHeartbeats 4000000 in
set_option maxRecDepth 20000 in
theorem fbX11_comesTo_130_30 (x : XT) (k4 : ST → Int32 → Int32 → Int32 → Option (Int32 × ST)) (ak4 : ∀ (S : ST) (v1 : Int32) (v2 : Int32) (v3 : Int32) (r : Int32) (S' : ST), k4 S v1 v2 v3 = some (r, S') → Agr wX11_comesTo_130 S S') (S : ST) (v1 : Int32) (v3 : Int32) (r : Int32) (S' : ST) (hm : bfX11_comesTo_130_30 x k4 S v1 v3 = some (r, S')) : Agr wX11_comesTo_130 S S' := by
    unfold bfX11_comesTo_130_30 at hm
    exact Agr.tr Agr.rf (fbX11_comesTo_130_35 x k4 ak4 S v1 v3 1 _ _ hm)
set_option maxHeartbeats 4000000 in
set_option maxRecDepth 20000 in
theorem fbX11_comesTo_130_4 (x : XT) (k4 : ST → Int32 → Int32 → Int32 → Option (Int32 × ST)) (ak4 : ∀ (S : ST) (v1 : Int32) (v2 : Int32) (v3 : Int32) (r : Int32) (S' : ST), k4 S v1 v2 v3 = some (r, S') → Agr wX11_comesTo_130 S S') (S : ST) (v1 : Int32) (v2 : Int32) (v3 : Int32) (r : Int32) (S' : ST) (hm : bfX11_comesTo_130_4 x k4 S v1 v2 v3 = some (r, S')) : Agr wX11_comesTo_130 S S' := by
    unfold bfX11_comesTo_130_4 at hm
    by_cases c1 : 20 ≤ v3
    · rw [if_pos c1] at hm
      obtain ⟨o2, hm⟩ := oblk hm
      cases hm
      exact Agr.rf
    · rw [if_neg c1] at hm
      by_cases c3 : ¬ v2 = 0
      · rw [if_pos c3] at hm
        exact Agr.tr Agr.rf (fbX11_comesTo_130_30 x k4 ak4 S v1 v3 _ _ hm)
      · rw [if_neg c3] at hm
        obtain ⟨o4, hm⟩ := oblk hm
        by_cases c5 : 1000000 ≤ (S.2.1 148 (((20 * v1) + v3).toNatClampNeg))
        · rw [if_pos c5] at hm
          exact Agr.tr Agr.rf (fbX11_comesTo_130_35 x k4 ak4 S v1 v3 0 _ _ hm)
        · rw [if_neg c5] at hm
          exact Agr.tr Agr.rf (fbX11_comesTo_130_30 x k4 ak4 S v1 v3 _ _ hm)
theorem flX11_comesTo_130_4 (x : XT)  : ∀ (n : Nat) (S : ST) (v1 : Int32) (v2 : Int32) (v3 : Int32) (r : Int32) (S' : ST), lfX11_comesTo_130_4 x  n S v1 v2 v3 = some (r, S') → Agr wX11_comesTo_130 S S'
  | 0, _, _, _, _, _, _, hm => by cases hm
  | n + 1, S, v1, v2, v3, r, S', hm => fbX11_comesTo_130_4 x (lfX11_comesTo_130_4 x  n) (flX11_comesTo_130_4 x  n) S v1 v2 v3 r S' hm
set_option maxHeartbeats 4000000 in
set_option maxRecDepth 20000 in
theorem fbX11_comesTo_130_0 (x : XT)  (S : ST) (p1 : Int32) (r : Int32) (S' : ST) (hm : bfX11_comesTo_130_0 x  S p1 = some (r, S')) : Agr wX11_comesTo_130 S S' := by
    unfold bfX11_comesTo_130_0 at hm
    exact Agr.tr Agr.rf (flX11_comesTo_130_4 x  20000 S p1 0 0 _ _ hm)
theorem frX11_comesTo_130 (x : XT) (S : ST) (p1 : Int32) (r : Int32) (S' : ST) (hm : gfX11_comesTo_130 x S p1 = some (r, S')) : Agr wX11_comesTo_130 S S' := fbX11_comesTo_130_0 x S p1 r S' hm
def wX11_manys_130 : List (Nat × Nat) × List Nat × List Nat × List Nat := ([(130, 22), (130, 23), (130, 24), (130, 25)], [142, 145, 146, 148, 149], [], [])
set_option maxHeartbeats 4000000 in
set_option maxRecDepth 20000 in
theorem fbX11_manys_130_15 (x : XT)  (S : ST)  (r : Int32) (S' : ST) (hm : bfX11_manys_130_15 x  S  = some (r, S')) : Agr wX11_manys_130 S S' := by
    unfold bfX11_manys_130_15 at hm
    cases hm
    exact Agr.rf
set_option maxHeartbeats 4000000 in
set_option maxRecDepth 20000 in
theorem fbX11_manys_130_70 (x : XT) (k37 : ST → Int32 → Int32 → Int32 → Option (Int32 × ST)) (ak37 : ∀ (S : ST) (v2 : Int32) (v3 : Int32) (v4 : Int32) (r : Int32) (S' : ST), k37 S v2 v3 v4 = some (r, S') → Agr wX11_manys_130 S S') (S : ST) (v2 : Int32) (v4 : Int32) (t0 : Int32) (t1 : Int32) (r : Int32) (S' : ST) (hm : bfX11_manys_130_70 x k37 S v2 v4 t0 t1 = some (r, S')) : Agr wX11_manys_130 S S' := by
    unfold bfX11_manys_130_70 at hm
    exact Agr.tr Agr.rf (ak37 S v2 (t0 ||| t1) (v4 + 1) _ _ hm)
set_option maxHeartbeats 4000000 in
set_option maxRecDepth 20000 in
theorem fbX11_manys_130_37 (x : XT) (k37 : ST → Int32 → Int32 → Int32 → Option (Int32 × ST)) (ak37 : ∀ (S : ST) (v2 : Int32) (v3 : Int32) (v4 : Int32) (r : Int32) (S' : ST), k37 S v2 v3 v4 = some (r, S') → Agr wX11_manys_130 S S') (S : ST) (v2 : Int32) (v3 : Int32) (v4 : Int32) (r : Int32) (S' : ST) (hm : bfX11_manys_130_37 x k37 S v2 v3 v4 = some (r, S')) : Agr wX11_manys_130 S S' := by
    unfold bfX11_manys_130_37 at hm
    by_cases c1 : 20 ≤ v4
    · rw [if_pos c1] at hm
      cases hm
      exact Agr.rf
    · rw [if_neg c1] at hm
      obtain ⟨o2, hm⟩ := oblk hm
      by_cases c3 : 1000000 ≤ (S.2.1 148 (((20 * v2) + v4).toNatClampNeg))
      · rw [if_pos c3] at hm
        exact Agr.tr Agr.rf (fbX11_manys_130_70 x k37 ak37 S v2 v4 v3 0 _ _ hm)
      · rw [if_neg c3] at hm
        exact Agr.tr Agr.rf (fbX11_manys_130_70 x k37 ak37 S v2 v4 v3 (1 <<< (v4 &&& 31)) _ _ hm)
theorem flX11_manys_130_37 (x : XT)  : ∀ (n : Nat) (S : ST) (v2 : Int32) (v3 : Int32) (v4 : Int32) (r : Int32) (S' : ST), lfX11_manys_130_37 x  n S v2 v3 v4 = some (r, S') → Agr wX11_manys_130 S S'
  | 0, _, _, _, _, _, _, hm => by cases hm
  | n + 1, S, v2, v3, v4, r, S', hm => fbX11_manys_130_37 x (lfX11_manys_130_37 x  n) (flX11_manys_130_37 x  n) S v2 v3 v4 r S' hm
set_option maxHeartbeats 4000000 in
set_option maxRecDepth 20000 in
theorem fbX11_manys_130_0 (x : XT)  (S : ST) (p1 : Int32) (p2 : Int32) (r : Int32) (S' : ST) (hm : bfX11_manys_130_0 x  S p1 p2 = some (r, S')) : Agr wX11_manys_130 S S' := by
    unfold bfX11_manys_130_0 at hm
    cases h1 : gfX11_isGoer_130 x S p1 with
    | none => rw [h1] at hm; cases hm
    | some q2 =>
      obtain ⟨r3, S4⟩ := q2
      rw [h1] at hm
      dsimp only at hm
      have a_S4 : Agr wX11_manys_130 S S4 := Agr.tr Agr.rf (Agr.sub (frX11_isGoer_130 x S p1 _ _ h1) (by decide))
      by_cases c5 : r3 = 0
      · rw [if_pos c5] at hm
        exact Agr.tr a_S4 (fbX11_manys_130_15 x  S4 _ _ hm)
      · rw [if_neg c5] at hm
        cases h6 : gfX11_isPark x S4 p2 with
        | none => rw [h6] at hm; cases hm
        | some q7 =>
          obtain ⟨r8, S9⟩ := q7
          rw [h6] at hm
          dsimp only at hm
          have a_S9 : Agr wX11_manys_130 S S9 := Agr.tr a_S4 (Agr.sub (frX11_isPark x S4 p2 _ _ h6) (by decide))
          by_cases c10 : ¬ r8 = 0
          · rw [if_pos c10] at hm
            cases h11 : gfX11_laysOut_130 x S9 p1 with
            | none => rw [h11] at hm; cases hm
            | some q12 =>
              obtain ⟨r13, S14⟩ := q12
              rw [h11] at hm
              dsimp only at hm
              have a_S14 : Agr wX11_manys_130 S S14 := Agr.tr a_S9 (Agr.sub (frX11_laysOut_130 x S9 p1 _ _ h11) (by decide))
              cases h15 : gfX11_placeOf_130 x S14 p1 with
              | none => rw [h15] at hm; cases hm
              | some q16 =>
                obtain ⟨r17, S18⟩ := q16
                rw [h15] at hm
                dsimp only at hm
                have a_S18 : Agr wX11_manys_130 S S18 := Agr.tr a_S14 (Agr.sub (frX11_placeOf_130 x S14 p1 _ _ h15) (by decide))
                cases h19 : gfX11_laysGone_130 x S18 r17 0 with
                | none => rw [h19] at hm; cases hm
                | some q20 =>
                  obtain ⟨r21, S22⟩ := q20
                  rw [h19] at hm
                  dsimp only at hm
                  have a_S22 : Agr wX11_manys_130 S S22 := Agr.tr a_S18 (Agr.sub (frX11_laysGone_130 x S18 r17 0 _ _ h19) (by decide))
                  exact Agr.tr a_S22 (flX11_manys_130_37 x  20000 S22 p2 0 0 _ _ hm)
          · rw [if_neg c10] at hm
            exact Agr.tr a_S9 (fbX11_manys_130_15 x  S9 _ _ hm)
theorem frX11_manys_130 (x : XT) (S : ST) (p1 : Int32) (p2 : Int32) (r : Int32) (S' : ST) (hm : gfX11_manys_130 x S p1 p2 = some (r, S')) : Agr wX11_manys_130 S S' := fbX11_manys_130_0 x S p1 p2 r S' hm
def wX11_reach_130 : List (Nat × Nat) × List Nat × List Nat × List Nat := ([(130, 22), (130, 23), (130, 24), (130, 25)], [142, 145, 146, 148, 149], [], [])
set_option maxHeartbeats 4000000 in
set_option maxRecDepth 20000 in
theorem fbX11_reach_130_51 (x : XT) (k29 : ST → Int32 → Int32 → Option (Int32 × ST)) (ak29 : ∀ (S : ST) (v2 : Int32) (v3 : Int32) (r : Int32) (S' : ST), k29 S v2 v3 = some (r, S') → Agr wX11_reach_130 S S') (S : ST) (v3 : Int32) (t0 : Int32) (t1 : Int32) (r : Int32) (S' : ST) (hm : bfX11_reach_130_51 x k29 S v3 t0 t1 = some (r, S')) : Agr wX11_reach_130 S S' := by
    unfold bfX11_reach_130_51 at hm
    exact Agr.tr Agr.rf (ak29 S (t0 ||| t1) (v3 + 1) _ _ hm)
set_option maxHeartbeats 4000000 in
set_option maxRecDepth 20000 in
theorem fbX11_reach_130_29 (x : XT) (k29 : ST → Int32 → Int32 → Option (Int32 × ST)) (ak29 : ∀ (S : ST) (v2 : Int32) (v3 : Int32) (r : Int32) (S' : ST), k29 S v2 v3 = some (r, S') → Agr wX11_reach_130 S S') (S : ST) (v2 : Int32) (v3 : Int32) (r : Int32) (S' : ST) (hm : bfX11_reach_130_29 x k29 S v2 v3 = some (r, S')) : Agr wX11_reach_130 S S' := by
    unfold bfX11_reach_130_29 at hm
    by_cases c1 : 6 ≤ v3
    · rw [if_pos c1] at hm
      cases hm
      exact Agr.rf
    · rw [if_neg c1] at hm
      cases h2 : gfX11_comesTo_130 x S v3 with
      | none => rw [h2] at hm; cases hm
      | some q3 =>
        obtain ⟨r4, S5⟩ := q3
        rw [h2] at hm
        dsimp only at hm
        have a_S5 : Agr wX11_reach_130 S S5 := Agr.tr Agr.rf (Agr.sub (frX11_comesTo_130 x S v3 _ _ h2) (by decide))
        by_cases c6 : r4 = 0
        · rw [if_pos c6] at hm
          exact Agr.tr a_S5 (fbX11_reach_130_51 x k29 ak29 S5 v3 v2 0 _ _ hm)
        · rw [if_neg c6] at hm
          exact Agr.tr a_S5 (fbX11_reach_130_51 x k29 ak29 S5 v3 v2 (1 <<< (v3 &&& 31)) _ _ hm)
theorem flX11_reach_130_29 (x : XT)  : ∀ (n : Nat) (S : ST) (v2 : Int32) (v3 : Int32) (r : Int32) (S' : ST), lfX11_reach_130_29 x  n S v2 v3 = some (r, S') → Agr wX11_reach_130 S S'
  | 0, _, _, _, _, _, hm => by cases hm
  | n + 1, S, v2, v3, r, S', hm => fbX11_reach_130_29 x (lfX11_reach_130_29 x  n) (flX11_reach_130_29 x  n) S v2 v3 r S' hm
set_option maxHeartbeats 4000000 in
set_option maxRecDepth 20000 in
theorem fbX11_reach_130_0 (x : XT)  (S : ST) (p1 : Int32) (r : Int32) (S' : ST) (hm : bfX11_reach_130_0 x  S p1 = some (r, S')) : Agr wX11_reach_130 S S' := by
    unfold bfX11_reach_130_0 at hm
    cases h1 : gfX11_isGoer_130 x S p1 with
    | none => rw [h1] at hm; cases hm
    | some q2 =>
      obtain ⟨r3, S4⟩ := q2
      rw [h1] at hm
      dsimp only at hm
      have a_S4 : Agr wX11_reach_130 S S4 := Agr.tr Agr.rf (Agr.sub (frX11_isGoer_130 x S p1 _ _ h1) (by decide))
      by_cases c5 : ¬ r3 = 0
      · rw [if_pos c5] at hm
        cases h6 : gfX11_laysOut_130 x S4 p1 with
        | none => rw [h6] at hm; cases hm
        | some q7 =>
          obtain ⟨r8, S9⟩ := q7
          rw [h6] at hm
          dsimp only at hm
          have a_S9 : Agr wX11_reach_130 S S9 := Agr.tr a_S4 (Agr.sub (frX11_laysOut_130 x S4 p1 _ _ h6) (by decide))
          cases h10 : gfX11_placeOf_130 x S9 p1 with
          | none => rw [h10] at hm; cases hm
          | some q11 =>
            obtain ⟨r12, S13⟩ := q11
            rw [h10] at hm
            dsimp only at hm
            have a_S13 : Agr wX11_reach_130 S S13 := Agr.tr a_S9 (Agr.sub (frX11_placeOf_130 x S9 p1 _ _ h10) (by decide))
            cases h14 : gfX11_laysGone_130 x S13 r12 0 with
            | none => rw [h14] at hm; cases hm
            | some q15 =>
              obtain ⟨r16, S17⟩ := q15
              rw [h14] at hm
              dsimp only at hm
              have a_S17 : Agr wX11_reach_130 S S17 := Agr.tr a_S13 (Agr.sub (frX11_laysGone_130 x S13 r12 0 _ _ h14) (by decide))
              exact Agr.tr a_S17 (flX11_reach_130_29 x  20000 S17 0 0 _ _ hm)
      · rw [if_neg c5] at hm
        cases hm
        exact a_S4
theorem frX11_reach_130 (x : XT) (S : ST) (p1 : Int32) (r : Int32) (S' : ST) (hm : gfX11_reach_130 x S p1 = some (r, S')) : Agr wX11_reach_130 S S' := fbX11_reach_130_0 x S p1 r S' hm
end FRA
