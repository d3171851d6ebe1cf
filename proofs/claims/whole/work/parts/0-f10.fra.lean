section FRA
def wX11_turnsNow_130 : List (Nat × Nat) × List Nat × List Nat × List Nat := ([(130, 22), (130, 23), (130, 24), (130, 25)], [], [], [])
set_option maxHeartbeats 4000000 in
set_option maxRecDepth 20000 in
theorem fbX11_turnsNow_130_0 (x : XT)  (S : ST)  (r : Int32) (S' : ST) (hm : bfX11_turnsNow_130_0 x  S  = some (r, S')) : Agr wX11_turnsNow_130 S S' := by
    unfold bfX11_turnsNow_130_0 at hm
    cases h1 : gfX11_greater x S 0 ((S.2.1 142 6) - 1) with
    | none => rw [h1] at hm; cases hm
    | some q2 =>
      obtain ⟨r3, S4⟩ := q2
      rw [h1] at hm
      dsimp only at hm
      have a_S4 : Agr wX11_turnsNow_130 S S4 := Agr.tr Agr.rf (Agr.sub (frX11_greater x S 0 ((S.2.1 142 6) - 1) _ _ h1) (by decide))
      cases h5 : gfX11_tells_130 x S4 1 19 r3 with
      | none => rw [h5] at hm; cases hm
      | some q6 =>
        obtain ⟨r7, S8⟩ := q6
        rw [h5] at hm
        dsimp only at hm
        have a_S8 : Agr wX11_turnsNow_130 S S8 := Agr.tr a_S4 (Agr.sub (frX11_tells_130 x S4 1 19 r3 _ _ h5) (by decide))
        cases hm
        exact a_S8
theorem frX11_turnsNow_130 (x : XT) (S : ST)  (r : Int32) (S' : ST) (hm : gfX11_turnsNow_130 x S  = some (r, S')) : Agr wX11_turnsNow_130 S S' := fbX11_turnsNow_130_0 x S  r S' hm
def wX11_paysNow_130 : List (Nat × Nat) × List Nat × List Nat × List Nat := ([(130, 22), (130, 23), (130, 24), (130, 25)], [], [], [])
set_option maxHeartbeats 4000000 in
set_option maxRecDepth 20000 in
theorem fbX11_paysNow_130_0 (x : XT)  (S : ST)  (r : Int32) (S' : ST) (hm : bfX11_paysNow_130_0 x  S  = some (r, S')) : Agr wX11_paysNow_130 S S' := by
    unfold bfX11_paysNow_130_0 at hm
    cases h1 : gfX11_tells_130 x S 2 9 1 with
    | none => rw [h1] at hm; cases hm
    | some q2 =>
      obtain ⟨r3, S4⟩ := q2
      rw [h1] at hm
      dsimp only at hm
      have a_S4 : Agr wX11_paysNow_130 S S4 := Agr.tr Agr.rf (Agr.sub (frX11_tells_130 x S 2 9 1 _ _ h1) (by decide))
      cases hm
      exact a_S4
theorem frX11_paysNow_130 (x : XT) (S : ST)  (r : Int32) (S' : ST) (hm : gfX11_paysNow_130 x S  = some (r, S')) : Agr wX11_paysNow_130 S S' := fbX11_paysNow_130_0 x S  r S' hm
def wX11_asks_130 : List (Nat × Nat) × List Nat × List Nat × List Nat := ([(130, 22), (130, 23), (130, 24), (130, 25)], [142], [], [])
set_option maxHeartbeats 4000000 in
set_option maxRecDepth 20000 in
theorem fbX11_asks_130_23 (x : XT)  (S : ST)  (r : Int32) (S' : ST) (hm : bfX11_asks_130_23 x  S  = some (r, S')) : Agr wX11_asks_130 S S' := by
    unfold bfX11_asks_130_23 at hm
    cases hm
    exact Agr.rf
set_option maxHeartbeats 4000000 in
set_option maxRecDepth 20000 in
theorem fbX11_asks_130_82 (x : XT)  (S : ST) (t0 : Int32) (r : Int32) (S' : ST) (hm : bfX11_asks_130_82 x  S t0 = some (r, S')) : Agr wX11_asks_130 S S' := by
    unfold bfX11_asks_130_82 at hm
    cases hm
    exact Agr.rf
set_option maxHeartbeats 4000000 in
set_option maxRecDepth 20000 in
theorem fbX11_asks_130_0 (x : XT)  (S : ST) (p1 : Int32) (p2 : Int32) (p3 : Int32) (p4 : Int32) (r : Int32) (S' : ST) (hm : bfX11_asks_130_0 x  S p1 p2 p3 p4 = some (r, S')) : Agr wX11_asks_130 S S' := by
    unfold bfX11_asks_130_0 at hm
    cases h1 : gfX11_isGoer_130 x S p1 with
    | none => rw [h1] at hm; cases hm
    | some q2 =>
      obtain ⟨r3, S4⟩ := q2
      rw [h1] at hm
      dsimp only at hm
      have a_S4 : Agr wX11_asks_130 S S4 := Agr.tr Agr.rf (Agr.sub (frX11_isGoer_130 x S p1 _ _ h1) (by decide))
      by_cases c5 : r3 = 0
      · rw [if_pos c5] at hm
        exact Agr.tr a_S4 (fbX11_asks_130_23 x  S4 _ _ hm)
      · rw [if_neg c5] at hm
        cases h6 : gfX11_isGate_130 x S4 p2 with
        | none => rw [h6] at hm; cases hm
        | some q7 =>
          obtain ⟨r8, S9⟩ := q7
          rw [h6] at hm
          dsimp only at hm
          have a_S9 : Agr wX11_asks_130 S S9 := Agr.tr a_S4 (Agr.sub (frX11_isGate_130 x S4 p2 _ _ h6) (by decide))
          by_cases c10 : r8 = 0
          · rw [if_pos c10] at hm
            exact Agr.tr a_S9 (fbX11_asks_130_23 x  S9 _ _ hm)
          · rw [if_neg c10] at hm
            cases h11 : gfX11_isMany x S9 p3 with
            | none => rw [h11] at hm; cases hm
            | some q12 =>
              obtain ⟨r13, S14⟩ := q12
              rw [h11] at hm
              dsimp only at hm
              have a_S14 : Agr wX11_asks_130 S S14 := Agr.tr a_S9 (Agr.sub (frX11_isMany x S9 p3 _ _ h11) (by decide))
              by_cases c15 : ¬ r13 = 0
              · rw [if_pos c15] at hm
                cases h16 : gfX11_setsGate_130 x S14 p1 p2 p3 with
                | none => rw [h16] at hm; cases hm
                | some q17 =>
                  obtain ⟨r18, S19⟩ := q17
                  rw [h16] at hm
                  dsimp only at hm
                  have a_S19 : Agr wX11_asks_130 S S19 := Agr.tr a_S14 (Agr.sub (frX11_setsGate_130 x S14 p1 p2 p3 _ _ h16) (by decide))
                  by_cases c20 : p4 = 0
                  · rw [if_pos c20] at hm
                    cases h21 : gfX11_turnsNow_130 x S19 with
                    | none => rw [h21] at hm; cases hm
                    | some q22 =>
                      obtain ⟨r23, S24⟩ := q22
                      rw [h21] at hm
                      dsimp only at hm
                      have a_S24 : Agr wX11_asks_130 S S24 := Agr.tr a_S19 (Agr.sub (frX11_turnsNow_130 x S19 _ _ h21) (by decide))
                      cases hm
                      exact a_S24
                  rw [if_neg c20] at hm
                  by_cases c25 : p4 = 1
                  · rw [if_pos c25] at hm
                    cases h26 : gfX11_paysNow_130 x S19 with
                    | none => rw [h26] at hm; cases hm
                    | some q27 =>
                      obtain ⟨r28, S29⟩ := q27
                      rw [h26] at hm
                      dsimp only at hm
                      have a_S29 : Agr wX11_asks_130 S S29 := Agr.tr a_S19 (Agr.sub (frX11_paysNow_130 x S19 _ _ h26) (by decide))
                      cases hm
                      exact a_S29
                  rw [if_neg c25] at hm
                  by_cases c30 : p4 = 2
                  · rw [if_pos c30] at hm
                    cases h31 : gfX11_isBarredNow_130 x S19 with
                    | none => rw [h31] at hm; cases hm
                    | some q32 =>
                      obtain ⟨r33, S34⟩ := q32
                      rw [h31] at hm
                      dsimp only at hm
                      have a_S34 : Agr wX11_asks_130 S S34 := Agr.tr a_S19 (Agr.sub (frX11_isBarredNow_130 x S19 _ _ h31) (by decide))
                      by_cases c35 : r33 = 0
                      · rw [if_pos c35] at hm
                        exact Agr.tr a_S34 (fbX11_asks_130_82 x  S34 0 _ _ hm)
                      · rw [if_neg c35] at hm
                        exact Agr.tr a_S34 (fbX11_asks_130_82 x  S34 1 _ _ hm)
                  rw [if_neg c30] at hm
                  cases hm
                  exact a_S19
              · rw [if_neg c15] at hm
                exact Agr.tr a_S14 (fbX11_asks_130_23 x  S14 _ _ hm)
theorem frX11_asks_130 (x : XT) (S : ST) (p1 : Int32) (p2 : Int32) (p3 : Int32) (p4 : Int32) (r : Int32) (S' : ST) (hm : gfX11_asks_130 x S p1 p2 p3 p4 = some (r, S')) : Agr wX11_asks_130 S S' := fbX11_asks_130_0 x S p1 p2 p3 p4 r S' hm
def wX11_isTerm : List (Nat × Nat) × List Nat × List Nat × List Nat := ([], [], [], [])
set_option maxHeartbeats 4000000 in
set_option maxRecDepth 20000 in
theorem fbX11_isTerm_0 (x : XT)  (S : ST) (p0 : Int32) (p1 : Int32) (r : Int32) (S' : ST) (hm : bfX11_isTerm_0 x  S p0 p1 = some (r, S')) : Agr wX11_isTerm S S' := by
    unfold bfX11_isTerm_0 at hm
    by_cases c1 : p0 = 0
    · rw [if_pos c1] at hm
      cases h2 : gfX11_lies x S p1 0 999 with
      | none => rw [h2] at hm; cases hm
      | some q3 =>
        obtain ⟨r4, S5⟩ := q3
        rw [h2] at hm
        dsimp only at hm
        have a_S5 : Agr wX11_isTerm S S5 := Agr.tr Agr.rf (Agr.sub (frX11_lies x S p1 0 999 _ _ h2) (by decide))
        obtain ⟨o6, hm⟩ := oblk hm
        cases hm
        exact a_S5
    rw [if_neg c1] at hm
    by_cases c7 : p0 = 1
    · rw [if_pos c7] at hm
      cases h8 : gfX11_lies x S p1 0 10 with
      | none => rw [h8] at hm; cases hm
      | some q9 =>
        obtain ⟨r10, S11⟩ := q9
        rw [h8] at hm
        dsimp only at hm
        have a_S11 : Agr wX11_isTerm S S11 := Agr.tr Agr.rf (Agr.sub (frX11_lies x S p1 0 10 _ _ h8) (by decide))
        obtain ⟨o12, hm⟩ := oblk hm
        cases hm
        exact a_S11
    rw [if_neg c7] at hm
    by_cases c13 : p0 = 2
    · rw [if_pos c13] at hm
      cases h14 : gfX11_lies x S p1 0 9 with
      | none => rw [h14] at hm; cases hm
      | some q15 =>
        obtain ⟨r16, S17⟩ := q15
        rw [h14] at hm
        dsimp only at hm
        have a_S17 : Agr wX11_isTerm S S17 := Agr.tr Agr.rf (Agr.sub (frX11_lies x S p1 0 9 _ _ h14) (by decide))
        obtain ⟨o18, hm⟩ := oblk hm
        cases hm
        exact a_S17
    rw [if_neg c13] at hm
    cases hm
    exact Agr.rf
theorem frX11_isTerm (x : XT) (S : ST) (p0 : Int32) (p1 : Int32) (r : Int32) (S' : ST) (hm : gfX11_isTerm x S p0 p1 = some (r, S')) : Agr wX11_isTerm S S' := fbX11_isTerm_0 x S p0 p1 r S' hm
def wX11_termAt : List (Nat × Nat) × List Nat × List Nat × List Nat := ([], [], [], [])
set_option maxHeartbeats 4000000 in
set_option maxRecDepth 20000 in
theorem fbX11_termAt_21 (x : XT)  (S : ST) (t0 : Int32) (r : Int32) (S' : ST) (hm : bfX11_termAt_21 x  S t0 = some (r, S')) : Agr wX11_termAt S S' := by
    unfold bfX11_termAt_21 at hm
    cases hm
    exact Agr.rf
set_option maxHeartbeats 4000000 in
set_option maxRecDepth 20000 in
theorem fbX11_termAt_0 (x : XT)  (S : ST) (p0 : Int32) (r : Int32) (S' : ST) (hm : bfX11_termAt_0 x  S p0 = some (r, S')) : Agr wX11_termAt S S' := by
    unfold bfX11_termAt_0 at hm
    by_cases c1 : ¬ p0 = 0
    · rw [if_pos c1] at hm
      by_cases c2 : ¬ p0 = 1
      · rw [if_pos c2] at hm
        exact Agr.tr Agr.rf (fbX11_termAt_21 x  S 90 _ _ hm)
      · rw [if_neg c2] at hm
        exact Agr.tr Agr.rf (fbX11_termAt_21 x  S 89 _ _ hm)
    · rw [if_neg c1] at hm
      exact Agr.tr Agr.rf (fbX11_termAt_21 x  S 35 _ _ hm)
theorem frX11_termAt (x : XT) (S : ST) (p0 : Int32) (r : Int32) (S' : ST) (hm : gfX11_termAt x S p0 = some (r, S')) : Agr wX11_termAt S S' := fbX11_termAt_0 x S p0 r S' hm
def wX11_terms_130 : List (Nat × Nat) × List Nat × List Nat × List Nat := ([(130, 0), (130, 31)], [131, 132], [], [])
set_option maxHeartbeats 4000000 in
set_option maxRecDepth 20000 in
theorem fbX11_terms_130_0 (x : XT)  (S : ST) (p1 : Int32) (p2 : Int32) (r : Int32) (S' : ST) (hm : bfX11_terms_130_0 x  S p1 p2 = some (r, S')) : Agr wX11_terms_130 S S' := by
    unfold bfX11_terms_130_0 at hm
    cases h1 : gfX11_isTerm x S p1 p2 with
    | none => rw [h1] at hm; cases hm
    | some q2 =>
      obtain ⟨r3, S4⟩ := q2
      rw [h1] at hm
      dsimp only at hm
      have a_S4 : Agr wX11_terms_130 S S4 := Agr.tr Agr.rf (Agr.sub (frX11_isTerm x S p1 p2 _ _ h1) (by decide))
      by_cases c5 : ¬ r3 = 0
      · rw [if_pos c5] at hm
        cases h6 : gfX11_termAt x S4 p1 with
        | none => rw [h6] at hm; cases hm
        | some q7 =>
          obtain ⟨r8, S9⟩ := q7
          rw [h6] at hm
          dsimp only at hm
          have a_S9 : Agr wX11_terms_130 S S9 := Agr.tr a_S4 (Agr.sub (frX11_termAt x S4 p1 _ _ h6) (by decide))
          obtain ⟨o10, hm⟩ := oblk hm
          cases h11 : gfX11_termAt x S9 p1 with
          | none => rw [h11] at hm; cases hm
          | some q12 =>
            obtain ⟨r13, S14⟩ := q12
            rw [h11] at hm
            dsimp only at hm
            have a_S14 : Agr wX11_terms_130 S S14 := Agr.tr a_S9 (Agr.sub (frX11_termAt x S9 p1 _ _ h11) (by decide))
            obtain ⟨o15, hm⟩ := oblk hm
            cases h16 : gfX11_settled_130 x (S14.1, (u2 S14.2.1 132 r13.toNatClampNeg p2), S14.2.2.1, S14.2.2.2) (S9.2.1 132 r8.toNatClampNeg) with
            | none => rw [h16] at hm; cases hm
            | some q17 =>
              obtain ⟨r18, S19⟩ := q17
              rw [h16] at hm
              dsimp only at hm
              have a_S19 : Agr wX11_terms_130 S S19 := Agr.tr (Agr.i a_S14 132 r13.toNatClampNeg p2 (by decide)) (Agr.sub (frX11_settled_130 x (S14.1, (u2 S14.2.1 132 r13.toNatClampNeg p2), S14.2.2.1, S14.2.2.2) (S9.2.1 132 r8.toNatClampNeg) _ _ h16) (by decide))
              cases hm
              exact a_S19
      · rw [if_neg c5] at hm
        cases h20 : gfX11_refuses_130 x S4 (-1) with
        | none => rw [h20] at hm; cases hm
        | some q21 =>
          obtain ⟨r22, S23⟩ := q21
          rw [h20] at hm
          dsimp only at hm
          have a_S23 : Agr wX11_terms_130 S S23 := Agr.tr a_S4 (Agr.sub (frX11_refuses_130 x S4 (-1) _ _ h20) (by decide))
          cases hm
          exact a_S23
theorem frX11_terms_130 (x : XT) (S : ST) (p1 : Int32) (p2 : Int32) (r : Int32) (S' : ST) (hm : gfX11_terms_130 x S p1 p2 = some (r, S')) : Agr wX11_terms_130 S S' := fbX11_terms_130_0 x S p1 p2 r S' hm
def wX11_row_130 : List (Nat × Nat) × List Nat × List Nat × List Nat := ([(130, 0), (130, 6), (130, 13), (130, 31)], [131, 132], [], [])
set_option maxHeartbeats 4000000 in
set_option maxRecDepth 20000 in
theorem fbX11_row_130_166 (x : XT) (k40 : ST → Int32 → Int32 → Int32 → Option (Int32 × ST)) (ak40 : ∀ (S : ST) (v1 : Int32) (v2 : Int32) (v3 : Int32) (r : Int32) (S' : ST), k40 S v1 v2 v3 = some (r, S') → Agr wX11_row_130 S S') (S : ST) (v1 : Int32) (v2 : Int32) (v3 : Int32) (t1 : Int32) (t2 : Int32) (r : Int32) (S' : ST) (hm : bfX11_row_130_166 x k40 S v1 v2 v3 t1 t2 = some (r, S')) : Agr wX11_row_130 S S' := by
    unfold bfX11_row_130_166 at hm
    exact Agr.tr (Agr.f Agr.rf 130 6 (t1 + t2) (by decide)) (ak40 ((u2 S.1 130 6 (t1 + t2)), S.2.1, S.2.2.1, S.2.2.2) v1 v2 (v3 + 4) _ _ hm)
set_option maxHeartbeats 4000000 in
set_option maxRecDepth 20000 in
theorem fbX11_row_130_149 (x : XT) (k40 : ST → Int32 → Int32 → Int32 → Option (Int32 × ST)) (ak40 : ∀ (S : ST) (v1 : Int32) (v2 : Int32) (v3 : Int32) (r : Int32) (S' : ST), k40 S v1 v2 v3 = some (r, S') → Agr wX11_row_130 S S') (S : ST) (v1 : Int32) (v3 : Int32) (v4 : Int32) (t0 : Int32) (t1 : Int32) (r : Int32) (S' : ST) (hm : bfX11_row_130_149 x k40 S v1 v3 v4 t0 t1 = some (r, S')) : Agr wX11_row_130 S S' := by
    unfold bfX11_row_130_149 at hm
    by_cases c1 : v4 = 0
    · rw [if_pos c1] at hm
      exact Agr.tr Agr.rf (fbX11_row_130_166 x k40 ak40 S v1 (t0 + t1) v3 (S.1 130 6) 1 _ _ hm)
    · rw [if_neg c1] at hm
      exact Agr.tr Agr.rf (fbX11_row_130_166 x k40 ak40 S v1 (t0 + t1) v3 (S.1 130 6) 0 _ _ hm)
set_option maxHeartbeats 4000000 in
set_option maxRecDepth 20000 in
theorem fbX11_row_130_138 (x : XT) (k40 : ST → Int32 → Int32 → Int32 → Option (Int32 × ST)) (ak40 : ∀ (S : ST) (v1 : Int32) (v2 : Int32) (v3 : Int32) (r : Int32) (S' : ST), k40 S v1 v2 v3 = some (r, S') → Agr wX11_row_130 S S') (S : ST) (v1 : Int32) (v2 : Int32) (v3 : Int32) (v4 : Int32) (r : Int32) (S' : ST) (hm : bfX11_row_130_138 x k40 S v1 v2 v3 v4 = some (r, S')) : Agr wX11_row_130 S S' := by
    unfold bfX11_row_130_138 at hm
    by_cases c1 : v4 = 0
    · rw [if_pos c1] at hm
      exact Agr.tr Agr.rf (fbX11_row_130_149 x k40 ak40 S v1 v3 v4 v2 0 _ _ hm)
    · rw [if_neg c1] at hm
      exact Agr.tr Agr.rf (fbX11_row_130_149 x k40 ak40 S v1 v3 v4 v2 1 _ _ hm)
set_option maxHeartbeats 4000000 in
set_option maxRecDepth 20000 in
theorem fbX11_row_130_97 (x : XT) (k40 : ST → Int32 → Int32 → Int32 → Option (Int32 × ST)) (ak40 : ∀ (S : ST) (v1 : Int32) (v2 : Int32) (v3 : Int32) (r : Int32) (S' : ST), k40 S v1 v2 v3 = some (r, S') → Agr wX11_row_130 S S') (S : ST) (v1 : Int32) (v2 : Int32) (v3 : Int32) (t0 : Int32) (r : Int32) (S' : ST) (hm : bfX11_row_130_97 x k40 S v1 v2 v3 t0 = some (r, S')) : Agr wX11_row_130 S S' := by
    unfold bfX11_row_130_97 at hm
    by_cases c1 : t0 = 0
    · rw [if_pos c1] at hm
      exact Agr.tr Agr.rf (fbX11_row_130_138 x k40 ak40 S v1 v2 v3 t0 _ _ hm)
    · rw [if_neg c1] at hm
      obtain ⟨o2, hm⟩ := oblk hm
      obtain ⟨o3, hm⟩ := oblk hm
      obtain ⟨o4, hm⟩ := oblk hm
      obtain ⟨o5, hm⟩ := oblk hm
      cases h6 : gfX11_adds_130 x S (S.2.1 137 v3.toNatClampNeg) (S.2.1 137 ((v3 + 1).toNatClampNeg)) (S.2.1 137 ((v3 + 2).toNatClampNeg)) (S.2.1 137 ((v3 + 3).toNatClampNeg)) with
      | none => rw [h6] at hm; cases hm
      | some q7 =>
        obtain ⟨r8, S9⟩ := q7
        rw [h6] at hm
        dsimp only at hm
        have a_S9 : Agr wX11_row_130 S S9 := Agr.tr Agr.rf (Agr.sub (frX11_adds_130 x S (S.2.1 137 v3.toNatClampNeg) (S.2.1 137 ((v3 + 1).toNatClampNeg)) (S.2.1 137 ((v3 + 2).toNatClampNeg)) (S.2.1 137 ((v3 + 3).toNatClampNeg)) _ _ h6) (by decide))
        exact Agr.tr a_S9 (fbX11_row_130_138 x k40 ak40 S9 v1 v2 v3 t0 _ _ hm)
set_option maxHeartbeats 4000000 in
set_option maxRecDepth 20000 in
theorem fbX11_row_130_96 (x : XT) (k40 : ST → Int32 → Int32 → Int32 → Option (Int32 × ST)) (ak40 : ∀ (S : ST) (v1 : Int32) (v2 : Int32) (v3 : Int32) (r : Int32) (S' : ST), k40 S v1 v2 v3 = some (r, S') → Agr wX11_row_130 S S') (S : ST) (v1 : Int32) (v2 : Int32) (v3 : Int32) (r : Int32) (S' : ST) (hm : bfX11_row_130_96 x k40 S v1 v2 v3 = some (r, S')) : Agr wX11_row_130 S S' := by
    unfold bfX11_row_130_96 at hm
    exact Agr.tr Agr.rf (fbX11_row_130_97 x k40 ak40 S v1 v2 v3 0 _ _ hm)
set_option maxHeartbeats 4000000 in
set_option maxRecDepth 20000 in
theorem fbX11_row_130_40 (x : XT) (k40 : ST → Int32 → Int32 → Int32 → Option (Int32 × ST)) (ak40 : ∀ (S : ST) (v1 : Int32) (v2 : Int32) (v3 : Int32) (r : Int32) (S' : ST), k40 S v1 v2 v3 = some (r, S') → Agr wX11_row_130 S S') (S : ST) (v1 : Int32) (v2 : Int32) (v3 : Int32) (r : Int32) (S' : ST) (hm : bfX11_row_130_40 x k40 S v1 v2 v3 = some (r, S')) : Agr wX11_row_130 S S' := by
    unfold bfX11_row_130_40 at hm
    by_cases c1 : v1 < (v3 + 4)
    · rw [if_pos c1] at hm
      cases h2 : gfX11_settled_130 x S v2 with
      | none => rw [h2] at hm; cases hm
      | some q3 =>
        obtain ⟨r4, S5⟩ := q3
        rw [h2] at hm
        dsimp only at hm
        have a_S5 : Agr wX11_row_130 S S5 := Agr.tr Agr.rf (Agr.sub (frX11_settled_130 x S v2 _ _ h2) (by decide))
        cases hm
        exact a_S5
    · rw [if_neg c1] at hm
      cases h6 : gfX11_gateMany_130 x S with
      | none => rw [h6] at hm; cases hm
      | some q7 =>
        obtain ⟨r8, S9⟩ := q7
        rw [h6] at hm
        dsimp only at hm
        have a_S9 : Agr wX11_row_130 S S9 := Agr.tr Agr.rf (Agr.sub (frX11_gateMany_130 x S _ _ h6) (by decide))
        by_cases c10 : 10 ≤ r8
        · rw [if_pos c10] at hm
          exact Agr.tr a_S9 (fbX11_row_130_96 x k40 ak40 S9 v1 v2 v3 _ _ hm)
        · rw [if_neg c10] at hm
          obtain ⟨o11, hm⟩ := oblk hm
          obtain ⟨o12, hm⟩ := oblk hm
          obtain ⟨o13, hm⟩ := oblk hm
          obtain ⟨o14, hm⟩ := oblk hm
          cases h15 : gfX11_canGate x S9 (S9.2.1 137 v3.toNatClampNeg) (S9.2.1 137 ((v3 + 1).toNatClampNeg)) (S9.2.1 137 ((v3 + 2).toNatClampNeg)) (S9.2.1 137 ((v3 + 3).toNatClampNeg)) with
          | none => rw [h15] at hm; cases hm
          | some q16 =>
            obtain ⟨r17, S18⟩ := q16
            rw [h15] at hm
            dsimp only at hm
            have a_S18 : Agr wX11_row_130 S S18 := Agr.tr a_S9 (Agr.sub (frX11_canGate x S9 (S9.2.1 137 v3.toNatClampNeg) (S9.2.1 137 ((v3 + 1).toNatClampNeg)) (S9.2.1 137 ((v3 + 2).toNatClampNeg)) (S9.2.1 137 ((v3 + 3).toNatClampNeg)) _ _ h15) (by decide))
            by_cases c19 : r17 = 0
            · rw [if_pos c19] at hm
              exact Agr.tr a_S18 (fbX11_row_130_96 x k40 ak40 S18 v1 v2 v3 _ _ hm)
            · rw [if_neg c19] at hm
              exact Agr.tr a_S18 (fbX11_row_130_97 x k40 ak40 S18 v1 v2 v3 1 _ _ hm)
theorem flX11_row_130_40 (x : XT)  : ∀ (n : Nat) (S : ST) (v1 : Int32) (v2 : Int32) (v3 : Int32) (r : Int32) (S' : ST), lfX11_row_130_40 x  n S v1 v2 v3 = some (r, S') → Agr wX11_row_130 S S'
  | 0, _, _, _, _, _, _, hm => by cases hm
  | n + 1, S, v1, v2, v3, r, S', hm => fbX11_row_130_40 x (lfX11_row_130_40 x  n) (flX11_row_130_40 x  n) S v1 v2 v3 r S' hm
set_option maxHeartbeats 4000000 in
set_option maxRecDepth 20000 in
theorem fbX11_row_130_35 (x : XT)  (S : ST) (v1 : Int32) (v2 : Int32) (t1 : Int32) (r : Int32) (S' : ST) (hm : bfX11_row_130_35 x  S v1 v2 t1 = some (r, S')) : Agr wX11_row_130 S S' := by
    unfold bfX11_row_130_35 at hm
    exact Agr.tr (Agr.f Agr.rf 130 6 t1 (by decide)) (flX11_row_130_40 x  20000 ((u2 S.1 130 6 t1), S.2.1, S.2.2.1, S.2.2.2) v1 v2 0 _ _ hm)
set_option maxHeartbeats 4000000 in
set_option maxRecDepth 20000 in
theorem fbX11_row_130_0 (x : XT)  (S : ST)  (r : Int32) (S' : ST) (hm : bfX11_row_130_0 x  S  = some (r, S')) : Agr wX11_row_130 S S' := by
    unfold bfX11_row_130_0 at hm
    by_cases c1 : ¬ (S.1 130 13) = 0
    · rw [if_pos c1] at hm
      by_cases c2 : ¬ ((S.1 130 13) - (S.1 130 13) / 4 * 4) = 0
      · rw [if_pos c2] at hm
        exact Agr.tr (Agr.f Agr.rf 130 13 0 (by decide)) (fbX11_row_130_35 x  ((u2 S.1 130 13 0), S.2.1, S.2.2.1, S.2.2.2) (S.1 130 13) 0 1 _ _ hm)
      · rw [if_neg c2] at hm
        exact Agr.tr (Agr.f Agr.rf 130 13 0 (by decide)) (fbX11_row_130_35 x  ((u2 S.1 130 13 0), S.2.1, S.2.2.1, S.2.2.2) (S.1 130 13) 0 0 _ _ hm)
    · rw [if_neg c1] at hm
      cases h3 : gfX11_refuses_130 x ((u2 S.1 130 13 0), S.2.1, S.2.2.1, S.2.2.2) (-6) with
      | none => rw [h3] at hm; cases hm
      | some q4 =>
        obtain ⟨r5, S6⟩ := q4
        rw [h3] at hm
        dsimp only at hm
        have a_S6 : Agr wX11_row_130 S S6 := Agr.tr (Agr.f Agr.rf 130 13 0 (by decide)) (Agr.sub (frX11_refuses_130 x ((u2 S.1 130 13 0), S.2.1, S.2.2.1, S.2.2.2) (-6) _ _ h3) (by decide))
        cases hm
        exact a_S6
theorem frX11_row_130 (x : XT) (S : ST)  (r : Int32) (S' : ST) (hm : gfX11_row_130 x S  = some (r, S')) : Agr wX11_row_130 S S' := fbX11_row_130_0 x S  r S' hm
def wX11_rust_130 : List (Nat × Nat) × List Nat × List Nat × List Nat := ([], [], [], [])
set_option maxHeartbeats 4000000 in
set_option maxRecDepth 20000 in
theorem fbX11_rust_130_0 (x : XT)  (S : ST)  (r : Int32) (S' : ST) (hm : bfX11_rust_130_0 x  S  = some (r, S')) : Agr wX11_rust_130 S S' := by
    unfold bfX11_rust_130_0 at hm
    cases hm
    exact Agr.rf
theorem frX11_rust_130 (x : XT) (S : ST)  (r : Int32) (S' : ST) (hm : gfX11_rust_130 x S  = some (r, S')) : Agr wX11_rust_130 S S' := fbX11_rust_130_0 x S  r S' hm
def wX11_feed_130 : List (Nat × Nat) × List Nat × List Nat × List Nat := ([(130, 13)], [137, 138], [], [])
set_option maxHeartbeats 4000000 in
set_option maxRecDepth 20000 in
theorem fbX11_feed_130_55 (x : XT) (k55 : ST → Int32 → Option (Int32 × ST)) (ak55 : ∀ (S : ST) (v6 : Int32) (r : Int32) (S' : ST), k55 S v6 = some (r, S') → Agr wX11_feed_130 S S') (S : ST) (v6 : Int32) (r : Int32) (S' : ST) (hm : bfX11_feed_130_55 x k55 S v6 = some (r, S')) : Agr wX11_feed_130 S S' := by
    unfold bfX11_feed_130_55 at hm
    by_cases c1 : 20 ≤ v6
    · rw [if_pos c1] at hm
      cases hm
      exact (Agr.f Agr.rf 130 13 ((S.1 130 13) + 20) (by decide))
    · rw [if_neg c1] at hm
      obtain ⟨o2, hm⟩ := oblk hm
      obtain ⟨o3, hm⟩ := oblk hm
      exact Agr.tr (Agr.i Agr.rf 137 (((S.1 130 13) + v6).toNatClampNeg) ((((S.2.1 138 ((v6 / 4).toNatClampNeg)) >>> ((24 - (8 * (v6 - v6 / 4 * 4))) &&& 31)).toInt8.toInt32).toInt8.toInt32) (by decide)) (ak55 (S.1, (u2 S.2.1 137 (((S.1 130 13) + v6).toNatClampNeg) ((((S.2.1 138 ((v6 / 4).toNatClampNeg)) >>> ((24 - (8 * (v6 - v6 / 4 * 4))) &&& 31)).toInt8.toInt32).toInt8.toInt32)), S.2.2.1, S.2.2.2) (v6 + 1) _ _ hm)
theorem flX11_feed_130_55 (x : XT)  : ∀ (n : Nat) (S : ST) (v6 : Int32) (r : Int32) (S' : ST), lfX11_feed_130_55 x  n S v6 = some (r, S') → Agr wX11_feed_130 S S'
  | 0, _, _, _, _, hm => by cases hm
  | n + 1, S, v6, r, S', hm => fbX11_feed_130_55 x (lfX11_feed_130_55 x  n) (flX11_feed_130_55 x  n) S v6 r S' hm
set_option maxHeartbeats 4000000 in
set_option maxRecDepth 20000 in
theorem fbX11_feed_130_0 (x : XT)  (S : ST) (p1 : Int32) (p2 : Int32) (p3 : Int32) (p4 : Int32) (p5 : Int32) (r : Int32) (S' : ST) (hm : bfX11_feed_130_0 x  S p1 p2 p3 p4 p5 = some (r, S')) : Agr wX11_feed_130 S S' := by
    unfold bfX11_feed_130_0 at hm
    by_cases c1 : ((S.1 130 13) + 20) ≤ 400
    · rw [if_pos c1] at hm
      exact Agr.tr (Agr.i (Agr.i (Agr.i (Agr.i (Agr.i Agr.rf 138 0 p1 (by decide)) 138 1 p2 (by decide)) 138 2 p3 (by decide)) 138 3 p4 (by decide)) 138 4 p5 (by decide)) (flX11_feed_130_55 x  20000 (S.1, (u2 (u2 (u2 (u2 (u2 S.2.1 138 0 p1) 138 1 p2) 138 2 p3) 138 3 p4) 138 4 p5), S.2.2.1, S.2.2.2) 0 _ _ hm)
    · rw [if_neg c1] at hm
      cases hm
      exact Agr.rf
theorem frX11_feed_130 (x : XT) (S : ST) (p1 : Int32) (p2 : Int32) (p3 : Int32) (p4 : Int32) (p5 : Int32) (r : Int32) (S' : ST) (hm : gfX11_feed_130 x S p1 p2 p3 p4 p5 = some (r, S')) : Agr wX11_feed_130 S S' := fbX11_feed_130_0 x S p1 p2 p3 p4 p5 r S' hm
def wX11_end_130 : List (Nat × Nat) × List Nat × List Nat × List Nat := ([(130, 13)], [], [], [])
set_option maxHeartbeats 4000000 in
set_option maxRecDepth 20000 in
theorem fbX11_end_130_0 (x : XT)  (S : ST) (p1 : Int32) (r : Int32) (S' : ST) (hm : bfX11_end_130_0 x  S p1 = some (r, S')) : Agr wX11_end_130 S S' := by
    unfold bfX11_end_130_0 at hm
    cases h1 : gfX11_lies x S p1 0 (S.1 130 13) with
    | none => rw [h1] at hm; cases hm
    | some q2 =>
      obtain ⟨r3, S4⟩ := q2
      rw [h1] at hm
      dsimp only at hm
      have a_S4 : Agr wX11_end_130 S S4 := Agr.tr Agr.rf (Agr.sub (frX11_lies x S p1 0 (S.1 130 13) _ _ h1) (by decide))
      by_cases c5 : ¬ r3 = 0
      · rw [if_pos c5] at hm
        cases hm
        exact (Agr.f a_S4 130 13 p1 (by decide))
      · rw [if_neg c5] at hm
        cases hm
        exact a_S4
theorem frX11_end_130 (x : XT) (S : ST) (p1 : Int32) (r : Int32) (S' : ST) (hm : gfX11_end_130 x S p1 = some (r, S')) : Agr wX11_end_130 S S' := fbX11_end_130_0 x S p1 r S' hm
def wX11_isSmall : List (Nat × Nat) × List Nat × List Nat × List Nat := ([], [], [], [])
set_option maxHeartbeats 4000000 in
set_option maxRecDepth 20000 in
theorem fbX11_isSmall_17 (x : XT)  (S : ST) (t0 : Int32) (r : Int32) (S' : ST) (hm : bfX11_isSmall_17 x  S t0 = some (r, S')) : Agr wX11_isSmall S S' := by
    unfold bfX11_isSmall_17 at hm
    obtain ⟨o1, hm⟩ := oblk hm
    cases hm
    exact Agr.rf
set_option maxHeartbeats 4000000 in
set_option maxRecDepth 20000 in
theorem fbX11_isSmall_16 (x : XT)  (S : ST)  (r : Int32) (S' : ST) (hm : bfX11_isSmall_16 x  S  = some (r, S')) : Agr wX11_isSmall S S' := by
    unfold bfX11_isSmall_16 at hm
    exact Agr.tr Agr.rf (fbX11_isSmall_17 x  S 0 _ _ hm)
set_option maxHeartbeats 4000000 in
set_option maxRecDepth 20000 in
theorem fbX11_isSmall_0 (x : XT)  (S : ST) (p0 : Int32) (r : Int32) (S' : ST) (hm : bfX11_isSmall_0 x  S p0 = some (r, S')) : Agr wX11_isSmall S S' := by
    unfold bfX11_isSmall_0 at hm
    by_cases c1 : p0 < 97
    · rw [if_pos c1] at hm
      exact Agr.tr Agr.rf (fbX11_isSmall_16 x  S _ _ hm)
    · rw [if_neg c1] at hm
      by_cases c2 : 122 < p0
      · rw [if_pos c2] at hm
        exact Agr.tr Agr.rf (fbX11_isSmall_16 x  S _ _ hm)
      · rw [if_neg c2] at hm
        exact Agr.tr Agr.rf (fbX11_isSmall_17 x  S 1 _ _ hm)
theorem frX11_isSmall (x : XT) (S : ST) (p0 : Int32) (r : Int32) (S' : ST) (hm : gfX11_isSmall x S p0 = some (r, S')) : Agr wX11_isSmall S S' := fbX11_isSmall_0 x S p0 r S' hm
def wX11_isDigit : List (Nat × Nat) × List Nat × List Nat × List Nat := ([], [], [], [])
set_option maxHeartbeats 4000000 in
set_option maxRecDepth 20000 in
theorem fbX11_isDigit_17 (x : XT)  (S : ST) (t0 : Int32) (r : Int32) (S' : ST) (hm : bfX11_isDigit_17 x  S t0 = some (r, S')) : Agr wX11_isDigit S S' := by
    unfold bfX11_isDigit_17 at hm
    obtain ⟨o1, hm⟩ := oblk hm
    cases hm
    exact Agr.rf
set_option maxHeartbeats 4000000 in
set_option maxRecDepth 20000 in
theorem fbX11_isDigit_16 (x : XT)  (S : ST)  (r : Int32) (S' : ST) (hm : bfX11_isDigit_16 x  S  = some (r, S')) : Agr wX11_isDigit S S' := by
    unfold bfX11_isDigit_16 at hm
    exact Agr.tr Agr.rf (fbX11_isDigit_17 x  S 0 _ _ hm)
set_option maxHeartbeats 4000000 in
set_option maxRecDepth 20000 in
theorem fbX11_isDigit_0 (x : XT)  (S : ST) (p0 : Int32) (r : Int32) (S' : ST) (hm : bfX11_isDigit_0 x  S p0 = some (r, S')) : Agr wX11_isDigit S S' := by
    unfold bfX11_isDigit_0 at hm
    by_cases c1 : p0 < 48
    · rw [if_pos c1] at hm
      exact Agr.tr Agr.rf (fbX11_isDigit_16 x  S _ _ hm)
    · rw [if_neg c1] at hm
      by_cases c2 : 57 < p0
      · rw [if_pos c2] at hm
        exact Agr.tr Agr.rf (fbX11_isDigit_16 x  S _ _ hm)
      · rw [if_neg c2] at hm
        exact Agr.tr Agr.rf (fbX11_isDigit_17 x  S 1 _ _ hm)
theorem frX11_isDigit (x : XT) (S : ST) (p0 : Int32) (r : Int32) (S' : ST) (hm : gfX11_isDigit x S p0 = some (r, S')) : Agr wX11_isDigit S S' := fbX11_isDigit_0 x S p0 r S' hm
def wX11_wordOf_130 : List (Nat × Nat) × List Nat × List Nat × List Nat := ([], [], [], [])
set_option maxHeartbeats 4000000 in
set_option maxRecDepth 20000 in
theorem fbX11_wordOf_130_104 (x : XT) (k5 : ST → Int32 → Int32 → Int32 → Int32 → Option (Int32 × ST)) (ak5 : ∀ (S : ST) (v1 : Int32) (v2 : Int32) (v3 : Int32) (v4 : Int32) (r : Int32) (S' : ST), k5 S v1 v2 v3 v4 = some (r, S') → Agr wX11_wordOf_130 S S') (S : ST) (v1 : Int32) (v2 : Int32) (v3 : Int32) (v4 : Int32) (v5 : Int32) (v6 : Int32) (r : Int32) (S' : ST) (hm : bfX11_wordOf_130_104 x k5 S v1 v2 v3 v4 v5 v6 = some (r, S')) : Agr wX11_wordOf_130 S S' := by
    unfold bfX11_wordOf_130_104 at hm
    by_cases c1 : v6 = 0
    · rw [if_pos c1] at hm
      exact Agr.tr Agr.rf (ak5 S v1 v2 (v3 + 1) (v4 + (v5 + 1)) _ _ hm)
    · rw [if_neg c1] at hm
      cases hm
      exact Agr.rf
set_option maxHeartbeats 4000000 in
set_option maxRecDepth 20000 in
theorem fbX11_wordOf_130_96 (x : XT) (k5 : ST → Int32 → Int32 → Int32 → Int32 → Option (Int32 × ST)) (ak5 : ∀ (S : ST) (v1 : Int32) (v2 : Int32) (v3 : Int32) (v4 : Int32) (r : Int32) (S' : ST), k5 S v1 v2 v3 v4 = some (r, S') → Agr wX11_wordOf_130 S S') (k57 : ST → Int32 → Int32 → Int32 → Int32 → Int32 → Int32 → Int32 → Option (Int32 × ST)) (ak57 : ∀ (S : ST) (v1 : Int32) (v2 : Int32) (v3 : Int32) (v4 : Int32) (v5 : Int32) (v6 : Int32) (v7 : Int32) (r : Int32) (S' : ST), k57 S v1 v2 v3 v4 v5 v6 v7 = some (r, S') → Agr wX11_wordOf_130 S S') (S : ST) (v1 : Int32) (v2 : Int32) (v3 : Int32) (v4 : Int32) (v5 : Int32) (v7 : Int32) (t0 : Int32) (r : Int32) (S' : ST) (hm : bfX11_wordOf_130_96 x k5 k57 S v1 v2 v3 v4 v5 v7 t0 = some (r, S')) : Agr wX11_wordOf_130 S S' := by
    unfold bfX11_wordOf_130_96 at hm
    exact Agr.tr Agr.rf (ak57 S v1 v2 v3 v4 v5 t0 (v7 + 1) _ _ hm)
set_option maxHeartbeats 4000000 in
set_option maxRecDepth 20000 in
theorem fbX11_wordOf_130_57 (x : XT) (k5 : ST → Int32 → Int32 → Int32 → Int32 → Option (Int32 × ST)) (ak5 : ∀ (S : ST) (v1 : Int32) (v2 : Int32) (v3 : Int32) (v4 : Int32) (r : Int32) (S' : ST), k5 S v1 v2 v3 v4 = some (r, S') → Agr wX11_wordOf_130 S S') (k57 : ST → Int32 → Int32 → Int32 → Int32 → Int32 → Int32 → Int32 → Option (Int32 × ST)) (ak57 : ∀ (S : ST) (v1 : Int32) (v2 : Int32) (v3 : Int32) (v4 : Int32) (v5 : Int32) (v6 : Int32) (v7 : Int32) (r : Int32) (S' : ST), k57 S v1 v2 v3 v4 v5 v6 v7 = some (r, S') → Agr wX11_wordOf_130 S S') (S : ST) (v1 : Int32) (v2 : Int32) (v3 : Int32) (v4 : Int32) (v5 : Int32) (v6 : Int32) (v7 : Int32) (r : Int32) (S' : ST) (hm : bfX11_wordOf_130_57 x k5 k57 S v1 v2 v3 v4 v5 v6 v7 = some (r, S')) : Agr wX11_wordOf_130 S S' := by
    unfold bfX11_wordOf_130_57 at hm
    by_cases c1 : v5 ≤ v7
    · rw [if_pos c1] at hm
      exact Agr.tr Agr.rf (fbX11_wordOf_130_104 x k5 ak5 S v1 v2 v3 v4 v5 v6 _ _ hm)
    · rw [if_neg c1] at hm
      by_cases c2 : v6 = 0
      · rw [if_pos c2] at hm
        exact Agr.tr Agr.rf (fbX11_wordOf_130_104 x k5 ak5 S v1 v2 v3 v4 v5 v6 _ _ hm)
      · rw [if_neg c2] at hm
        obtain ⟨o3, hm⟩ := oblk hm
        obtain ⟨o4, hm⟩ := oblk hm
        by_cases c5 : ¬ (S.2.1 136 ((v4 + v7).toNatClampNeg)) = (S.2.1 137 ((v1 + v7).toNatClampNeg))
        · rw [if_pos c5] at hm
          exact Agr.tr Agr.rf (fbX11_wordOf_130_96 x k5 ak5 k57 ak57 S v1 v2 v3 v4 v5 v7 0 _ _ hm)
        · rw [if_neg c5] at hm
          exact Agr.tr Agr.rf (fbX11_wordOf_130_96 x k5 ak5 k57 ak57 S v1 v2 v3 v4 v5 v7 1 _ _ hm)
theorem flX11_wordOf_130_57 (x : XT) (k5 : ST → Int32 → Int32 → Int32 → Int32 → Option (Int32 × ST)) (ak5 : ∀ (S : ST) (v1 : Int32) (v2 : Int32) (v3 : Int32) (v4 : Int32) (r : Int32) (S' : ST), k5 S v1 v2 v3 v4 = some (r, S') → Agr wX11_wordOf_130 S S') : ∀ (n : Nat) (S : ST) (v1 : Int32) (v2 : Int32) (v3 : Int32) (v4 : Int32) (v5 : Int32) (v6 : Int32) (v7 : Int32) (r : Int32) (S' : ST), lfX11_wordOf_130_57 x k5 n S v1 v2 v3 v4 v5 v6 v7 = some (r, S') → Agr wX11_wordOf_130 S S'
  | 0, _, _, _, _, _, _, _, _, _, _, hm => by cases hm
  | n + 1, S, v1, v2, v3, v4, v5, v6, v7, r, S', hm => fbX11_wordOf_130_57 x k5 ak5 (lfX11_wordOf_130_57 x k5 n) (flX11_wordOf_130_57 x k5 ak5 n) S v1 v2 v3 v4 v5 v6 v7 r S' hm
set_option maxHeartbeats 4000000 in
set_option maxRecDepth 20000 in
theorem fbX11_wordOf_130_52 (x : XT) (k5 : ST → Int32 → Int32 → Int32 → Int32 → Option (Int32 × ST)) (ak5 : ∀ (S : ST) (v1 : Int32) (v2 : Int32) (v3 : Int32) (v4 : Int32) (r : Int32) (S' : ST), k5 S v1 v2 v3 v4 = some (r, S') → Agr wX11_wordOf_130 S S') (S : ST) (v1 : Int32) (v2 : Int32) (v3 : Int32) (v4 : Int32) (v5 : Int32) (t0 : Int32) (r : Int32) (S' : ST) (hm : bfX11_wordOf_130_52 x k5 S v1 v2 v3 v4 v5 t0 = some (r, S')) : Agr wX11_wordOf_130 S S' := by
    unfold bfX11_wordOf_130_52 at hm
    exact Agr.tr Agr.rf (flX11_wordOf_130_57 x k5 ak5 20000 S v1 v2 v3 v4 v5 t0 0 _ _ hm)
set_option maxHeartbeats 4000000 in
set_option maxRecDepth 20000 in
theorem fbX11_wordOf_130_18 (x : XT) (k5 : ST → Int32 → Int32 → Int32 → Int32 → Option (Int32 × ST)) (ak5 : ∀ (S : ST) (v1 : Int32) (v2 : Int32) (v3 : Int32) (v4 : Int32) (r : Int32) (S' : ST), k5 S v1 v2 v3 v4 = some (r, S') → Agr wX11_wordOf_130 S S') (k18 : ST → Int32 → Int32 → Int32 → Int32 → Int32 → Option (Int32 × ST)) (ak18 : ∀ (S : ST) (v1 : Int32) (v2 : Int32) (v3 : Int32) (v4 : Int32) (v5 : Int32) (r : Int32) (S' : ST), k18 S v1 v2 v3 v4 v5 = some (r, S') → Agr wX11_wordOf_130 S S') (S : ST) (v1 : Int32) (v2 : Int32) (v3 : Int32) (v4 : Int32) (v5 : Int32) (r : Int32) (S' : ST) (hm : bfX11_wordOf_130_18 x k5 k18 S v1 v2 v3 v4 v5 = some (r, S')) : Agr wX11_wordOf_130 S S' := by
    unfold bfX11_wordOf_130_18 at hm
    obtain ⟨o1, hm⟩ := oblk hm
    by_cases c2 : (S.2.1 136 ((v4 + v5).toNatClampNeg)) = 32
    · rw [if_pos c2] at hm
      by_cases c3 : ¬ v5 = (v2 - v1)
      · rw [if_pos c3] at hm
        exact Agr.tr Agr.rf (fbX11_wordOf_130_52 x k5 ak5 S v1 v2 v3 v4 v5 0 _ _ hm)
      · rw [if_neg c3] at hm
        exact Agr.tr Agr.rf (fbX11_wordOf_130_52 x k5 ak5 S v1 v2 v3 v4 v5 1 _ _ hm)
    · rw [if_neg c2] at hm
      exact Agr.tr Agr.rf (ak18 S v1 v2 v3 v4 (v5 + 1) _ _ hm)
theorem flX11_wordOf_130_18 (x : XT) (k5 : ST → Int32 → Int32 → Int32 → Int32 → Option (Int32 × ST)) (ak5 : ∀ (S : ST) (v1 : Int32) (v2 : Int32) (v3 : Int32) (v4 : Int32) (r : Int32) (S' : ST), k5 S v1 v2 v3 v4 = some (r, S') → Agr wX11_wordOf_130 S S') : ∀ (n : Nat) (S : ST) (v1 : Int32) (v2 : Int32) (v3 : Int32) (v4 : Int32) (v5 : Int32) (r : Int32) (S' : ST), lfX11_wordOf_130_18 x k5 n S v1 v2 v3 v4 v5 = some (r, S') → Agr wX11_wordOf_130 S S'
  | 0, _, _, _, _, _, _, _, _, hm => by cases hm
  | n + 1, S, v1, v2, v3, v4, v5, r, S', hm => fbX11_wordOf_130_18 x k5 ak5 (lfX11_wordOf_130_18 x k5 n) (flX11_wordOf_130_18 x k5 ak5 n) S v1 v2 v3 v4 v5 r S' hm
set_option maxHeartbeats 4000000 in
set_option maxRecDepth 20000 in
theorem fbX11_wordOf_130_5 (x : XT) (k5 : ST → Int32 → Int32 → Int32 → Int32 → Option (Int32 × ST)) (ak5 : ∀ (S : ST) (v1 : Int32) (v2 : Int32) (v3 : Int32) (v4 : Int32) (r : Int32) (S' : ST), k5 S v1 v2 v3 v4 = some (r, S') → Agr wX11_wordOf_130 S S') (S : ST) (v1 : Int32) (v2 : Int32) (v3 : Int32) (v4 : Int32) (r : Int32) (S' : ST) (hm : bfX11_wordOf_130_5 x k5 S v1 v2 v3 v4 = some (r, S')) : Agr wX11_wordOf_130 S S' := by
    unfold bfX11_wordOf_130_5 at hm
    by_cases c1 : 122 ≤ v4
    · rw [if_pos c1] at hm
      cases hm
      exact Agr.rf
    · rw [if_neg c1] at hm
      exact Agr.tr Agr.rf (flX11_wordOf_130_18 x k5 ak5 20000 S v1 v2 v3 v4 0 _ _ hm)
theorem flX11_wordOf_130_5 (x : XT)  : ∀ (n : Nat) (S : ST) (v1 : Int32) (v2 : Int32) (v3 : Int32) (v4 : Int32) (r : Int32) (S' : ST), lfX11_wordOf_130_5 x  n S v1 v2 v3 v4 = some (r, S') → Agr wX11_wordOf_130 S S'
  | 0, _, _, _, _, _, _, _, hm => by cases hm
  | n + 1, S, v1, v2, v3, v4, r, S', hm => fbX11_wordOf_130_5 x (lfX11_wordOf_130_5 x  n) (flX11_wordOf_130_5 x  n) S v1 v2 v3 v4 r S' hm
set_option maxHeartbeats 4000000 in
set_option maxRecDepth 20000 in
theorem fbX11_wordOf_130_0 (x : XT)  (S : ST) (p1 : Int32) (p2 : Int32) (r : Int32) (S' : ST) (hm : bfX11_wordOf_130_0 x  S p1 p2 = some (r, S')) : Agr wX11_wordOf_130 S S' := by
    unfold bfX11_wordOf_130_0 at hm
    exact Agr.tr Agr.rf (flX11_wordOf_130_5 x  20000 S p1 p2 1 0 _ _ hm)
theorem frX11_wordOf_130 (x : XT) (S : ST) (p1 : Int32) (p2 : Int32) (r : Int32) (S' : ST) (hm : gfX11_wordOf_130 x S p1 p2 = some (r, S')) : Agr wX11_wordOf_130 S S' := fbX11_wordOf_130_0 x S p1 p2 r S' hm
def wX11_splits_130 : List (Nat × Nat) × List Nat × List Nat × List Nat := ([(130, 18)], [139, 140, 141], [], [])
set_option maxHeartbeats 4000000 in
set_option maxRecDepth 20000 in
theorem fbX11_splits_130_247 (x : XT) (k7 : ST → Int32 → Int32 → Option (Unit × ST)) (ak7 : ∀ (S : ST) (v1 : Int32) (v2 : Int32) (r : Unit) (S' : ST), k7 S v1 v2 = some (r, S') → Agr wX11_splits_130 S S') (S : ST) (v1 : Int32) (v4 : Int32) (r : Unit) (S' : ST) (hm : bfX11_splits_130_247 x k7 S v1 v4 = some (r, S')) : Agr wX11_splits_130 S S' := by
    unfold bfX11_splits_130_247 at hm
    exact Agr.tr (Agr.f Agr.rf 130 18 ((S.1 130 18) + 1) (by decide)) (ak7 ((u2 S.1 130 18 ((S.1 130 18) + 1)), S.2.1, S.2.2.1, S.2.2.2) v1 v4 _ _ hm)
set_option maxHeartbeats 4000000 in
set_option maxRecDepth 20000 in
theorem fbX11_splits_130_240 (x : XT) (k7 : ST → Int32 → Int32 → Option (Unit × ST)) (ak7 : ∀ (S : ST) (v1 : Int32) (v2 : Int32) (r : Unit) (S' : ST), k7 S v1 v2 = some (r, S') → Agr wX11_splits_130 S S') (k169 : ST → Int32 → Int32 → Int32 → Int32 → Option (Unit × ST)) (ak169 : ∀ (S : ST) (v1 : Int32) (v3 : Int32) (v4 : Int32) (v5 : Int32) (r : Unit) (S' : ST), k169 S v1 v3 v4 v5 = some (r, S') → Agr wX11_splits_130 S S') (S : ST) (v1 : Int32) (v3 : Int32) (v4 : Int32) (v5 : Int32) (t1 : Int32) (t2 : Int32) (r : Unit) (S' : ST) (hm : bfX11_splits_130_240 x k7 k169 S v1 v3 v4 v5 t1 t2 = some (r, S')) : Agr wX11_splits_130 S S' := by
    unfold bfX11_splits_130_240 at hm
    obtain ⟨o1, hm⟩ := oblk hm
    exact Agr.tr (Agr.i Agr.rf 140 t1.toNatClampNeg t2 (by decide)) (ak169 (S.1, (u2 S.2.1 140 t1.toNatClampNeg t2), S.2.2.1, S.2.2.2) v1 v3 v4 (v5 + 1) _ _ hm)
set_option maxHeartbeats 4000000 in
set_option maxRecDepth 20000 in
theorem fbX11_splits_130_169 (x : XT) (k7 : ST → Int32 → Int32 → Option (Unit × ST)) (ak7 : ∀ (S : ST) (v1 : Int32) (v2 : Int32) (r : Unit) (S' : ST), k7 S v1 v2 = some (r, S') → Agr wX11_splits_130 S S') (k169 : ST → Int32 → Int32 → Int32 → Int32 → Option (Unit × ST)) (ak169 : ∀ (S : ST) (v1 : Int32) (v3 : Int32) (v4 : Int32) (v5 : Int32) (r : Unit) (S' : ST), k169 S v1 v3 v4 v5 = some (r, S') → Agr wX11_splits_130 S S') (S : ST) (v1 : Int32) (v3 : Int32) (v4 : Int32) (v5 : Int32) (r : Unit) (S' : ST) (hm : bfX11_splits_130_169 x k7 k169 S v1 v3 v4 v5 = some (r, S')) : Agr wX11_splits_130 S S' := by
    unfold bfX11_splits_130_169 at hm
    by_cases c1 : v4 ≤ v5
    · rw [if_pos c1] at hm
      exact Agr.tr Agr.rf (fbX11_splits_130_247 x k7 ak7 S v1 v4 _ _ hm)
    · rw [if_neg c1] at hm
      cases h2 : gfX11_isDigit x S v3 with
      | none => rw [h2] at hm; cases hm
      | some q3 =>
        obtain ⟨r4, S5⟩ := q3
        rw [h2] at hm
        dsimp only at hm
        have a_S5 : Agr wX11_splits_130 S S5 := Agr.tr Agr.rf (Agr.sub (frX11_isDigit x S v3 _ _ h2) (by decide))
        by_cases c6 : r4 = 0
        · rw [if_pos c6] at hm
          exact Agr.tr a_S5 (fbX11_splits_130_247 x k7 ak7 S5 v1 v4 _ _ hm)
        · rw [if_neg c6] at hm
          obtain ⟨o7, hm⟩ := oblk hm
          by_cases c8 : (S5.2.1 140 ((S5.1 130 18).toNatClampNeg)) ≤ 1000000
          · rw [if_pos c8] at hm
            obtain ⟨o9, hm⟩ := oblk hm
            obtain ⟨o10, hm⟩ := oblk hm
            exact Agr.tr a_S5 (fbX11_splits_130_240 x k7 ak7 k169 ak169 S5 v1 v3 v4 v5 (S5.1 130 18) (((10 * (S5.2.1 140 ((S5.1 130 18).toNatClampNeg))) + (S5.2.1 137 v5.toNatClampNeg)) - 48) _ _ hm)
          · rw [if_neg c8] at hm
            obtain ⟨o11, hm⟩ := oblk hm
            exact Agr.tr a_S5 (fbX11_splits_130_240 x k7 ak7 k169 ak169 S5 v1 v3 v4 v5 (S5.1 130 18) (S5.2.1 140 ((S5.1 130 18).toNatClampNeg)) _ _ hm)
theorem flX11_splits_130_169 (x : XT) (k7 : ST → Int32 → Int32 → Option (Unit × ST)) (ak7 : ∀ (S : ST) (v1 : Int32) (v2 : Int32) (r : Unit) (S' : ST), k7 S v1 v2 = some (r, S') → Agr wX11_splits_130 S S') : ∀ (n : Nat) (S : ST) (v1 : Int32) (v3 : Int32) (v4 : Int32) (v5 : Int32) (r : Unit) (S' : ST), lfX11_splits_130_169 x k7 n S v1 v3 v4 v5 = some (r, S') → Agr wX11_splits_130 S S'
  | 0, _, _, _, _, _, _, _, hm => by cases hm
  | n + 1, S, v1, v3, v4, v5, r, S', hm => fbX11_splits_130_169 x k7 ak7 (lfX11_splits_130_169 x k7 n) (flX11_splits_130_169 x k7 ak7 n) S v1 v3 v4 v5 r S' hm
set_option maxHeartbeats 4000000 in
set_option maxRecDepth 20000 in
theorem fbX11_splits_130_165 (x : XT) (k7 : ST → Int32 → Int32 → Option (Unit × ST)) (ak7 : ∀ (S : ST) (v1 : Int32) (v2 : Int32) (r : Unit) (S' : ST), k7 S v1 v2 = some (r, S') → Agr wX11_splits_130 S S') (S : ST) (v1 : Int32) (v2 : Int32) (v3 : Int32) (v4 : Int32) (t1 : Int32) (t2 : Int32) (r : Unit) (S' : ST) (hm : bfX11_splits_130_165 x k7 S v1 v2 v3 v4 t1 t2 = some (r, S')) : Agr wX11_splits_130 S S' := by
    unfold bfX11_splits_130_165 at hm
    obtain ⟨o1, hm⟩ := oblk hm
    exact Agr.tr (Agr.i Agr.rf 139 t1.toNatClampNeg t2 (by decide)) (flX11_splits_130_169 x k7 ak7 20000 (S.1, (u2 S.2.1 139 t1.toNatClampNeg t2), S.2.2.1, S.2.2.2) v1 v3 v4 v2 _ _ hm)
set_option maxHeartbeats 4000000 in
set_option maxRecDepth 20000 in
theorem fbX11_splits_130_100 (x : XT) (k7 : ST → Int32 → Int32 → Option (Unit × ST)) (ak7 : ∀ (S : ST) (v1 : Int32) (v2 : Int32) (r : Unit) (S' : ST), k7 S v1 v2 = some (r, S') → Agr wX11_splits_130 S S') (S : ST) (v1 : Int32) (v2 : Int32) (v3 : Int32) (v4 : Int32) (r : Unit) (S' : ST) (hm : bfX11_splits_130_100 x k7 S v1 v2 v3 v4 = some (r, S')) : Agr wX11_splits_130 S S' := by
    unfold bfX11_splits_130_100 at hm
    obtain ⟨o1, hm⟩ := oblk hm
    obtain ⟨o2, hm⟩ := oblk hm
    cases h3 : gfX11_isSmall x (S.1, (u2 (u2 S.2.1 141 ((S.1 130 18).toNatClampNeg) v2) 140 ((S.1 130 18).toNatClampNeg) 0), S.2.2.1, S.2.2.2) v3 with
    | none => rw [h3] at hm; cases hm
    | some q4 =>
      obtain ⟨r5, S6⟩ := q4
      rw [h3] at hm
      dsimp only at hm
      have a_S6 : Agr wX11_splits_130 S S6 := Agr.tr (Agr.i (Agr.i Agr.rf 141 ((S.1 130 18).toNatClampNeg) v2 (by decide)) 140 ((S.1 130 18).toNatClampNeg) 0 (by decide)) (Agr.sub (frX11_isSmall x (S.1, (u2 (u2 S.2.1 141 ((S.1 130 18).toNatClampNeg) v2) 140 ((S.1 130 18).toNatClampNeg) 0), S.2.2.1, S.2.2.2) v3 _ _ h3) (by decide))
      by_cases c7 : r5 = 0
      · rw [if_pos c7] at hm
        cases h8 : gfX11_isDigit x S6 v3 with
        | none => rw [h8] at hm; cases hm
        | some q9 =>
          obtain ⟨r10, S11⟩ := q9
          rw [h8] at hm
          dsimp only at hm
          have a_S11 : Agr wX11_splits_130 S S11 := Agr.tr a_S6 (Agr.sub (frX11_isDigit x S6 v3 _ _ h8) (by decide))
          by_cases c12 : r10 = 0
          · rw [if_pos c12] at hm
            exact Agr.tr a_S11 (fbX11_splits_130_165 x k7 ak7 S11 v1 v2 v3 v4 (S.1 130 18) (100 + (v3 &&& 255)) _ _ hm)
          · rw [if_neg c12] at hm
            exact Agr.tr a_S11 (fbX11_splits_130_165 x k7 ak7 S11 v1 v2 v3 v4 (S.1 130 18) 50 _ _ hm)
      · rw [if_neg c7] at hm
        cases h13 : gfX11_wordOf_130 x S6 v2 v4 with
        | none => rw [h13] at hm; cases hm
        | some q14 =>
          obtain ⟨r15, S16⟩ := q14
          rw [h13] at hm
          dsimp only at hm
          have a_S16 : Agr wX11_splits_130 S S16 := Agr.tr a_S6 (Agr.sub (frX11_wordOf_130 x S6 v2 v4 _ _ h13) (by decide))
          exact Agr.tr a_S16 (fbX11_splits_130_165 x k7 ak7 S16 v1 v2 v3 v4 (S.1 130 18) r15 _ _ hm)
set_option maxHeartbeats 4000000 in
set_option maxRecDepth 20000 in
theorem fbX11_splits_130_75 (x : XT) (k7 : ST → Int32 → Int32 → Option (Unit × ST)) (ak7 : ∀ (S : ST) (v1 : Int32) (v2 : Int32) (r : Unit) (S' : ST), k7 S v1 v2 = some (r, S') → Agr wX11_splits_130 S S') (k75 : ST → Int32 → Int32 → Int32 → Int32 → Option (Unit × ST)) (ak75 : ∀ (S : ST) (v1 : Int32) (v2 : Int32) (v3 : Int32) (v4 : Int32) (r : Unit) (S' : ST), k75 S v1 v2 v3 v4 = some (r, S') → Agr wX11_splits_130 S S') (S : ST) (v1 : Int32) (v2 : Int32) (v3 : Int32) (v4 : Int32) (r : Unit) (S' : ST) (hm : bfX11_splits_130_75 x k7 k75 S v1 v2 v3 v4 = some (r, S')) : Agr wX11_splits_130 S S' := by
    unfold bfX11_splits_130_75 at hm
    by_cases c1 : v1 ≤ v4
    · rw [if_pos c1] at hm
      exact Agr.tr Agr.rf (fbX11_splits_130_100 x k7 ak7 S v1 v2 v3 v4 _ _ hm)
    · rw [if_neg c1] at hm
      obtain ⟨o2, hm⟩ := oblk hm
      cases h3 : gfX11_isDigit x S (S.2.1 137 v4.toNatClampNeg) with
      | none => rw [h3] at hm; cases hm
      | some q4 =>
        obtain ⟨r5, S6⟩ := q4
        rw [h3] at hm
        dsimp only at hm
        have a_S6 : Agr wX11_splits_130 S S6 := Agr.tr Agr.rf (Agr.sub (frX11_isDigit x S (S.2.1 137 v4.toNatClampNeg) _ _ h3) (by decide))
        by_cases c7 : r5 = 0
        · rw [if_pos c7] at hm
          exact Agr.tr a_S6 (fbX11_splits_130_100 x k7 ak7 S6 v1 v2 v3 v4 _ _ hm)
        · rw [if_neg c7] at hm
          exact Agr.tr a_S6 (ak75 S6 v1 v2 v3 (v4 + 1) _ _ hm)
theorem flX11_splits_130_75 (x : XT) (k7 : ST → Int32 → Int32 → Option (Unit × ST)) (ak7 : ∀ (S : ST) (v1 : Int32) (v2 : Int32) (r : Unit) (S' : ST), k7 S v1 v2 = some (r, S') → Agr wX11_splits_130 S S') : ∀ (n : Nat) (S : ST) (v1 : Int32) (v2 : Int32) (v3 : Int32) (v4 : Int32) (r : Unit) (S' : ST), lfX11_splits_130_75 x k7 n S v1 v2 v3 v4 = some (r, S') → Agr wX11_splits_130 S S'
  | 0, _, _, _, _, _, _, _, hm => by cases hm
  | n + 1, S, v1, v2, v3, v4, r, S', hm => fbX11_splits_130_75 x k7 ak7 (lfX11_splits_130_75 x k7 n) (flX11_splits_130_75 x k7 ak7 n) S v1 v2 v3 v4 r S' hm
set_option maxHeartbeats 4000000 in
set_option maxRecDepth 20000 in
theorem fbX11_splits_130_68 (x : XT) (k7 : ST → Int32 → Int32 → Option (Unit × ST)) (ak7 : ∀ (S : ST) (v1 : Int32) (v2 : Int32) (r : Unit) (S' : ST), k7 S v1 v2 = some (r, S') → Agr wX11_splits_130 S S') (S : ST) (v1 : Int32) (v2 : Int32) (v3 : Int32) (v4 : Int32) (r : Unit) (S' : ST) (hm : bfX11_splits_130_68 x k7 S v1 v2 v3 v4 = some (r, S')) : Agr wX11_splits_130 S S' := by
    unfold bfX11_splits_130_68 at hm
    cases h1 : gfX11_isDigit x S v3 with
    | none => rw [h1] at hm; cases hm
    | some q2 =>
      obtain ⟨r3, S4⟩ := q2
      rw [h1] at hm
      dsimp only at hm
      have a_S4 : Agr wX11_splits_130 S S4 := Agr.tr Agr.rf (Agr.sub (frX11_isDigit x S v3 _ _ h1) (by decide))
      by_cases c5 : r3 = 0
      · rw [if_pos c5] at hm
        exact Agr.tr a_S4 (fbX11_splits_130_100 x k7 ak7 S4 v1 v2 v3 v4 _ _ hm)
      · rw [if_neg c5] at hm
        exact Agr.tr a_S4 (flX11_splits_130_75 x k7 ak7 20000 S4 v1 v2 v3 v4 _ _ hm)
set_option maxHeartbeats 4000000 in
set_option maxRecDepth 20000 in
theorem fbX11_splits_130_43 (x : XT) (k7 : ST → Int32 → Int32 → Option (Unit × ST)) (ak7 : ∀ (S : ST) (v1 : Int32) (v2 : Int32) (r : Unit) (S' : ST), k7 S v1 v2 = some (r, S') → Agr wX11_splits_130 S S') (k43 : ST → Int32 → Int32 → Int32 → Int32 → Option (Unit × ST)) (ak43 : ∀ (S : ST) (v1 : Int32) (v2 : Int32) (v3 : Int32) (v4 : Int32) (r : Unit) (S' : ST), k43 S v1 v2 v3 v4 = some (r, S') → Agr wX11_splits_130 S S') (S : ST) (v1 : Int32) (v2 : Int32) (v3 : Int32) (v4 : Int32) (r : Unit) (S' : ST) (hm : bfX11_splits_130_43 x k7 k43 S v1 v2 v3 v4 = some (r, S')) : Agr wX11_splits_130 S S' := by
    unfold bfX11_splits_130_43 at hm
    by_cases c1 : v1 ≤ v4
    · rw [if_pos c1] at hm
      exact Agr.tr Agr.rf (fbX11_splits_130_68 x k7 ak7 S v1 v2 v3 v4 _ _ hm)
    · rw [if_neg c1] at hm
      obtain ⟨o2, hm⟩ := oblk hm
      cases h3 : gfX11_isSmall x S (S.2.1 137 v4.toNatClampNeg) with
      | none => rw [h3] at hm; cases hm
      | some q4 =>
        obtain ⟨r5, S6⟩ := q4
        rw [h3] at hm
        dsimp only at hm
        have a_S6 : Agr wX11_splits_130 S S6 := Agr.tr Agr.rf (Agr.sub (frX11_isSmall x S (S.2.1 137 v4.toNatClampNeg) _ _ h3) (by decide))
        by_cases c7 : r5 = 0
        · rw [if_pos c7] at hm
          exact Agr.tr a_S6 (fbX11_splits_130_68 x k7 ak7 S6 v1 v2 v3 v4 _ _ hm)
        · rw [if_neg c7] at hm
          exact Agr.tr a_S6 (ak43 S6 v1 v2 v3 (v4 + 1) _ _ hm)
theorem flX11_splits_130_43 (x : XT) (k7 : ST → Int32 → Int32 → Option (Unit × ST)) (ak7 : ∀ (S : ST) (v1 : Int32) (v2 : Int32) (r : Unit) (S' : ST), k7 S v1 v2 = some (r, S') → Agr wX11_splits_130 S S') : ∀ (n : Nat) (S : ST) (v1 : Int32) (v2 : Int32) (v3 : Int32) (v4 : Int32) (r : Unit) (S' : ST), lfX11_splits_130_43 x k7 n S v1 v2 v3 v4 = some (r, S') → Agr wX11_splits_130 S S'
  | 0, _, _, _, _, _, _, _, hm => by cases hm
  | n + 1, S, v1, v2, v3, v4, r, S', hm => fbX11_splits_130_43 x k7 ak7 (lfX11_splits_130_43 x k7 n) (flX11_splits_130_43 x k7 ak7 n) S v1 v2 v3 v4 r S' hm
set_option maxHeartbeats 4000000 in
set_option maxRecDepth 20000 in
theorem fbX11_splits_130_7 (x : XT) (k7 : ST → Int32 → Int32 → Option (Unit × ST)) (ak7 : ∀ (S : ST) (v1 : Int32) (v2 : Int32) (r : Unit) (S' : ST), k7 S v1 v2 = some (r, S') → Agr wX11_splits_130 S S') (S : ST) (v1 : Int32) (v2 : Int32) (r : Unit) (S' : ST) (hm : bfX11_splits_130_7 x k7 S v1 v2 = some (r, S')) : Agr wX11_splits_130 S S' := by
    unfold bfX11_splits_130_7 at hm
    by_cases c1 : v1 ≤ v2
    · rw [if_pos c1] at hm
      obtain ⟨o2, hm⟩ := oblk hm
      obtain ⟨o3, hm⟩ := oblk hm
      obtain ⟨o4, hm⟩ := oblk hm
      cases hm
      exact (Agr.i (Agr.i (Agr.i Agr.rf 141 ((S.1 130 18).toNatClampNeg) v1 (by decide)) 139 ((S.1 130 18).toNatClampNeg) 0 (by decide)) 140 ((S.1 130 18).toNatClampNeg) 0 (by decide))
    · rw [if_neg c1] at hm
      obtain ⟨o5, hm⟩ := oblk hm
      by_cases c6 : ¬ (S.2.1 137 v2.toNatClampNeg) = 32
      · rw [if_pos c6] at hm
        cases h7 : gfX11_isSmall x S (S.2.1 137 v2.toNatClampNeg) with
        | none => rw [h7] at hm; cases hm
        | some q8 =>
          obtain ⟨r9, S10⟩ := q8
          rw [h7] at hm
          dsimp only at hm
          have a_S10 : Agr wX11_splits_130 S S10 := Agr.tr Agr.rf (Agr.sub (frX11_isSmall x S (S.2.1 137 v2.toNatClampNeg) _ _ h7) (by decide))
          by_cases c11 : r9 = 0
          · rw [if_pos c11] at hm
            exact Agr.tr a_S10 (fbX11_splits_130_68 x k7 ak7 S10 v1 v2 (S.2.1 137 v2.toNatClampNeg) (v2 + 1) _ _ hm)
          · rw [if_neg c11] at hm
            exact Agr.tr a_S10 (flX11_splits_130_43 x k7 ak7 20000 S10 v1 v2 (S.2.1 137 v2.toNatClampNeg) (v2 + 1) _ _ hm)
      · rw [if_neg c6] at hm
        exact Agr.tr Agr.rf (ak7 S v1 (v2 + 1) _ _ hm)
theorem flX11_splits_130_7 (x : XT)  : ∀ (n : Nat) (S : ST) (v1 : Int32) (v2 : Int32) (r : Unit) (S' : ST), lfX11_splits_130_7 x  n S v1 v2 = some (r, S') → Agr wX11_splits_130 S S'
  | 0, _, _, _, _, _, hm => by cases hm
  | n + 1, S, v1, v2, r, S', hm => fbX11_splits_130_7 x (lfX11_splits_130_7 x  n) (flX11_splits_130_7 x  n) S v1 v2 r S' hm
set_option maxHeartbeats 4000000 in
set_option maxRecDepth 20000 in
theorem fbX11_splits_130_0 (x : XT)  (S : ST) (p1 : Int32) (r : Unit) (S' : ST) (hm : bfX11_splits_130_0 x  S p1 = some (r, S')) : Agr wX11_splits_130 S S' := by
    unfold bfX11_splits_130_0 at hm
    exact Agr.tr (Agr.f Agr.rf 130 18 0 (by decide)) (flX11_splits_130_7 x  20000 ((u2 S.1 130 18 0), S.2.1, S.2.2.1, S.2.2.2) p1 0 _ _ hm)
theorem frX11_splits_130 (x : XT) (S : ST) (p1 : Int32) (r : Unit) (S' : ST) (hm : gfX11_splits_130 x S p1 = some (r, S')) : Agr wX11_splits_130 S S' := fbX11_splits_130_0 x S p1 r S' hm
def wX11_fine_130 : List (Nat × Nat) × List Nat × List Nat × List Nat := ([], [], [], [])
set_option maxHeartbeats 4000000 in
set_option maxRecDepth 20000 in
theorem fbX11_fine_130_13 (x : XT)  (S : ST) (t0 : Int32) (r : Int32) (S' : ST) (hm : bfX11_fine_130_13 x  S t0 = some (r, S')) : Agr wX11_fine_130 S S' := by
    unfold bfX11_fine_130_13 at hm
    obtain ⟨o1, hm⟩ := oblk hm
    cases hm
    exact Agr.rf
set_option maxHeartbeats 4000000 in
set_option maxRecDepth 20000 in
theorem fbX11_fine_130_0 (x : XT)  (S : ST)  (r : Int32) (S' : ST) (hm : bfX11_fine_130_0 x  S  = some (r, S')) : Agr wX11_fine_130 S S' := by
    unfold bfX11_fine_130_0 at hm
    by_cases c1 : ¬ (S.1 130 21) = (-1)
    · rw [if_pos c1] at hm
      exact Agr.tr Agr.rf (fbX11_fine_130_13 x  S 0 _ _ hm)
    · rw [if_neg c1] at hm
      exact Agr.tr Agr.rf (fbX11_fine_130_13 x  S 1 _ _ hm)
theorem frX11_fine_130 (x : XT) (S : ST)  (r : Int32) (S' : ST) (hm : gfX11_fine_130 x S  = some (r, S')) : Agr wX11_fine_130 S S' := fbX11_fine_130_0 x S  r S' hm
def wX11_faults_130 : List (Nat × Nat) × List Nat × List Nat × List Nat := ([(130, 21)], [], [], [])
set_option maxHeartbeats 4000000 in
set_option maxRecDepth 20000 in
theorem fbX11_faults_130_20 (x : XT)  (S : ST)  (r : Unit) (S' : ST) (hm : bfX11_faults_130_20 x  S  = some (r, S')) : Agr wX11_faults_130 S S' := by
    unfold bfX11_faults_130_20 at hm
    cases hm
    exact Agr.rf
set_option maxHeartbeats 4000000 in
set_option maxRecDepth 20000 in
theorem fbX11_faults_130_0 (x : XT)  (S : ST)  (r : Unit) (S' : ST) (hm : bfX11_faults_130_0 x  S  = some (r, S')) : Agr wX11_faults_130 S S' := by
    unfold bfX11_faults_130_0 at hm
    cases h1 : gfX11_fine_130 x S with
    | none => rw [h1] at hm; cases hm
    | some q2 =>
      obtain ⟨r3, S4⟩ := q2
      rw [h1] at hm
      dsimp only at hm
      have a_S4 : Agr wX11_faults_130 S S4 := Agr.tr Agr.rf (Agr.sub (frX11_fine_130 x S _ _ h1) (by decide))
      by_cases c5 : r3 = 0
      · rw [if_pos c5] at hm
        exact Agr.tr a_S4 (fbX11_faults_130_20 x  S4 _ _ hm)
      · rw [if_neg c5] at hm
        obtain ⟨o6, hm⟩ := oblk hm
        exact Agr.tr (Agr.f a_S4 130 21 (S4.2.1 141 ((S4.1 130 19).toNatClampNeg)) (by decide)) (fbX11_faults_130_20 x  ((u2 S4.1 130 21 (S4.2.1 141 ((S4.1 130 19).toNatClampNeg))), S4.2.1, S4.2.2.1, S4.2.2.2) _ _ hm)
theorem frX11_faults_130 (x : XT) (S : ST)  (r : Unit) (S' : ST) (hm : gfX11_faults_130 x S  = some (r, S')) : Agr wX11_faults_130 S S' := fbX11_faults_130_0 x S  r S' hm
def wX11_takes0_130 : List (Nat × Nat) × List Nat × List Nat × List Nat := ([(130, 19)], [], [], [])
set_option maxHeartbeats 4000000 in
set_option maxRecDepth 20000 in
theorem fbX11_takes0_130_40 (x : XT)  (S : ST) (v2 : Int32) (r : Int32) (S' : ST) (hm : bfX11_takes0_130_40 x  S v2 = some (r, S')) : Agr wX11_takes0_130 S S' := by
    unfold bfX11_takes0_130_40 at hm
    obtain ⟨o1, hm⟩ := oblk hm
    cases hm
    exact Agr.rf
set_option maxHeartbeats 4000000 in
set_option maxRecDepth 20000 in
theorem fbX11_takes0_130_25 (x : XT)  (S : ST) (t0 : Int32) (r : Int32) (S' : ST) (hm : bfX11_takes0_130_25 x  S t0 = some (r, S')) : Agr wX11_takes0_130 S S' := by
    unfold bfX11_takes0_130_25 at hm
    by_cases c1 : t0 = 0
    · rw [if_pos c1] at hm
      exact Agr.tr Agr.rf (fbX11_takes0_130_40 x  S t0 _ _ hm)
    · rw [if_neg c1] at hm
      exact Agr.tr (Agr.f Agr.rf 130 19 ((S.1 130 19) + 1) (by decide)) (fbX11_takes0_130_40 x  ((u2 S.1 130 19 ((S.1 130 19) + 1)), S.2.1, S.2.2.1, S.2.2.2) t0 _ _ hm)
set_option maxHeartbeats 4000000 in
set_option maxRecDepth 20000 in
theorem fbX11_takes0_130_24 (x : XT)  (S : ST)  (r : Int32) (S' : ST) (hm : bfX11_takes0_130_24 x  S  = some (r, S')) : Agr wX11_takes0_130 S S' := by
    unfold bfX11_takes0_130_24 at hm
    exact Agr.tr Agr.rf (fbX11_takes0_130_25 x  S 0 _ _ hm)
set_option maxHeartbeats 4000000 in
set_option maxRecDepth 20000 in
theorem fbX11_takes0_130_0 (x : XT)  (S : ST) (p1 : Int32) (r : Int32) (S' : ST) (hm : bfX11_takes0_130_0 x  S p1 = some (r, S')) : Agr wX11_takes0_130 S S' := by
    unfold bfX11_takes0_130_0 at hm
    cases h1 : gfX11_fine_130 x S with
    | none => rw [h1] at hm; cases hm
    | some q2 =>
      obtain ⟨r3, S4⟩ := q2
      rw [h1] at hm
      dsimp only at hm
      have a_S4 : Agr wX11_takes0_130 S S4 := Agr.tr Agr.rf (Agr.sub (frX11_fine_130 x S _ _ h1) (by decide))
      by_cases c5 : r3 = 0
      · rw [if_pos c5] at hm
        exact Agr.tr a_S4 (fbX11_takes0_130_24 x  S4 _ _ hm)
      · rw [if_neg c5] at hm
        obtain ⟨o6, hm⟩ := oblk hm
        by_cases c7 : ¬ (S4.2.1 139 ((S4.1 130 19).toNatClampNeg)) = p1
        · rw [if_pos c7] at hm
          exact Agr.tr a_S4 (fbX11_takes0_130_24 x  S4 _ _ hm)
        · rw [if_neg c7] at hm
          exact Agr.tr a_S4 (fbX11_takes0_130_25 x  S4 1 _ _ hm)
theorem frX11_takes0_130 (x : XT) (S : ST) (p1 : Int32) (r : Int32) (S' : ST) (hm : gfX11_takes0_130 x S p1 = some (r, S')) : Agr wX11_takes0_130 S S' := fbX11_takes0_130_0 x S p1 r S' hm
def wX11_must_130 : List (Nat × Nat) × List Nat × List Nat × List Nat := ([(130, 19), (130, 21)], [], [], [])
set_option maxHeartbeats 4000000 in
set_option maxRecDepth 20000 in
theorem fbX11_must_130_12 (x : XT)  (S : ST)  (r : Unit) (S' : ST) (hm : bfX11_must_130_12 x  S  = some (r, S')) : Agr wX11_must_130 S S' := by
    unfold bfX11_must_130_12 at hm
    cases hm
    exact Agr.rf
set_option maxHeartbeats 4000000 in
set_option maxRecDepth 20000 in
theorem fbX11_must_130_0 (x : XT)  (S : ST) (p1 : Int32) (r : Unit) (S' : ST) (hm : bfX11_must_130_0 x  S p1 = some (r, S')) : Agr wX11_must_130 S S' := by
    unfold bfX11_must_130_0 at hm
    cases h1 : gfX11_takes0_130 x S p1 with
    | none => rw [h1] at hm; cases hm
    | some q2 =>
      obtain ⟨r3, S4⟩ := q2
      rw [h1] at hm
      dsimp only at hm
      have a_S4 : Agr wX11_must_130 S S4 := Agr.tr Agr.rf (Agr.sub (frX11_takes0_130 x S p1 _ _ h1) (by decide))
      by_cases c5 : ¬ r3 = 0
      · rw [if_pos c5] at hm
        exact Agr.tr a_S4 (fbX11_must_130_12 x  S4 _ _ hm)
      · rw [if_neg c5] at hm
        cases h6 : gfX11_faults_130 x S4 with
        | none => rw [h6] at hm; cases hm
        | some q7 =>
          obtain ⟨r8, S9⟩ := q7
          rw [h6] at hm
          dsimp only at hm
          have a_S9 : Agr wX11_must_130 S S9 := Agr.tr a_S4 (Agr.sub (frX11_faults_130 x S4 _ _ h6) (by decide))
          exact Agr.tr a_S9 (fbX11_must_130_12 x  S9 _ _ hm)
theorem frX11_must_130 (x : XT) (S : ST) (p1 : Int32) (r : Unit) (S' : ST) (hm : gfX11_must_130 x S p1 = some (r, S')) : Agr wX11_must_130 S S' := fbX11_must_130_0 x S p1 r S' hm
def wX11_leaf_130 : List (Nat × Nat) × List Nat × List Nat × List Nat := ([(130, 19), (130, 20), (130, 21)], [], [], [])
set_option maxHeartbeats 4000000 in
set_option maxRecDepth 20000 in
theorem fbX11_leaf_130_40 (x : XT)  (S : ST)  (r : Unit) (S' : ST) (hm : bfX11_leaf_130_40 x  S  = some (r, S')) : Agr wX11_leaf_130 S S' := by
    unfold bfX11_leaf_130_40 at hm
    cases hm
    exact Agr.rf
set_option maxHeartbeats 4000000 in
set_option maxRecDepth 20000 in
theorem fbX11_leaf_130_13 (x : XT)  (S : ST)  (r : Unit) (S' : ST) (hm : bfX11_leaf_130_13 x  S  = some (r, S')) : Agr wX11_leaf_130 S S' := by
    unfold bfX11_leaf_130_13 at hm
    cases h1 : gfX11_fine_130 x ((u2 S.1 130 20 ((S.1 130 20) + 1)), S.2.1, S.2.2.1, S.2.2.2) with
    | none => rw [h1] at hm; cases hm
    | some q2 =>
      obtain ⟨r3, S4⟩ := q2
      rw [h1] at hm
      dsimp only at hm
      have a_S4 : Agr wX11_leaf_130 S S4 := Agr.tr (Agr.f Agr.rf 130 20 ((S.1 130 20) + 1) (by decide)) (Agr.sub (frX11_fine_130 x ((u2 S.1 130 20 ((S.1 130 20) + 1)), S.2.1, S.2.2.1, S.2.2.2) _ _ h1) (by decide))
      by_cases c5 : r3 = 0
      · rw [if_pos c5] at hm
        exact Agr.tr a_S4 (fbX11_leaf_130_40 x  S4 _ _ hm)
      · rw [if_neg c5] at hm
        exact Agr.tr (Agr.f a_S4 130 19 ((S4.1 130 19) + 1) (by decide)) (fbX11_leaf_130_40 x  ((u2 S4.1 130 19 ((S4.1 130 19) + 1)), S4.2.1, S4.2.2.1, S4.2.2.2) _ _ hm)
set_option maxHeartbeats 4000000 in
set_option maxRecDepth 20000 in
theorem fbX11_leaf_130_0 (x : XT)  (S : ST)  (r : Unit) (S' : ST) (hm : bfX11_leaf_130_0 x  S  = some (r, S')) : Agr wX11_leaf_130 S S' := by
    unfold bfX11_leaf_130_0 at hm
    by_cases c1 : ¬ (S.1 130 20) = 50
    · rw [if_pos c1] at hm
      exact Agr.tr Agr.rf (fbX11_leaf_130_13 x  S _ _ hm)
    · rw [if_neg c1] at hm
      cases h2 : gfX11_faults_130 x S with
      | none => rw [h2] at hm; cases hm
      | some q3 =>
        obtain ⟨r4, S5⟩ := q3
        rw [h2] at hm
        dsimp only at hm
        have a_S5 : Agr wX11_leaf_130 S S5 := Agr.tr Agr.rf (Agr.sub (frX11_faults_130 x S _ _ h2) (by decide))
        exact Agr.tr a_S5 (fbX11_leaf_130_13 x  S5 _ _ hm)
theorem frX11_leaf_130 (x : XT) (S : ST)  (r : Unit) (S' : ST) (hm : gfX11_leaf_130 x S  = some (r, S')) : Agr wX11_leaf_130 S S' := fbX11_leaf_130_0 x S  r S' hm
def wX11_mustNumber_130 : List (Nat × Nat) × List Nat × List Nat × List Nat := ([(130, 19), (130, 21)], [], [], [])
set_option maxHeartbeats 4000000 in
set_option maxRecDepth 20000 in
theorem fbX11_mustNumber_130_59 (x : XT)  (S : ST)  (r : Unit) (S' : ST) (hm : bfX11_mustNumber_130_59 x  S  = some (r, S')) : Agr wX11_mustNumber_130 S S' := by
    unfold bfX11_mustNumber_130_59 at hm
    cases hm
    exact Agr.rf
set_option maxHeartbeats 4000000 in
set_option maxRecDepth 20000 in
theorem fbX11_mustNumber_130_42 (x : XT)  (S : ST)  (r : Unit) (S' : ST) (hm : bfX11_mustNumber_130_42 x  S  = some (r, S')) : Agr wX11_mustNumber_130 S S' := by
    unfold bfX11_mustNumber_130_42 at hm
    cases h1 : gfX11_fine_130 x S with
    | none => rw [h1] at hm; cases hm
    | some q2 =>
      obtain ⟨r3, S4⟩ := q2
      rw [h1] at hm
      dsimp only at hm
      have a_S4 : Agr wX11_mustNumber_130 S S4 := Agr.tr Agr.rf (Agr.sub (frX11_fine_130 x S _ _ h1) (by decide))
      by_cases c5 : r3 = 0
      · rw [if_pos c5] at hm
        exact Agr.tr a_S4 (fbX11_mustNumber_130_59 x  S4 _ _ hm)
      · rw [if_neg c5] at hm
        exact Agr.tr (Agr.f a_S4 130 19 ((S4.1 130 19) + 1) (by decide)) (fbX11_mustNumber_130_59 x  ((u2 S4.1 130 19 ((S4.1 130 19) + 1)), S4.2.1, S4.2.2.1, S4.2.2.2) _ _ hm)
set_option maxHeartbeats 4000000 in
set_option maxRecDepth 20000 in
theorem fbX11_mustNumber_130_38 (x : XT)  (S : ST)  (r : Unit) (S' : ST) (hm : bfX11_mustNumber_130_38 x  S  = some (r, S')) : Agr wX11_mustNumber_130 S S' := by
    unfold bfX11_mustNumber_130_38 at hm
    cases h1 : gfX11_faults_130 x S with
    | none => rw [h1] at hm; cases hm
    | some q2 =>
      obtain ⟨r3, S4⟩ := q2
      rw [h1] at hm
      dsimp only at hm
      have a_S4 : Agr wX11_mustNumber_130 S S4 := Agr.tr Agr.rf (Agr.sub (frX11_faults_130 x S _ _ h1) (by decide))
      exact Agr.tr a_S4 (fbX11_mustNumber_130_42 x  S4 _ _ hm)
set_option maxHeartbeats 4000000 in
set_option maxRecDepth 20000 in
theorem fbX11_mustNumber_130_0 (x : XT)  (S : ST) (p1 : Int32) (p2 : Int32) (r : Unit) (S' : ST) (hm : bfX11_mustNumber_130_0 x  S p1 p2 = some (r, S')) : Agr wX11_mustNumber_130 S S' := by
    unfold bfX11_mustNumber_130_0 at hm
    cases h1 : gfX11_fine_130 x S with
    | none => rw [h1] at hm; cases hm
    | some q2 =>
      obtain ⟨r3, S4⟩ := q2
      rw [h1] at hm
      dsimp only at hm
      have a_S4 : Agr wX11_mustNumber_130 S S4 := Agr.tr Agr.rf (Agr.sub (frX11_fine_130 x S _ _ h1) (by decide))
      by_cases c5 : r3 = 0
      · rw [if_pos c5] at hm
        exact Agr.tr a_S4 (fbX11_mustNumber_130_42 x  S4 _ _ hm)
      · rw [if_neg c5] at hm
        obtain ⟨o6, hm⟩ := oblk hm
        by_cases c7 : ¬ (S4.2.1 139 ((S4.1 130 19).toNatClampNeg)) = 50
        · rw [if_pos c7] at hm
          exact Agr.tr a_S4 (fbX11_mustNumber_130_38 x  S4 _ _ hm)
        · rw [if_neg c7] at hm
          obtain ⟨o8, hm⟩ := oblk hm
          cases h9 : gfX11_lies x S4 (S4.2.1 140 ((S4.1 130 19).toNatClampNeg)) p1 p2 with
          | none => rw [h9] at hm; cases hm
          | some q10 =>
            obtain ⟨r11, S12⟩ := q10
            rw [h9] at hm
            dsimp only at hm
            have a_S12 : Agr wX11_mustNumber_130 S S12 := Agr.tr a_S4 (Agr.sub (frX11_lies x S4 (S4.2.1 140 ((S4.1 130 19).toNatClampNeg)) p1 p2 _ _ h9) (by decide))
            by_cases c13 : ¬ r11 = 0
            · rw [if_pos c13] at hm
              exact Agr.tr a_S12 (fbX11_mustNumber_130_42 x  S12 _ _ hm)
            · rw [if_neg c13] at hm
              exact Agr.tr a_S12 (fbX11_mustNumber_130_38 x  S12 _ _ hm)
theorem frX11_mustNumber_130 (x : XT) (S : ST) (p1 : Int32) (p2 : Int32) (r : Unit) (S' : ST) (hm : gfX11_mustNumber_130 x S p1 p2 = some (r, S')) : Agr wX11_mustNumber_130 S S' := fbX11_mustNumber_130_0 x S p1 p2 r S' hm
def wX11_readSum_130 : List (Nat × Nat) × List Nat × List Nat × List Nat := ([(130, 19), (130, 20), (130, 21)], [], [], [])
set_option maxHeartbeats 4000000 in
set_option maxRecDepth 20000 in
theorem fbX11_readSum_130_29 (x : XT) (rec_X11_readSum : ST → Int32 → Option (Unit × ST)) (arec_X11_readSum : ∀ (S : ST) (z0 : Int32) (r : Unit) (S' : ST), rec_X11_readSum S z0 = some (r, S') → Agr wX11_readSum_130 S S') (rec_X11_readTerm : ST → Int32 → Option (Unit × ST)) (arec_X11_readTerm : ∀ (S : ST) (z0 : Int32) (r : Unit) (S' : ST), rec_X11_readTerm S z0 = some (r, S') → Agr wX11_readSum_130 S S') (rec_X11_readPart : ST → Int32 → Option (Unit × ST)) (arec_X11_readPart : ∀ (S : ST) (z0 : Int32) (r : Unit) (S' : ST), rec_X11_readPart S z0 = some (r, S') → Agr wX11_readSum_130 S S') (k5 : ST → Int32 → Option (Unit × ST)) (ak5 : ∀ (S : ST) (v1 : Int32) (r : Unit) (S' : ST), k5 S v1 = some (r, S') → Agr wX11_readSum_130 S S') (S : ST) (v1 : Int32) (r : Unit) (S' : ST) (hm : bfX11_readSum_130_29 x rec_X11_readSum rec_X11_readTerm rec_X11_readPart k5 S v1 = some (r, S')) : Agr wX11_readSum_130 S S' := by
    unfold bfX11_readSum_130_29 at hm
    cases h1 : rec_X11_readTerm S v1 with
    | none => rw [h1] at hm; cases hm
    | some q2 =>
      obtain ⟨r3, S4⟩ := q2
      rw [h1] at hm
      dsimp only at hm
      have a_S4 : Agr wX11_readSum_130 S S4 := Agr.tr Agr.rf (arec_X11_readTerm S v1 _ _ h1)
      exact Agr.tr a_S4 (ak5 S4 v1 _ _ hm)
set_option maxHeartbeats 4000000 in
set_option maxRecDepth 20000 in
theorem fbX11_readSum_130_5 (x : XT) (rec_X11_readSum : ST → Int32 → Option (Unit × ST)) (arec_X11_readSum : ∀ (S : ST) (z0 : Int32) (r : Unit) (S' : ST), rec_X11_readSum S z0 = some (r, S') → Agr wX11_readSum_130 S S') (rec_X11_readTerm : ST → Int32 → Option (Unit × ST)) (arec_X11_readTerm : ∀ (S : ST) (z0 : Int32) (r : Unit) (S' : ST), rec_X11_readTerm S z0 = some (r, S') → Agr wX11_readSum_130 S S') (rec_X11_readPart : ST → Int32 → Option (Unit × ST)) (arec_X11_readPart : ∀ (S : ST) (z0 : Int32) (r : Unit) (S' : ST), rec_X11_readPart S z0 = some (r, S') → Agr wX11_readSum_130 S S') (k5 : ST → Int32 → Option (Unit × ST)) (ak5 : ∀ (S : ST) (v1 : Int32) (r : Unit) (S' : ST), k5 S v1 = some (r, S') → Agr wX11_readSum_130 S S') (S : ST) (v1 : Int32) (r : Unit) (S' : ST) (hm : bfX11_readSum_130_5 x rec_X11_readSum rec_X11_readTerm rec_X11_readPart k5 S v1 = some (r, S')) : Agr wX11_readSum_130 S S' := by
    unfold bfX11_readSum_130_5 at hm
    cases h1 : gfX11_sign x S 43 with
    | none => rw [h1] at hm; cases hm
    | some q2 =>
      obtain ⟨r3, S4⟩ := q2
      rw [h1] at hm
      dsimp only at hm
      have a_S4 : Agr wX11_readSum_130 S S4 := Agr.tr Agr.rf (Agr.sub (frX11_sign x S 43 _ _ h1) (by decide))
      cases h5 : gfX11_takes0_130 x S4 r3 with
      | none => rw [h5] at hm; cases hm
      | some q6 =>
        obtain ⟨r7, S8⟩ := q6
        rw [h5] at hm
        dsimp only at hm
        have a_S8 : Agr wX11_readSum_130 S S8 := Agr.tr a_S4 (Agr.sub (frX11_takes0_130 x S4 r3 _ _ h5) (by decide))
        by_cases c9 : ¬ r7 = 0
        · rw [if_pos c9] at hm
          exact Agr.tr a_S8 (fbX11_readSum_130_29 x rec_X11_readSum arec_X11_readSum rec_X11_readTerm arec_X11_readTerm rec_X11_readPart arec_X11_readPart k5 ak5 S8 v1 _ _ hm)
        · rw [if_neg c9] at hm
          cases h10 : gfX11_sign x S8 45 with
          | none => rw [h10] at hm; cases hm
          | some q11 =>
            obtain ⟨r12, S13⟩ := q11
            rw [h10] at hm
            dsimp only at hm
            have a_S13 : Agr wX11_readSum_130 S S13 := Agr.tr a_S8 (Agr.sub (frX11_sign x S8 45 _ _ h10) (by decide))
            cases h14 : gfX11_takes0_130 x S13 r12 with
            | none => rw [h14] at hm; cases hm
            | some q15 =>
              obtain ⟨r16, S17⟩ := q15
              rw [h14] at hm
              dsimp only at hm
              have a_S17 : Agr wX11_readSum_130 S S17 := Agr.tr a_S13 (Agr.sub (frX11_takes0_130 x S13 r12 _ _ h14) (by decide))
              by_cases c18 : r16 = 0
              · rw [if_pos c18] at hm
                cases hm
                exact a_S17
              · rw [if_neg c18] at hm
                exact Agr.tr a_S17 (fbX11_readSum_130_29 x rec_X11_readSum arec_X11_readSum rec_X11_readTerm arec_X11_readTerm rec_X11_readPart arec_X11_readPart k5 ak5 S17 v1 _ _ hm)
theorem flX11_readSum_130_5 (x : XT) (rec_X11_readSum : ST → Int32 → Option (Unit × ST)) (arec_X11_readSum : ∀ (S : ST) (z0 : Int32) (r : Unit) (S' : ST), rec_X11_readSum S z0 = some (r, S') → Agr wX11_readSum_130 S S') (rec_X11_readTerm : ST → Int32 → Option (Unit × ST)) (arec_X11_readTerm : ∀ (S : ST) (z0 : Int32) (r : Unit) (S' : ST), rec_X11_readTerm S z0 = some (r, S') → Agr wX11_readSum_130 S S') (rec_X11_readPart : ST → Int32 → Option (Unit × ST)) (arec_X11_readPart : ∀ (S : ST) (z0 : Int32) (r : Unit) (S' : ST), rec_X11_readPart S z0 = some (r, S') → Agr wX11_readSum_130 S S')  : ∀ (n : Nat) (S : ST) (v1 : Int32) (r : Unit) (S' : ST), lfX11_readSum_130_5 x rec_X11_readSum rec_X11_readTerm rec_X11_readPart  n S v1 = some (r, S') → Agr wX11_readSum_130 S S'
  | 0, _, _, _, _, hm => by cases hm
  | n + 1, S, v1, r, S', hm => fbX11_readSum_130_5 x rec_X11_readSum arec_X11_readSum rec_X11_readTerm arec_X11_readTerm rec_X11_readPart arec_X11_readPart (lfX11_readSum_130_5 x rec_X11_readSum rec_X11_readTerm rec_X11_readPart  n) (flX11_readSum_130_5 x rec_X11_readSum arec_X11_readSum rec_X11_readTerm arec_X11_readTerm rec_X11_readPart arec_X11_readPart  n) S v1 r S' hm
set_option maxHeartbeats 4000000 in
set_option maxRecDepth 20000 in
theorem fbX11_readSum_130_0 (x : XT) (rec_X11_readSum : ST → Int32 → Option (Unit × ST)) (arec_X11_readSum : ∀ (S : ST) (z0 : Int32) (r : Unit) (S' : ST), rec_X11_readSum S z0 = some (r, S') → Agr wX11_readSum_130 S S') (rec_X11_readTerm : ST → Int32 → Option (Unit × ST)) (arec_X11_readTerm : ∀ (S : ST) (z0 : Int32) (r : Unit) (S' : ST), rec_X11_readTerm S z0 = some (r, S') → Agr wX11_readSum_130 S S') (rec_X11_readPart : ST → Int32 → Option (Unit × ST)) (arec_X11_readPart : ∀ (S : ST) (z0 : Int32) (r : Unit) (S' : ST), rec_X11_readPart S z0 = some (r, S') → Agr wX11_readSum_130 S S')  (S : ST) (p1 : Int32) (r : Unit) (S' : ST) (hm : bfX11_readSum_130_0 x rec_X11_readSum rec_X11_readTerm rec_X11_readPart  S p1 = some (r, S')) : Agr wX11_readSum_130 S S' := by
    unfold bfX11_readSum_130_0 at hm
    cases h1 : rec_X11_readTerm S p1 with
    | none => rw [h1] at hm; cases hm
    | some q2 =>
      obtain ⟨r3, S4⟩ := q2
      rw [h1] at hm
      dsimp only at hm
      have a_S4 : Agr wX11_readSum_130 S S4 := Agr.tr Agr.rf (arec_X11_readTerm S p1 _ _ h1)
      exact Agr.tr a_S4 (flX11_readSum_130_5 x rec_X11_readSum arec_X11_readSum rec_X11_readTerm arec_X11_readTerm rec_X11_readPart arec_X11_readPart  20000 S4 p1 _ _ hm)
theorem frrX11_readSum_130 (x : XT) (rec_X11_readSum : ST → Int32 → Option (Unit × ST)) (arec_X11_readSum : ∀ (S : ST) (z0 : Int32) (r : Unit) (S' : ST), rec_X11_readSum S z0 = some (r, S') → Agr wX11_readSum_130 S S') (rec_X11_readTerm : ST → Int32 → Option (Unit × ST)) (arec_X11_readTerm : ∀ (S : ST) (z0 : Int32) (r : Unit) (S' : ST), rec_X11_readTerm S z0 = some (r, S') → Agr wX11_readSum_130 S S') (rec_X11_readPart : ST → Int32 → Option (Unit × ST)) (arec_X11_readPart : ∀ (S : ST) (z0 : Int32) (r : Unit) (S' : ST), rec_X11_readPart S z0 = some (r, S') → Agr wX11_readSum_130 S S') (S : ST) (p1 : Int32) (r : Unit) (S' : ST) (hm : grfX11_readSum_130 x rec_X11_readSum rec_X11_readTerm rec_X11_readPart S p1 = some (r, S')) : Agr wX11_readSum_130 S S' := fbX11_readSum_130_0 x rec_X11_readSum arec_X11_readSum rec_X11_readTerm arec_X11_readTerm rec_X11_readPart arec_X11_readPart S p1 r S' hm
set_option maxHeartbeats 4000000 in
set_option maxRecDepth 20000 in
theorem fbX11_readTerm_130_41 (x : XT) (rec_X11_readSum : ST → Int32 → Option (Unit × ST)) (arec_X11_readSum : ∀ (S : ST) (z0 : Int32) (r : Unit) (S' : ST), rec_X11_readSum S z0 = some (r, S') → Agr wX11_readSum_130 S S') (rec_X11_readTerm : ST → Int32 → Option (Unit × ST)) (arec_X11_readTerm : ∀ (S : ST) (z0 : Int32) (r : Unit) (S' : ST), rec_X11_readTerm S z0 = some (r, S') → Agr wX11_readSum_130 S S') (rec_X11_readPart : ST → Int32 → Option (Unit × ST)) (arec_X11_readPart : ∀ (S : ST) (z0 : Int32) (r : Unit) (S' : ST), rec_X11_readPart S z0 = some (r, S') → Agr wX11_readSum_130 S S') (k5 : ST → Int32 → Option (Unit × ST)) (ak5 : ∀ (S : ST) (v1 : Int32) (r : Unit) (S' : ST), k5 S v1 = some (r, S') → Agr wX11_readSum_130 S S') (S : ST) (v1 : Int32) (r : Unit) (S' : ST) (hm : bfX11_readTerm_130_41 x rec_X11_readSum rec_X11_readTerm rec_X11_readPart k5 S v1 = some (r, S')) : Agr wX11_readSum_130 S S' := by
    unfold bfX11_readTerm_130_41 at hm
    cases h1 : rec_X11_readPart S v1 with
    | none => rw [h1] at hm; cases hm
    | some q2 =>
      obtain ⟨r3, S4⟩ := q2
      rw [h1] at hm
      dsimp only at hm
      have a_S4 : Agr wX11_readSum_130 S S4 := Agr.tr Agr.rf (arec_X11_readPart S v1 _ _ h1)
      exact Agr.tr a_S4 (ak5 S4 v1 _ _ hm)
set_option maxHeartbeats 4000000 in
set_option maxRecDepth 20000 in
theorem fbX11_readTerm_130_5 (x : XT) (rec_X11_readSum : ST → Int32 → Option (Unit × ST)) (arec_X11_readSum : ∀ (S : ST) (z0 : Int32) (r : Unit) (S' : ST), rec_X11_readSum S z0 = some (r, S') → Agr wX11_readSum_130 S S') (rec_X11_readTerm : ST → Int32 → Option (Unit × ST)) (arec_X11_readTerm : ∀ (S : ST) (z0 : Int32) (r : Unit) (S' : ST), rec_X11_readTerm S z0 = some (r, S') → Agr wX11_readSum_130 S S') (rec_X11_readPart : ST → Int32 → Option (Unit × ST)) (arec_X11_readPart : ∀ (S : ST) (z0 : Int32) (r : Unit) (S' : ST), rec_X11_readPart S z0 = some (r, S') → Agr wX11_readSum_130 S S') (k5 : ST → Int32 → Option (Unit × ST)) (ak5 : ∀ (S : ST) (v1 : Int32) (r : Unit) (S' : ST), k5 S v1 = some (r, S') → Agr wX11_readSum_130 S S') (S : ST) (v1 : Int32) (r : Unit) (S' : ST) (hm : bfX11_readTerm_130_5 x rec_X11_readSum rec_X11_readTerm rec_X11_readPart k5 S v1 = some (r, S')) : Agr wX11_readSum_130 S S' := by
    unfold bfX11_readTerm_130_5 at hm
    cases h1 : gfX11_sign x S 42 with
    | none => rw [h1] at hm; cases hm
    | some q2 =>
      obtain ⟨r3, S4⟩ := q2
      rw [h1] at hm
      dsimp only at hm
      have a_S4 : Agr wX11_readSum_130 S S4 := Agr.tr Agr.rf (Agr.sub (frX11_sign x S 42 _ _ h1) (by decide))
      cases h5 : gfX11_takes0_130 x S4 r3 with
      | none => rw [h5] at hm; cases hm
      | some q6 =>
        obtain ⟨r7, S8⟩ := q6
        rw [h5] at hm
        dsimp only at hm
        have a_S8 : Agr wX11_readSum_130 S S8 := Agr.tr a_S4 (Agr.sub (frX11_takes0_130 x S4 r3 _ _ h5) (by decide))
        by_cases c9 : ¬ r7 = 0
        · rw [if_pos c9] at hm
          exact Agr.tr a_S8 (fbX11_readTerm_130_41 x rec_X11_readSum arec_X11_readSum rec_X11_readTerm arec_X11_readTerm rec_X11_readPart arec_X11_readPart k5 ak5 S8 v1 _ _ hm)
        · rw [if_neg c9] at hm
          cases h10 : gfX11_sign x S8 47 with
          | none => rw [h10] at hm; cases hm
          | some q11 =>
            obtain ⟨r12, S13⟩ := q11
            rw [h10] at hm
            dsimp only at hm
            have a_S13 : Agr wX11_readSum_130 S S13 := Agr.tr a_S8 (Agr.sub (frX11_sign x S8 47 _ _ h10) (by decide))
            cases h14 : gfX11_takes0_130 x S13 r12 with
            | none => rw [h14] at hm; cases hm
            | some q15 =>
              obtain ⟨r16, S17⟩ := q15
              rw [h14] at hm
              dsimp only at hm
              have a_S17 : Agr wX11_readSum_130 S S17 := Agr.tr a_S13 (Agr.sub (frX11_takes0_130 x S13 r12 _ _ h14) (by decide))
              by_cases c18 : ¬ r16 = 0
              · rw [if_pos c18] at hm
                exact Agr.tr a_S17 (fbX11_readTerm_130_41 x rec_X11_readSum arec_X11_readSum rec_X11_readTerm arec_X11_readTerm rec_X11_readPart arec_X11_readPart k5 ak5 S17 v1 _ _ hm)
              · rw [if_neg c18] at hm
                cases h19 : gfX11_sign x S17 37 with
                | none => rw [h19] at hm; cases hm
                | some q20 =>
                  obtain ⟨r21, S22⟩ := q20
                  rw [h19] at hm
                  dsimp only at hm
                  have a_S22 : Agr wX11_readSum_130 S S22 := Agr.tr a_S17 (Agr.sub (frX11_sign x S17 37 _ _ h19) (by decide))
                  cases h23 : gfX11_takes0_130 x S22 r21 with
                  | none => rw [h23] at hm; cases hm
                  | some q24 =>
                    obtain ⟨r25, S26⟩ := q24
                    rw [h23] at hm
                    dsimp only at hm
                    have a_S26 : Agr wX11_readSum_130 S S26 := Agr.tr a_S22 (Agr.sub (frX11_takes0_130 x S22 r21 _ _ h23) (by decide))
                    by_cases c27 : r25 = 0
                    · rw [if_pos c27] at hm
                      cases hm
                      exact a_S26
                    · rw [if_neg c27] at hm
                      exact Agr.tr a_S26 (fbX11_readTerm_130_41 x rec_X11_readSum arec_X11_readSum rec_X11_readTerm arec_X11_readTerm rec_X11_readPart arec_X11_readPart k5 ak5 S26 v1 _ _ hm)
theorem flX11_readTerm_130_5 (x : XT) (rec_X11_readSum : ST → Int32 → Option (Unit × ST)) (arec_X11_readSum : ∀ (S : ST) (z0 : Int32) (r : Unit) (S' : ST), rec_X11_readSum S z0 = some (r, S') → Agr wX11_readSum_130 S S') (rec_X11_readTerm : ST → Int32 → Option (Unit × ST)) (arec_X11_readTerm : ∀ (S : ST) (z0 : Int32) (r : Unit) (S' : ST), rec_X11_readTerm S z0 = some (r, S') → Agr wX11_readSum_130 S S') (rec_X11_readPart : ST → Int32 → Option (Unit × ST)) (arec_X11_readPart : ∀ (S : ST) (z0 : Int32) (r : Unit) (S' : ST), rec_X11_readPart S z0 = some (r, S') → Agr wX11_readSum_130 S S')  : ∀ (n : Nat) (S : ST) (v1 : Int32) (r : Unit) (S' : ST), lfX11_readTerm_130_5 x rec_X11_readSum rec_X11_readTerm rec_X11_readPart  n S v1 = some (r, S') → Agr wX11_readSum_130 S S'
  | 0, _, _, _, _, hm => by cases hm
  | n + 1, S, v1, r, S', hm => fbX11_readTerm_130_5 x rec_X11_readSum arec_X11_readSum rec_X11_readTerm arec_X11_readTerm rec_X11_readPart arec_X11_readPart (lfX11_readTerm_130_5 x rec_X11_readSum rec_X11_readTerm rec_X11_readPart  n) (flX11_readTerm_130_5 x rec_X11_readSum arec_X11_readSum rec_X11_readTerm arec_X11_readTerm rec_X11_readPart arec_X11_readPart  n) S v1 r S' hm
set_option maxHeartbeats 4000000 in
set_option maxRecDepth 20000 in
theorem fbX11_readTerm_130_0 (x : XT) (rec_X11_readSum : ST → Int32 → Option (Unit × ST)) (arec_X11_readSum : ∀ (S : ST) (z0 : Int32) (r : Unit) (S' : ST), rec_X11_readSum S z0 = some (r, S') → Agr wX11_readSum_130 S S') (rec_X11_readTerm : ST → Int32 → Option (Unit × ST)) (arec_X11_readTerm : ∀ (S : ST) (z0 : Int32) (r : Unit) (S' : ST), rec_X11_readTerm S z0 = some (r, S') → Agr wX11_readSum_130 S S') (rec_X11_readPart : ST → Int32 → Option (Unit × ST)) (arec_X11_readPart : ∀ (S : ST) (z0 : Int32) (r : Unit) (S' : ST), rec_X11_readPart S z0 = some (r, S') → Agr wX11_readSum_130 S S')  (S : ST) (p1 : Int32) (r : Unit) (S' : ST) (hm : bfX11_readTerm_130_0 x rec_X11_readSum rec_X11_readTerm rec_X11_readPart  S p1 = some (r, S')) : Agr wX11_readSum_130 S S' := by
    unfold bfX11_readTerm_130_0 at hm
    cases h1 : rec_X11_readPart S p1 with
    | none => rw [h1] at hm; cases hm
    | some q2 =>
      obtain ⟨r3, S4⟩ := q2
      rw [h1] at hm
      dsimp only at hm
      have a_S4 : Agr wX11_readSum_130 S S4 := Agr.tr Agr.rf (arec_X11_readPart S p1 _ _ h1)
      exact Agr.tr a_S4 (flX11_readTerm_130_5 x rec_X11_readSum arec_X11_readSum rec_X11_readTerm arec_X11_readTerm rec_X11_readPart arec_X11_readPart  20000 S4 p1 _ _ hm)
theorem frrX11_readTerm_130 (x : XT) (rec_X11_readSum : ST → Int32 → Option (Unit × ST)) (arec_X11_readSum : ∀ (S : ST) (z0 : Int32) (r : Unit) (S' : ST), rec_X11_readSum S z0 = some (r, S') → Agr wX11_readSum_130 S S') (rec_X11_readTerm : ST → Int32 → Option (Unit × ST)) (arec_X11_readTerm : ∀ (S : ST) (z0 : Int32) (r : Unit) (S' : ST), rec_X11_readTerm S z0 = some (r, S') → Agr wX11_readSum_130 S S') (rec_X11_readPart : ST → Int32 → Option (Unit × ST)) (arec_X11_readPart : ∀ (S : ST) (z0 : Int32) (r : Unit) (S' : ST), rec_X11_readPart S z0 = some (r, S') → Agr wX11_readSum_130 S S') (S : ST) (p1 : Int32) (r : Unit) (S' : ST) (hm : grfX11_readTerm_130 x rec_X11_readSum rec_X11_readTerm rec_X11_readPart S p1 = some (r, S')) : Agr wX11_readSum_130 S S' := fbX11_readTerm_130_0 x rec_X11_readSum arec_X11_readSum rec_X11_readTerm arec_X11_readTerm rec_X11_readPart arec_X11_readPart S p1 r S' hm
set_option maxHeartbeats 4000000 in
set_option maxRecDepth 20000 in
theorem fbX11_readPart_130_167 (x : XT) (rec_X11_readSum : ST → Int32 → Option (Unit × ST)) (arec_X11_readSum : ∀ (S : ST) (z0 : Int32) (r : Unit) (S' : ST), rec_X11_readSum S z0 = some (r, S') → Agr wX11_readSum_130 S S') (rec_X11_readTerm : ST → Int32 → Option (Unit × ST)) (arec_X11_readTerm : ∀ (S : ST) (z0 : Int32) (r : Unit) (S' : ST), rec_X11_readTerm S z0 = some (r, S') → Agr wX11_readSum_130 S S') (rec_X11_readPart : ST → Int32 → Option (Unit × ST)) (arec_X11_readPart : ∀ (S : ST) (z0 : Int32) (r : Unit) (S' : ST), rec_X11_readPart S z0 = some (r, S') → Agr wX11_readSum_130 S S')  (S : ST)  (r : Unit) (S' : ST) (hm : bfX11_readPart_130_167 x rec_X11_readSum rec_X11_readTerm rec_X11_readPart  S  = some (r, S')) : Agr wX11_readSum_130 S S' := by
    unfold bfX11_readPart_130_167 at hm
    cases hm
    exact Agr.rf
set_option maxHeartbeats 4000000 in
set_option maxRecDepth 20000 in
theorem fbX11_readPart_130_163 (x : XT) (rec_X11_readSum : ST → Int32 → Option (Unit × ST)) (arec_X11_readSum : ∀ (S : ST) (z0 : Int32) (r : Unit) (S' : ST), rec_X11_readSum S z0 = some (r, S') → Agr wX11_readSum_130 S S') (rec_X11_readTerm : ST → Int32 → Option (Unit × ST)) (arec_X11_readTerm : ∀ (S : ST) (z0 : Int32) (r : Unit) (S' : ST), rec_X11_readTerm S z0 = some (r, S') → Agr wX11_readSum_130 S S') (rec_X11_readPart : ST → Int32 → Option (Unit × ST)) (arec_X11_readPart : ∀ (S : ST) (z0 : Int32) (r : Unit) (S' : ST), rec_X11_readPart S z0 = some (r, S') → Agr wX11_readSum_130 S S')  (S : ST)  (r : Unit) (S' : ST) (hm : bfX11_readPart_130_163 x rec_X11_readSum rec_X11_readTerm rec_X11_readPart  S  = some (r, S')) : Agr wX11_readSum_130 S S' := by
    unfold bfX11_readPart_130_163 at hm
    cases h1 : gfX11_faults_130 x S with
    | none => rw [h1] at hm; cases hm
    | some q2 =>
      obtain ⟨r3, S4⟩ := q2
      rw [h1] at hm
      dsimp only at hm
      have a_S4 : Agr wX11_readSum_130 S S4 := Agr.tr Agr.rf (Agr.sub (frX11_faults_130 x S _ _ h1) (by decide))
      exact Agr.tr a_S4 (fbX11_readPart_130_167 x rec_X11_readSum arec_X11_readSum rec_X11_readTerm arec_X11_readTerm rec_X11_readPart arec_X11_readPart  S4 _ _ hm)
set_option maxHeartbeats 4000000 in
set_option maxRecDepth 20000 in
theorem fbX11_readPart_130_154 (x : XT) (rec_X11_readSum : ST → Int32 → Option (Unit × ST)) (arec_X11_readSum : ∀ (S : ST) (z0 : Int32) (r : Unit) (S' : ST), rec_X11_readSum S z0 = some (r, S') → Agr wX11_readSum_130 S S') (rec_X11_readTerm : ST → Int32 → Option (Unit × ST)) (arec_X11_readTerm : ∀ (S : ST) (z0 : Int32) (r : Unit) (S' : ST), rec_X11_readTerm S z0 = some (r, S') → Agr wX11_readSum_130 S S') (rec_X11_readPart : ST → Int32 → Option (Unit × ST)) (arec_X11_readPart : ∀ (S : ST) (z0 : Int32) (r : Unit) (S' : ST), rec_X11_readPart S z0 = some (r, S') → Agr wX11_readSum_130 S S')  (S : ST)  (r : Unit) (S' : ST) (hm : bfX11_readPart_130_154 x rec_X11_readSum rec_X11_readTerm rec_X11_readPart  S  = some (r, S')) : Agr wX11_readSum_130 S S' := by
    unfold bfX11_readPart_130_154 at hm
    cases h1 : gfX11_mustNumber_130 x S 0 4 with
    | none => rw [h1] at hm; cases hm
    | some q2 =>
      obtain ⟨r3, S4⟩ := q2
      rw [h1] at hm
      dsimp only at hm
      have a_S4 : Agr wX11_readSum_130 S S4 := Agr.tr Agr.rf (Agr.sub (frX11_mustNumber_130 x S 0 4 _ _ h1) (by decide))
      exact Agr.tr a_S4 (fbX11_readPart_130_167 x rec_X11_readSum arec_X11_readSum rec_X11_readTerm arec_X11_readTerm rec_X11_readPart arec_X11_readPart  S4 _ _ hm)
set_option maxHeartbeats 4000000 in
set_option maxRecDepth 20000 in
theorem fbX11_readPart_130_135 (x : XT) (rec_X11_readSum : ST → Int32 → Option (Unit × ST)) (arec_X11_readSum : ∀ (S : ST) (z0 : Int32) (r : Unit) (S' : ST), rec_X11_readSum S z0 = some (r, S') → Agr wX11_readSum_130 S S') (rec_X11_readTerm : ST → Int32 → Option (Unit × ST)) (arec_X11_readTerm : ∀ (S : ST) (z0 : Int32) (r : Unit) (S' : ST), rec_X11_readTerm S z0 = some (r, S') → Agr wX11_readSum_130 S S') (rec_X11_readPart : ST → Int32 → Option (Unit × ST)) (arec_X11_readPart : ∀ (S : ST) (z0 : Int32) (r : Unit) (S' : ST), rec_X11_readPart S z0 = some (r, S') → Agr wX11_readSum_130 S S')  (S : ST) (v2 : Int32) (r : Unit) (S' : ST) (hm : bfX11_readPart_130_135 x rec_X11_readSum rec_X11_readTerm rec_X11_readPart  S v2 = some (r, S')) : Agr wX11_readSum_130 S S' := by
    unfold bfX11_readPart_130_135 at hm
    by_cases c1 : (S.1 130 10) = 0
    · rw [if_pos c1] at hm
      exact Agr.tr Agr.rf (fbX11_readPart_130_167 x rec_X11_readSum arec_X11_readSum rec_X11_readTerm arec_X11_readTerm rec_X11_readPart arec_X11_readPart  S _ _ hm)
    · rw [if_neg c1] at hm
      by_cases c2 : v2 = 14
      · rw [if_pos c2] at hm
        exact Agr.tr Agr.rf (fbX11_readPart_130_154 x rec_X11_readSum arec_X11_readSum rec_X11_readTerm arec_X11_readTerm rec_X11_readPart arec_X11_readPart  S _ _ hm)
      · rw [if_neg c2] at hm
        by_cases c3 : ¬ v2 = 19
        · rw [if_pos c3] at hm
          exact Agr.tr Agr.rf (fbX11_readPart_130_167 x rec_X11_readSum arec_X11_readSum rec_X11_readTerm arec_X11_readTerm rec_X11_readPart arec_X11_readPart  S _ _ hm)
        · rw [if_neg c3] at hm
          exact Agr.tr Agr.rf (fbX11_readPart_130_154 x rec_X11_readSum arec_X11_readSum rec_X11_readTerm arec_X11_readTerm rec_X11_readPart arec_X11_readPart  S _ _ hm)
set_option maxHeartbeats 4000000 in
set_option maxRecDepth 20000 in
theorem fbX11_readPart_130_111 (x : XT) (rec_X11_readSum : ST → Int32 → Option (Unit × ST)) (arec_X11_readSum : ∀ (S : ST) (z0 : Int32) (r : Unit) (S' : ST), rec_X11_readSum S z0 = some (r, S') → Agr wX11_readSum_130 S S') (rec_X11_readTerm : ST → Int32 → Option (Unit × ST)) (arec_X11_readTerm : ∀ (S : ST) (z0 : Int32) (r : Unit) (S' : ST), rec_X11_readTerm S z0 = some (r, S') → Agr wX11_readSum_130 S S') (rec_X11_readPart : ST → Int32 → Option (Unit × ST)) (arec_X11_readPart : ∀ (S : ST) (z0 : Int32) (r : Unit) (S' : ST), rec_X11_readPart S z0 = some (r, S') → Agr wX11_readSum_130 S S')  (S : ST) (v2 : Int32) (r : Unit) (S' : ST) (hm : bfX11_readPart_130_111 x rec_X11_readSum rec_X11_readTerm rec_X11_readPart  S v2 = some (r, S')) : Agr wX11_readSum_130 S S' := by
    unfold bfX11_readPart_130_111 at hm
    cases h1 : gfX11_leaf_130 x S with
    | none => rw [h1] at hm; cases hm
    | some q2 =>
      obtain ⟨r3, S4⟩ := q2
      rw [h1] at hm
      dsimp only at hm
      have a_S4 : Agr wX11_readSum_130 S S4 := Agr.tr Agr.rf (Agr.sub (frX11_leaf_130 x S _ _ h1) (by decide))
      by_cases c5 : (S4.1 130 10) = 0
      · rw [if_pos c5] at hm
        exact Agr.tr a_S4 (fbX11_readPart_130_135 x rec_X11_readSum arec_X11_readSum rec_X11_readTerm arec_X11_readTerm rec_X11_readPart arec_X11_readPart  S4 v2 _ _ hm)
      · rw [if_neg c5] at hm
        by_cases c6 : ¬ v2 = 13
        · rw [if_pos c6] at hm
          exact Agr.tr a_S4 (fbX11_readPart_130_135 x rec_X11_readSum arec_X11_readSum rec_X11_readTerm arec_X11_readTerm rec_X11_readPart arec_X11_readPart  S4 v2 _ _ hm)
        · rw [if_neg c6] at hm
          cases h7 : gfX11_mustNumber_130 x S4 0 9 with
          | none => rw [h7] at hm; cases hm
          | some q8 =>
            obtain ⟨r9, S10⟩ := q8
            rw [h7] at hm
            dsimp only at hm
            have a_S10 : Agr wX11_readSum_130 S S10 := Agr.tr a_S4 (Agr.sub (frX11_mustNumber_130 x S4 0 9 _ _ h7) (by decide))
            exact Agr.tr a_S10 (fbX11_readPart_130_135 x rec_X11_readSum arec_X11_readSum rec_X11_readTerm arec_X11_readTerm rec_X11_readPart arec_X11_readPart  S10 v2 _ _ hm)
set_option maxHeartbeats 4000000 in
set_option maxRecDepth 20000 in
theorem fbX11_readPart_130_95 (x : XT) (rec_X11_readSum : ST → Int32 → Option (Unit × ST)) (arec_X11_readSum : ∀ (S : ST) (z0 : Int32) (r : Unit) (S' : ST), rec_X11_readSum S z0 = some (r, S') → Agr wX11_readSum_130 S S') (rec_X11_readTerm : ST → Int32 → Option (Unit × ST)) (arec_X11_readTerm : ∀ (S : ST) (z0 : Int32) (r : Unit) (S' : ST), rec_X11_readTerm S z0 = some (r, S') → Agr wX11_readSum_130 S S') (rec_X11_readPart : ST → Int32 → Option (Unit × ST)) (arec_X11_readPart : ∀ (S : ST) (z0 : Int32) (r : Unit) (S' : ST), rec_X11_readPart S z0 = some (r, S') → Agr wX11_readSum_130 S S')  (S : ST) (v2 : Int32) (r : Unit) (S' : ST) (hm : bfX11_readPart_130_95 x rec_X11_readSum rec_X11_readTerm rec_X11_readPart  S v2 = some (r, S')) : Agr wX11_readSum_130 S S' := by
    unfold bfX11_readPart_130_95 at hm
    by_cases c1 : v2 < (S.1 130 8)
    · rw [if_pos c1] at hm
      exact Agr.tr Agr.rf (fbX11_readPart_130_163 x rec_X11_readSum arec_X11_readSum rec_X11_readTerm arec_X11_readTerm rec_X11_readPart arec_X11_readPart  S _ _ hm)
    · rw [if_neg c1] at hm
      by_cases c2 : (S.1 130 9) < v2
      · rw [if_pos c2] at hm
        exact Agr.tr Agr.rf (fbX11_readPart_130_163 x rec_X11_readSum arec_X11_readSum rec_X11_readTerm arec_X11_readTerm rec_X11_readPart arec_X11_readPart  S _ _ hm)
      · rw [if_neg c2] at hm
        exact Agr.tr Agr.rf (fbX11_readPart_130_111 x rec_X11_readSum arec_X11_readSum rec_X11_readTerm arec_X11_readTerm rec_X11_readPart arec_X11_readPart  S v2 _ _ hm)
set_option maxHeartbeats 4000000 in
set_option maxRecDepth 20000 in
theorem fbX11_readPart_130_37 (x : XT) (rec_X11_readSum : ST → Int32 → Option (Unit × ST)) (arec_X11_readSum : ∀ (S : ST) (z0 : Int32) (r : Unit) (S' : ST), rec_X11_readSum S z0 = some (r, S') → Agr wX11_readSum_130 S S') (rec_X11_readTerm : ST → Int32 → Option (Unit × ST)) (arec_X11_readTerm : ∀ (S : ST) (z0 : Int32) (r : Unit) (S' : ST), rec_X11_readTerm S z0 = some (r, S') → Agr wX11_readSum_130 S S') (rec_X11_readPart : ST → Int32 → Option (Unit × ST)) (arec_X11_readPart : ∀ (S : ST) (z0 : Int32) (r : Unit) (S' : ST), rec_X11_readPart S z0 = some (r, S') → Agr wX11_readSum_130 S S')  (S : ST) (v1 : Int32) (r : Unit) (S' : ST) (hm : bfX11_readPart_130_37 x rec_X11_readSum rec_X11_readTerm rec_X11_readPart  S v1 = some (r, S')) : Agr wX11_readSum_130 S S' := by
    unfold bfX11_readPart_130_37 at hm
    cases h1 : gfX11_fine_130 x S with
    | none => rw [h1] at hm; cases hm
    | some q2 =>
      obtain ⟨r3, S4⟩ := q2
      rw [h1] at hm
      dsimp only at hm
      have a_S4 : Agr wX11_readSum_130 S S4 := Agr.tr Agr.rf (Agr.sub (frX11_fine_130 x S _ _ h1) (by decide))
      by_cases c5 : ¬ r3 = 0
      · rw [if_pos c5] at hm
        cases h6 : rec_X11_readSum ((u2 S4.1 130 19 ((S4.1 130 19) + 1)), S4.2.1, S4.2.2.1, S4.2.2.2) (v1 + 1) with
        | none => rw [h6] at hm; cases hm
        | some q7 =>
          obtain ⟨r8, S9⟩ := q7
          rw [h6] at hm
          dsimp only at hm
          have a_S9 : Agr wX11_readSum_130 S S9 := Agr.tr (Agr.f a_S4 130 19 ((S4.1 130 19) + 1) (by decide)) (arec_X11_readSum ((u2 S4.1 130 19 ((S4.1 130 19) + 1)), S4.2.1, S4.2.2.1, S4.2.2.2) (v1 + 1) _ _ h6)
          cases h10 : gfX11_sign x S9 93 with
          | none => rw [h10] at hm; cases hm
          | some q11 =>
            obtain ⟨r12, S13⟩ := q11
            rw [h10] at hm
            dsimp only at hm
            have a_S13 : Agr wX11_readSum_130 S S13 := Agr.tr a_S9 (Agr.sub (frX11_sign x S9 93 _ _ h10) (by decide))
            cases h14 : gfX11_must_130 x S13 r12 with
            | none => rw [h14] at hm; cases hm
            | some q15 =>
              obtain ⟨r16, S17⟩ := q15
              rw [h14] at hm
              dsimp only at hm
              have a_S17 : Agr wX11_readSum_130 S S17 := Agr.tr a_S13 (Agr.sub (frX11_must_130 x S13 r12 _ _ h14) (by decide))
              exact Agr.tr a_S17 (fbX11_readPart_130_167 x rec_X11_readSum arec_X11_readSum rec_X11_readTerm arec_X11_readTerm rec_X11_readPart arec_X11_readPart  S17 _ _ hm)
      · rw [if_neg c5] at hm
        cases hm
        exact a_S4
set_option maxHeartbeats 4000000 in
set_option maxRecDepth 20000 in
theorem fbX11_readPart_130_0 (x : XT) (rec_X11_readSum : ST → Int32 → Option (Unit × ST)) (arec_X11_readSum : ∀ (S : ST) (z0 : Int32) (r : Unit) (S' : ST), rec_X11_readSum S z0 = some (r, S') → Agr wX11_readSum_130 S S') (rec_X11_readTerm : ST → Int32 → Option (Unit × ST)) (arec_X11_readTerm : ∀ (S : ST) (z0 : Int32) (r : Unit) (S' : ST), rec_X11_readTerm S z0 = some (r, S') → Agr wX11_readSum_130 S S') (rec_X11_readPart : ST → Int32 → Option (Unit × ST)) (arec_X11_readPart : ∀ (S : ST) (z0 : Int32) (r : Unit) (S' : ST), rec_X11_readPart S z0 = some (r, S') → Agr wX11_readSum_130 S S')  (S : ST) (p1 : Int32) (r : Unit) (S' : ST) (hm : bfX11_readPart_130_0 x rec_X11_readSum rec_X11_readTerm rec_X11_readPart  S p1 = some (r, S')) : Agr wX11_readSum_130 S S' := by
    unfold bfX11_readPart_130_0 at hm
    cases h1 : gfX11_fine_130 x S with
    | none => rw [h1] at hm; cases hm
    | some q2 =>
      obtain ⟨r3, S4⟩ := q2
      rw [h1] at hm
      dsimp only at hm
      have a_S4 : Agr wX11_readSum_130 S S4 := Agr.tr Agr.rf (Agr.sub (frX11_fine_130 x S _ _ h1) (by decide))
      by_cases c5 : ¬ r3 = 0
      · rw [if_pos c5] at hm
        obtain ⟨o6, hm⟩ := oblk hm
        cases h7 : gfX11_sign x S4 91 with
        | none => rw [h7] at hm; cases hm
        | some q8 =>
          obtain ⟨r9, S10⟩ := q8
          rw [h7] at hm
          dsimp only at hm
          have a_S10 : Agr wX11_readSum_130 S S10 := Agr.tr a_S4 (Agr.sub (frX11_sign x S4 91 _ _ h7) (by decide))
          by_cases c11 : ¬ (S4.2.1 139 ((S4.1 130 19).toNatClampNeg)) = r9
          · rw [if_pos c11] at hm
            by_cases c12 : ¬ (S4.2.1 139 ((S4.1 130 19).toNatClampNeg)) = 50
            · rw [if_pos c12] at hm
              exact Agr.tr a_S10 (fbX11_readPart_130_95 x rec_X11_readSum arec_X11_readSum rec_X11_readTerm arec_X11_readTerm rec_X11_readPart arec_X11_readPart  S10 (S4.2.1 139 ((S4.1 130 19).toNatClampNeg)) _ _ hm)
            · rw [if_neg c12] at hm
              obtain ⟨o13, hm⟩ := oblk hm
              by_cases c14 : (S10.2.1 140 ((S10.1 130 19).toNatClampNeg)) ≤ 1000
              · rw [if_pos c14] at hm
                exact Agr.tr a_S10 (fbX11_readPart_130_111 x rec_X11_readSum arec_X11_readSum rec_X11_readTerm arec_X11_readTerm rec_X11_readPart arec_X11_readPart  S10 (S4.2.1 139 ((S4.1 130 19).toNatClampNeg)) _ _ hm)
              · rw [if_neg c14] at hm
                exact Agr.tr a_S10 (fbX11_readPart_130_95 x rec_X11_readSum arec_X11_readSum rec_X11_readTerm arec_X11_readTerm rec_X11_readPart arec_X11_readPart  S10 (S4.2.1 139 ((S4.1 130 19).toNatClampNeg)) _ _ hm)
          · rw [if_neg c11] at hm
            by_cases c15 : ¬ p1 = 8
            · rw [if_pos c15] at hm
              exact Agr.tr a_S10 (fbX11_readPart_130_37 x rec_X11_readSum arec_X11_readSum rec_X11_readTerm arec_X11_readTerm rec_X11_readPart arec_X11_readPart  S10 p1 _ _ hm)
            · rw [if_neg c15] at hm
              cases h16 : gfX11_faults_130 x S10 with
              | none => rw [h16] at hm; cases hm
              | some q17 =>
                obtain ⟨r18, S19⟩ := q17
                rw [h16] at hm
                dsimp only at hm
                have a_S19 : Agr wX11_readSum_130 S S19 := Agr.tr a_S10 (Agr.sub (frX11_faults_130 x S10 _ _ h16) (by decide))
                exact Agr.tr a_S19 (fbX11_readPart_130_37 x rec_X11_readSum arec_X11_readSum rec_X11_readTerm arec_X11_readTerm rec_X11_readPart arec_X11_readPart  S19 p1 _ _ hm)
      · rw [if_neg c5] at hm
        cases hm
        exact a_S4
theorem frrX11_readPart_130 (x : XT) (rec_X11_readSum : ST → Int32 → Option (Unit × ST)) (arec_X11_readSum : ∀ (S : ST) (z0 : Int32) (r : Unit) (S' : ST), rec_X11_readSum S z0 = some (r, S') → Agr wX11_readSum_130 S S') (rec_X11_readTerm : ST → Int32 → Option (Unit × ST)) (arec_X11_readTerm : ∀ (S : ST) (z0 : Int32) (r : Unit) (S' : ST), rec_X11_readTerm S z0 = some (r, S') → Agr wX11_readSum_130 S S') (rec_X11_readPart : ST → Int32 → Option (Unit × ST)) (arec_X11_readPart : ∀ (S : ST) (z0 : Int32) (r : Unit) (S' : ST), rec_X11_readPart S z0 = some (r, S') → Agr wX11_readSum_130 S S') (S : ST) (p1 : Int32) (r : Unit) (S' : ST) (hm : grfX11_readPart_130 x rec_X11_readSum rec_X11_readTerm rec_X11_readPart S p1 = some (r, S')) : Agr wX11_readSum_130 S S' := fbX11_readPart_130_0 x rec_X11_readSum arec_X11_readSum rec_X11_readTerm arec_X11_readTerm rec_X11_readPart arec_X11_readPart S p1 r S' hm
theorem frqX11_readSum_130 (x : XT) (n : Nat) : (∀ (S : ST) (a b : Int32) (r : Unit) (S' : ST), gqX11_readSum_130 x n 0 S a b = some (r, S') → Agr wX11_readSum_130 S S') ∧ (∀ (S : ST) (a b : Int32) (r : Unit) (S' : ST), gqX11_readSum_130 x n 1 S a b = some (r, S') → Agr wX11_readSum_130 S S') ∧ (∀ (S : ST) (a b : Int32) (r : Unit) (S' : ST), gqX11_readSum_130 x n 2 S a b = some (r, S') → Agr wX11_readSum_130 S S') := by
  induction n with
  | zero => exact ⟨(fun _ _ _ _ _ hm => (by cases hm)), (fun _ _ _ _ _ hm => (by cases hm)), (fun _ _ _ _ _ hm => (by cases hm))⟩
  | succ n ih =>
    refine ⟨?_, ?_, ?_⟩
    · intro S a b r S' hm
      rw [gqX11_readSum_130] at hm
      rw [show Nat.beq 0 0 = true from rfl, cond_true] at hm
      exact frrX11_readSum_130 x (fun S z0 => gqX11_readSum_130 x n 0 S z0 0) (fun S z0 r S' h => ih.1 S z0 0 r S' h) (fun S z0 => gqX11_readSum_130 x n 1 S z0 0) (fun S z0 r S' h => ih.2.1 S z0 0 r S' h) (fun S z0 => gqX11_readSum_130 x n 2 S z0 0) (fun S z0 r S' h => ih.2.2 S z0 0 r S' h) S a r S' hm
    · intro S a b r S' hm
      rw [gqX11_readSum_130] at hm
      rw [show Nat.beq 1 0 = false from rfl, cond_false, show Nat.beq 1 1 = true from rfl, cond_true] at hm
      exact frrX11_readTerm_130 x (fun S z0 => gqX11_readSum_130 x n 0 S z0 0) (fun S z0 r S' h => ih.1 S z0 0 r S' h) (fun S z0 => gqX11_readSum_130 x n 1 S z0 0) (fun S z0 r S' h => ih.2.1 S z0 0 r S' h) (fun S z0 => gqX11_readSum_130 x n 2 S z0 0) (fun S z0 r S' h => ih.2.2 S z0 0 r S' h) S a r S' hm
    · intro S a b r S' hm
      rw [gqX11_readSum_130] at hm
      rw [show Nat.beq 2 0 = false from rfl, cond_false, show Nat.beq 2 1 = false from rfl, cond_false, show Nat.beq 2 2 = true from rfl, cond_true] at hm
      exact frrX11_readPart_130 x (fun S z0 => gqX11_readSum_130 x n 0 S z0 0) (fun S z0 r S' h => ih.1 S z0 0 r S' h) (fun S z0 => gqX11_readSum_130 x n 1 S z0 0) (fun S z0 r S' h => ih.2.1 S z0 0 r S' h) (fun S z0 => gqX11_readSum_130 x n 2 S z0 0) (fun S z0 r S' h => ih.2.2 S z0 0 r S' h) S a r S' hm
theorem frX11_readSum_130 (x : XT) (S : ST) (p1 : Int32) (r : Unit) (S' : ST) (hm : gfX11_readSum_130 x S p1 = some (r, S')) : Agr wX11_readSum_130 S S' :=
  (frqX11_readSum_130 x 60).1 S p1 0 r S' hm
theorem frX11_readTerm_130 (x : XT) (S : ST) (p1 : Int32) (r : Unit) (S' : ST) (hm : gfX11_readTerm_130 x S p1 = some (r, S')) : Agr wX11_readSum_130 S S' :=
  (frqX11_readSum_130 x 60).2.1 S p1 0 r S' hm
theorem frX11_readPart_130 (x : XT) (S : ST) (p1 : Int32) (r : Unit) (S' : ST) (hm : gfX11_readPart_130 x S p1 = some (r, S')) : Agr wX11_readSum_130 S S' :=
  (frqX11_readSum_130 x 60).2.2 S p1 0 r S' hm
end FRA
