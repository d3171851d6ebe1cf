section FRA
def wX8_take_18 : List (Nat × Nat) × List Nat × List Nat × List Nat := ([(18, 1)], [19], [], [])
set_option maxHeartbeats 4000000 in
set_option maxRecDepth 20000 in
theorem fbX8_take_18_0 (x : XT)  (S : ST) (p1 : Int32) (p2 : Int32) (p3 : Int32) (p4 : Int32) (p5 : Int32) (r : Int32) (S' : ST) (hm : bfX8_take_18_0 x  S p1 p2 p3 p4 p5 = some (r, S')) : Agr wX8_take_18 S S' := by
    unfold bfX8_take_18_0 at hm
    by_cases c1 : (S.1 18 1) ≤ 380
    · rw [if_pos c1] at hm
      cases h2 : gfX8_takeFour_18 x S p1 with
      | none => rw [h2] at hm; cases hm
      | some q3 =>
        obtain ⟨r4, S5⟩ := q3
        rw [h2] at hm
        dsimp only at hm
        have a_S5 : Agr wX8_take_18 S S5 := Agr.tr Agr.rf (Agr.sub (frX8_takeFour_18 x S p1 _ _ h2) (by decide))
        cases h6 : gfX8_takeFour_18 x S5 p2 with
        | none => rw [h6] at hm; cases hm
        | some q7 =>
          obtain ⟨r8, S9⟩ := q7
          rw [h6] at hm
          dsimp only at hm
          have a_S9 : Agr wX8_take_18 S S9 := Agr.tr a_S5 (Agr.sub (frX8_takeFour_18 x S5 p2 _ _ h6) (by decide))
          cases h10 : gfX8_takeFour_18 x S9 p3 with
          | none => rw [h10] at hm; cases hm
          | some q11 =>
            obtain ⟨r12, S13⟩ := q11
            rw [h10] at hm
            dsimp only at hm
            have a_S13 : Agr wX8_take_18 S S13 := Agr.tr a_S9 (Agr.sub (frX8_takeFour_18 x S9 p3 _ _ h10) (by decide))
            cases h14 : gfX8_takeFour_18 x S13 p4 with
            | none => rw [h14] at hm; cases hm
            | some q15 =>
              obtain ⟨r16, S17⟩ := q15
              rw [h14] at hm
              dsimp only at hm
              have a_S17 : Agr wX8_take_18 S S17 := Agr.tr a_S13 (Agr.sub (frX8_takeFour_18 x S13 p4 _ _ h14) (by decide))
              cases h18 : gfX8_takeFour_18 x S17 p5 with
              | none => rw [h18] at hm; cases hm
              | some q19 =>
                obtain ⟨r20, S21⟩ := q19
                rw [h18] at hm
                dsimp only at hm
                have a_S21 : Agr wX8_take_18 S S21 := Agr.tr a_S17 (Agr.sub (frX8_takeFour_18 x S17 p5 _ _ h18) (by decide))
                cases hm
                exact a_S21
    · rw [if_neg c1] at hm
      cases hm
      exact Agr.rf
theorem frX8_take_18 (x : XT) (S : ST) (p1 : Int32) (p2 : Int32) (p3 : Int32) (p4 : Int32) (p5 : Int32) (r : Int32) (S' : ST) (hm : gfX8_take_18 x S p1 p2 p3 p4 p5 = some (r, S')) : Agr wX8_take_18 S S' := fbX8_take_18_0 x S p1 p2 p3 p4 p5 r S' hm
def wX10_feed_0 : List (Nat × Nat) × List Nat × List Nat × List Nat := ([(18, 1)], [19], [], [])
set_option maxHeartbeats 4000000 in
set_option maxRecDepth 20000 in
theorem fbX10_feed_0_0 (x : XT)  (S : ST) (p1 : Int32) (p2 : Int32) (p3 : Int32) (p4 : Int32) (p5 : Int32) (r : Int32) (S' : ST) (hm : bfX10_feed_0_0 x  S p1 p2 p3 p4 p5 = some (r, S')) : Agr wX10_feed_0 S S' := by
    unfold bfX10_feed_0_0 at hm
    cases h1 : gfX8_take_18 x S p1 p2 p3 p4 p5 with
    | none => rw [h1] at hm; cases hm
    | some q2 =>
      obtain ⟨r3, S4⟩ := q2
      rw [h1] at hm
      dsimp only at hm
      have a_S4 : Agr wX10_feed_0 S S4 := Agr.tr Agr.rf (Agr.sub (frX8_take_18 x S p1 p2 p3 p4 p5 _ _ h1) (by decide))
      cases hm
      exact a_S4
theorem frX10_feed_0 (x : XT) (S : ST) (p1 : Int32) (p2 : Int32) (p3 : Int32) (p4 : Int32) (p5 : Int32) (r : Int32) (S' : ST) (hm : gfX10_feed_0 x S p1 p2 p3 p4 p5 = some (r, S')) : Agr wX10_feed_0 S S' := fbX10_feed_0_0 x S p1 p2 p3 p4 p5 r S' hm
def wX8_shorten_18 : List (Nat × Nat) × List Nat × List Nat × List Nat := ([(18, 1)], [], [], [])
set_option maxHeartbeats 4000000 in
set_option maxRecDepth 20000 in
theorem fbX8_shorten_18_12 (x : XT)  (S : ST)  (r : Int32) (S' : ST) (hm : bfX8_shorten_18_12 x  S  = some (r, S')) : Agr wX8_shorten_18 S S' := by
    unfold bfX8_shorten_18_12 at hm
    cases hm
    exact Agr.rf
set_option maxHeartbeats 4000000 in
set_option maxRecDepth 20000 in
theorem fbX8_shorten_18_0 (x : XT)  (S : ST) (p1 : Int32) (r : Int32) (S' : ST) (hm : bfX8_shorten_18_0 x  S p1 = some (r, S')) : Agr wX8_shorten_18 S S' := by
    unfold bfX8_shorten_18_0 at hm
    by_cases c1 : p1 < 0
    · rw [if_pos c1] at hm
      exact Agr.tr Agr.rf (fbX8_shorten_18_12 x  S _ _ hm)
    · rw [if_neg c1] at hm
      by_cases c2 : p1 ≤ (S.1 18 1)
      · rw [if_pos c2] at hm
        cases hm
        exact (Agr.f Agr.rf 18 1 p1 (by decide))
      · rw [if_neg c2] at hm
        exact Agr.tr Agr.rf (fbX8_shorten_18_12 x  S _ _ hm)
theorem frX8_shorten_18 (x : XT) (S : ST) (p1 : Int32) (r : Int32) (S' : ST) (hm : gfX8_shorten_18 x S p1 = some (r, S')) : Agr wX8_shorten_18 S S' := fbX8_shorten_18_0 x S p1 r S' hm
def wX10_end_0 : List (Nat × Nat) × List Nat × List Nat × List Nat := ([(18, 1)], [], [], [])
set_option maxHeartbeats 4000000 in
set_option maxRecDepth 20000 in
theorem fbX10_end_0_0 (x : XT)  (S : ST) (p1 : Int32) (r : Int32) (S' : ST) (hm : bfX10_end_0_0 x  S p1 = some (r, S')) : Agr wX10_end_0 S S' := by
    unfold bfX10_end_0_0 at hm
    cases h1 : gfX8_shorten_18 x S p1 with
    | none => rw [h1] at hm; cases hm
    | some q2 =>
      obtain ⟨r3, S4⟩ := q2
      rw [h1] at hm
      dsimp only at hm
      have a_S4 : Agr wX10_end_0 S S4 := Agr.tr Agr.rf (Agr.sub (frX8_shorten_18 x S p1 _ _ h1) (by decide))
      cases hm
      exact a_S4
theorem frX10_end_0 (x : XT) (S : ST) (p1 : Int32) (r : Int32) (S' : ST) (hm : gfX10_end_0 x S p1 = some (r, S')) : Agr wX10_end_0 S S' := fbX10_end_0_0 x S p1 r S' hm
def wX8_clear_18 : List (Nat × Nat) × List Nat × List Nat × List Nat := ([(18, 1)], [], [], [])
set_option maxHeartbeats 4000000 in
set_option maxRecDepth 20000 in
theorem fbX8_clear_18_0 (x : XT)  (S : ST)  (r : Unit) (S' : ST) (hm : bfX8_clear_18_0 x  S  = some (r, S')) : Agr wX8_clear_18 S S' := by
    unfold bfX8_clear_18_0 at hm
    cases hm
    exact (Agr.f Agr.rf 18 1 0 (by decide))
theorem frX8_clear_18 (x : XT) (S : ST)  (r : Unit) (S' : ST) (hm : gfX8_clear_18 x S  = some (r, S')) : Agr wX8_clear_18 S S' := fbX8_clear_18_0 x S  r S' hm
def wX8_byteAt_18 : List (Nat × Nat) × List Nat × List Nat × List Nat := ([], [], [], [])
set_option maxHeartbeats 4000000 in
set_option maxRecDepth 20000 in
theorem fbX8_byteAt_18_22 (x : XT)  (S : ST) (t0 : Int32) (r : Int32) (S' : ST) (hm : bfX8_byteAt_18_22 x  S t0 = some (r, S')) : Agr wX8_byteAt_18 S S' := by
    unfold bfX8_byteAt_18_22 at hm
    cases hm
    exact Agr.rf
set_option maxHeartbeats 4000000 in
set_option maxRecDepth 20000 in
theorem fbX8_byteAt_18_21 (x : XT)  (S : ST)  (r : Int32) (S' : ST) (hm : bfX8_byteAt_18_21 x  S  = some (r, S')) : Agr wX8_byteAt_18 S S' := by
    unfold bfX8_byteAt_18_21 at hm
    exact Agr.tr Agr.rf (fbX8_byteAt_18_22 x  S (-1) _ _ hm)
set_option maxHeartbeats 4000000 in
set_option maxRecDepth 20000 in
theorem fbX8_byteAt_18_0 (x : XT)  (S : ST) (p1 : Int32) (r : Int32) (S' : ST) (hm : bfX8_byteAt_18_0 x  S p1 = some (r, S')) : Agr wX8_byteAt_18 S S' := by
    unfold bfX8_byteAt_18_0 at hm
    by_cases c1 : p1 < 0
    · rw [if_pos c1] at hm
      exact Agr.tr Agr.rf (fbX8_byteAt_18_21 x  S _ _ hm)
    · rw [if_neg c1] at hm
      by_cases c2 : (S.1 18 1) ≤ p1
      · rw [if_pos c2] at hm
        exact Agr.tr Agr.rf (fbX8_byteAt_18_21 x  S _ _ hm)
      · rw [if_neg c2] at hm
        obtain ⟨o3, hm⟩ := oblk hm
        exact Agr.tr Agr.rf (fbX8_byteAt_18_22 x  S (S.2.1 19 p1.toNatClampNeg) _ _ hm)
theorem frX8_byteAt_18 (x : XT) (S : ST) (p1 : Int32) (r : Int32) (S' : ST) (hm : gfX8_byteAt_18 x S p1 = some (r, S')) : Agr wX8_byteAt_18 S S' := fbX8_byteAt_18_0 x S p1 r S' hm
def wX10_row_0 : List (Nat × Nat) × List Nat × List Nat × List Nat := ([(0, 12), (0, 15), (1, 0), (18, 1), (33, 0)], [2, 3, 4, 5, 6, 99], [], [])
set_option maxHeartbeats 4000000 in
set_option maxRecDepth 20000 in
theorem fbX10_row_0_101 (x : XT) (k26 : ST → Int32 → Int32 → Option (Int32 × ST)) (ak26 : ∀ (S : ST) (v1 : Int32) (v2 : Int32) (r : Int32) (S' : ST), k26 S v1 v2 = some (r, S') → Agr wX10_row_0 S S') (S : ST) (v1 : Int32) (v2 : Int32) (r : Int32) (S' : ST) (hm : bfX10_row_0_101 x k26 S v1 v2 = some (r, S')) : Agr wX10_row_0 S S' := by
    unfold bfX10_row_0_101 at hm
    exact Agr.tr Agr.rf (ak26 S v1 (v2 + 4) _ _ hm)
set_option maxHeartbeats 4000000 in
set_option maxRecDepth 20000 in
theorem fbX10_row_0_26 (x : XT) (k26 : ST → Int32 → Int32 → Option (Int32 × ST)) (ak26 : ∀ (S : ST) (v1 : Int32) (v2 : Int32) (r : Int32) (S' : ST), k26 S v1 v2 = some (r, S') → Agr wX10_row_0 S S') (S : ST) (v1 : Int32) (v2 : Int32) (r : Int32) (S' : ST) (hm : bfX10_row_0_26 x k26 S v1 v2 = some (r, S')) : Agr wX10_row_0 S S' := by
    unfold bfX10_row_0_26 at hm
    by_cases c1 : (S.1 18 1) ≤ v2
    · rw [if_pos c1] at hm
      cases h2 : gfX8_clear_18 x S with
      | none => rw [h2] at hm; cases hm
      | some q3 =>
        obtain ⟨r4, S5⟩ := q3
        rw [h2] at hm
        dsimp only at hm
        have a_S5 : Agr wX10_row_0 S S5 := Agr.tr Agr.rf (Agr.sub (frX8_clear_18 x S _ _ h2) (by decide))
        cases h6 : gfX10_toldAnew_0 x S5 v1 with
        | none => rw [h6] at hm; cases hm
        | some q7 =>
          obtain ⟨r8, S9⟩ := q7
          rw [h6] at hm
          dsimp only at hm
          have a_S9 : Agr wX10_row_0 S S9 := Agr.tr a_S5 (Agr.sub (frX10_toldAnew_0 x S5 v1 _ _ h6) (by decide))
          cases hm
          exact a_S9
    · rw [if_neg c1] at hm
      cases h10 : gfX8_byteAt_18 x S v2 with
      | none => rw [h10] at hm; cases hm
      | some q11 =>
        obtain ⟨r12, S13⟩ := q11
        rw [h10] at hm
        dsimp only at hm
        have a_S13 : Agr wX10_row_0 S S13 := Agr.tr Agr.rf (Agr.sub (frX8_byteAt_18 x S v2 _ _ h10) (by decide))
        cases h14 : gfX8_byteAt_18 x S13 (v2 + 1) with
        | none => rw [h14] at hm; cases hm
        | some q15 =>
          obtain ⟨r16, S17⟩ := q15
          rw [h14] at hm
          dsimp only at hm
          have a_S17 : Agr wX10_row_0 S S17 := Agr.tr a_S13 (Agr.sub (frX8_byteAt_18 x S13 (v2 + 1) _ _ h14) (by decide))
          cases h18 : gfX8_byteAt_18 x S17 (v2 + 2) with
          | none => rw [h18] at hm; cases hm
          | some q19 =>
            obtain ⟨r20, S21⟩ := q19
            rw [h18] at hm
            dsimp only at hm
            have a_S21 : Agr wX10_row_0 S S21 := Agr.tr a_S17 (Agr.sub (frX8_byteAt_18 x S17 (v2 + 2) _ _ h18) (by decide))
            cases h22 : gfX8_byteAt_18 x S21 (v2 + 3) with
            | none => rw [h22] at hm; cases hm
            | some q23 =>
              obtain ⟨r24, S25⟩ := q23
              rw [h22] at hm
              dsimp only at hm
              have a_S25 : Agr wX10_row_0 S S25 := Agr.tr a_S21 (Agr.sub (frX8_byteAt_18 x S21 (v2 + 3) _ _ h22) (by decide))
              cases h26 : gfX7_addGate_1 x S25 r12 r16 r20 r24 with
              | none => rw [h26] at hm; cases hm
              | some q27 =>
                obtain ⟨r28, S29⟩ := q27
                rw [h26] at hm
                dsimp only at hm
                have a_S29 : Agr wX10_row_0 S S29 := Agr.tr a_S25 (Agr.sub (frX7_addGate_1 x S25 r12 r16 r20 r24 _ _ h26) (by decide))
                by_cases c30 : 0 ≤ r28
                · rw [if_pos c30] at hm
                  exact Agr.tr a_S29 (fbX10_row_0_101 x k26 ak26 S29 (v1 + 1) v2 _ _ hm)
                · rw [if_neg c30] at hm
                  exact Agr.tr (Agr.f a_S29 0 15 ((S29.1 0 15) + 1) (by decide)) (fbX10_row_0_101 x k26 ak26 ((u2 S29.1 0 15 ((S29.1 0 15) + 1)), S29.2.1, S29.2.2.1, S29.2.2.2) v1 v2 _ _ hm)
theorem flX10_row_0_26 (x : XT)  : ∀ (n : Nat) (S : ST) (v1 : Int32) (v2 : Int32) (r : Int32) (S' : ST), lfX10_row_0_26 x  n S v1 v2 = some (r, S') → Agr wX10_row_0 S S'
  | 0, _, _, _, _, _, hm => by cases hm
  | n + 1, S, v1, v2, r, S', hm => fbX10_row_0_26 x (lfX10_row_0_26 x  n) (flX10_row_0_26 x  n) S v1 v2 r S' hm
set_option maxHeartbeats 4000000 in
set_option maxRecDepth 20000 in
theorem fbX10_row_0_0 (x : XT)  (S : ST)  (r : Int32) (S' : ST) (hm : bfX10_row_0_0 x  S  = some (r, S')) : Agr wX10_row_0 S S' := by
    unfold bfX10_row_0_0 at hm
    by_cases c1 : ¬ (S.1 18 1) = 0
    · rw [if_pos c1] at hm
      exact Agr.tr (Agr.f Agr.rf 0 15 0 (by decide)) (flX10_row_0_26 x  20000 ((u2 S.1 0 15 0), S.2.1, S.2.2.1, S.2.2.2) 0 0 _ _ hm)
    · rw [if_neg c1] at hm
      cases h2 : gfX10_told_0 x S (-6) with
      | none => rw [h2] at hm; cases hm
      | some q3 =>
        obtain ⟨r4, S5⟩ := q3
        rw [h2] at hm
        dsimp only at hm
        have a_S5 : Agr wX10_row_0 S S5 := Agr.tr Agr.rf (Agr.sub (frX10_told_0 x S (-6) _ _ h2) (by decide))
        cases hm
        exact a_S5
theorem frX10_row_0 (x : XT) (S : ST)  (r : Int32) (S' : ST) (hm : gfX10_row_0 x S  = some (r, S')) : Agr wX10_row_0 S S' := fbX10_row_0_0 x S  r S' hm
def wX10_rust_0 : List (Nat × Nat) × List Nat × List Nat × List Nat := ([], [], [], [])
set_option maxHeartbeats 4000000 in
set_option maxRecDepth 20000 in
theorem fbX10_rust_0_0 (x : XT)  (S : ST)  (r : Int32) (S' : ST) (hm : bfX10_rust_0_0 x  S  = some (r, S')) : Agr wX10_rust_0 S S' := by
    unfold bfX10_rust_0_0 at hm
    cases hm
    exact Agr.rf
theorem frX10_rust_0 (x : XT) (S : ST)  (r : Int32) (S' : ST) (hm : gfX10_rust_0 x S  = some (r, S')) : Agr wX10_rust_0 S S' := fbX10_rust_0_0 x S  r S' hm
def wX4_here_24 : List (Nat × Nat) × List Nat × List Nat × List Nat := ([], [], [], [])
set_option maxHeartbeats 4000000 in
set_option maxRecDepth 20000 in
theorem fbX4_here_24_26 (x : XT)  (S : ST) (t0 : Int32) (r : Int32) (S' : ST) (hm : bfX4_here_24_26 x  S t0 = some (r, S')) : Agr wX4_here_24 S S' := by
    unfold bfX4_here_24_26 at hm
    cases hm
    exact Agr.rf
set_option maxHeartbeats 4000000 in
set_option maxRecDepth 20000 in
theorem fbX4_here_24_0 (x : XT)  (S : ST)  (r : Int32) (S' : ST) (hm : bfX4_here_24_0 x  S  = some (r, S')) : Agr wX4_here_24 S S' := by
    unfold bfX4_here_24_0 at hm
    by_cases c1 : (S.1 24 5) ≤ (S.1 24 6)
    · rw [if_pos c1] at hm
      exact Agr.tr Agr.rf (fbX4_here_24_26 x  S 257 _ _ hm)
    · rw [if_neg c1] at hm
      obtain ⟨o2, hm⟩ := oblk hm
      exact Agr.tr Agr.rf (fbX4_here_24_26 x  S (S.2.1 30 ((S.1 24 6).toNatClampNeg)) _ _ hm)
theorem frX4_here_24 (x : XT) (S : ST)  (r : Int32) (S' : ST) (hm : gfX4_here_24 x S  = some (r, S')) : Agr wX4_here_24 S S' := fbX4_here_24_0 x S  r S' hm
def wX4_faulty_24 : List (Nat × Nat) × List Nat × List Nat × List Nat := ([(24, 1)], [], [], [])
set_option maxHeartbeats 4000000 in
set_option maxRecDepth 20000 in
theorem fbX4_faulty_24_25 (x : XT)  (S : ST) (t1 : Int32) (r : Int32) (S' : ST) (hm : bfX4_faulty_24_25 x  S t1 = some (r, S')) : Agr wX4_faulty_24 S S' := by
    unfold bfX4_faulty_24_25 at hm
    cases hm
    exact (Agr.f Agr.rf 24 1 t1 (by decide))
set_option maxHeartbeats 4000000 in
set_option maxRecDepth 20000 in
theorem fbX4_faulty_24_0 (x : XT)  (S : ST)  (r : Int32) (S' : ST) (hm : bfX4_faulty_24_0 x  S  = some (r, S')) : Agr wX4_faulty_24 S S' := by
    unfold bfX4_faulty_24_0 at hm
    by_cases c1 : (S.1 24 5) ≤ (S.1 24 6)
    · rw [if_pos c1] at hm
      exact Agr.tr Agr.rf (fbX4_faulty_24_25 x  S (-1) _ _ hm)
    · rw [if_neg c1] at hm
      obtain ⟨o2, hm⟩ := oblk hm
      exact Agr.tr Agr.rf (fbX4_faulty_24_25 x  S (S.2.1 32 ((S.1 24 6).toNatClampNeg)) _ _ hm)
theorem frX4_faulty_24 (x : XT) (S : ST)  (r : Int32) (S' : ST) (hm : gfX4_faulty_24 x S  = some (r, S')) : Agr wX4_faulty_24 S S' := fbX4_faulty_24_0 x S  r S' hm
def wX9_aim_25 : List (Nat × Nat) × List Nat × List Nat × List Nat := ([], [29], [], [])
set_option maxHeartbeats 4000000 in
set_option maxRecDepth 20000 in
theorem fbX9_aim_25_37 (x : XT)  (S : ST)  (r : Unit) (S' : ST) (hm : bfX9_aim_25_37 x  S  = some (r, S')) : Agr wX9_aim_25 S S' := by
    unfold bfX9_aim_25_37 at hm
    cases hm
    exact Agr.rf
set_option maxHeartbeats 4000000 in
set_option maxRecDepth 20000 in
theorem fbX9_aim_25_0 (x : XT)  (S : ST) (p1 : Int32) (r : Unit) (S' : ST) (hm : bfX9_aim_25_0 x  S p1 = some (r, S')) : Agr wX9_aim_25 S S' := by
    unfold bfX9_aim_25_0 at hm
    by_cases c1 : p1 < 0
    · rw [if_pos c1] at hm
      exact Agr.tr Agr.rf (fbX9_aim_25_37 x  S _ _ hm)
    · rw [if_neg c1] at hm
      by_cases c2 : (S.1 25 1) ≤ p1
      · rw [if_pos c2] at hm
        exact Agr.tr Agr.rf (fbX9_aim_25_37 x  S _ _ hm)
      · rw [if_neg c2] at hm
        obtain ⟨o3, hm⟩ := oblk hm
        obtain ⟨o4, hm⟩ := oblk hm
        exact Agr.tr (Agr.i Agr.rf 29 p1.toNatClampNeg (((S.2.1 29 p1.toNatClampNeg) - (S.2.1 29 p1.toNatClampNeg) / 512 * 512) + (512 * (S.1 25 1))) (by decide)) (fbX9_aim_25_37 x  (S.1, (u2 S.2.1 29 p1.toNatClampNeg (((S.2.1 29 p1.toNatClampNeg) - (S.2.1 29 p1.toNatClampNeg) / 512 * 512) + (512 * (S.1 25 1)))), S.2.2.1, S.2.2.2) _ _ hm)
theorem frX9_aim_25 (x : XT) (S : ST) (p1 : Int32) (r : Unit) (S' : ST) (hm : gfX9_aim_25 x S p1 = some (r, S')) : Agr wX9_aim_25 S S' := fbX9_aim_25_0 x S p1 r S' hm
def wX9_add_25 : List (Nat × Nat) × List Nat × List Nat × List Nat := ([(25, 1)], [29], [], [])
set_option maxHeartbeats 4000000 in
set_option maxRecDepth 20000 in
theorem fbX9_add_25_0 (x : XT)  (S : ST) (p1 : Int32) (p2 : Int32) (r : Int32) (S' : ST) (hm : bfX9_add_25_0 x  S p1 p2 = some (r, S')) : Agr wX9_add_25 S S' := by
    unfold bfX9_add_25_0 at hm
    by_cases c1 : (S.1 25 1) < 400
    · rw [if_pos c1] at hm
      obtain ⟨o2, hm⟩ := oblk hm
      cases hm
      exact (Agr.i (Agr.f Agr.rf 25 1 ((S.1 25 1) + 1) (by decide)) 29 ((S.1 25 1).toNatClampNeg) (p1 + (512 * p2)) (by decide))
    · rw [if_neg c1] at hm
      cases hm
      exact Agr.rf
theorem frX9_add_25 (x : XT) (S : ST) (p1 : Int32) (p2 : Int32) (r : Int32) (S' : ST) (hm : gfX9_add_25 x S p1 p2 = some (r, S')) : Agr wX9_add_25 S S' := fbX9_add_25_0 x S p1 p2 r S' hm
def wX4_take_24 : List (Nat × Nat) × List Nat × List Nat × List Nat := ([(24, 1), (24, 6)], [], [], [])
set_option maxHeartbeats 4000000 in
set_option maxRecDepth 20000 in
theorem fbX4_take_24_0 (x : XT)  (S : ST) (p1 : Int32) (r : Int32) (S' : ST) (hm : bfX4_take_24_0 x  S p1 = some (r, S')) : Agr wX4_take_24 S S' := by
    unfold bfX4_take_24_0 at hm
    cases h1 : gfX4_here_24 x S with
    | none => rw [h1] at hm; cases hm
    | some q2 =>
      obtain ⟨r3, S4⟩ := q2
      rw [h1] at hm
      dsimp only at hm
      have a_S4 : Agr wX4_take_24 S S4 := Agr.tr Agr.rf (Agr.sub (frX4_here_24 x S _ _ h1) (by decide))
      by_cases c5 : r3 = p1
      · rw [if_pos c5] at hm
        cases hm
        exact (Agr.f a_S4 24 6 ((S4.1 24 6) + 1) (by decide))
      · rw [if_neg c5] at hm
        cases h6 : gfX4_faulty_24 x S4 with
        | none => rw [h6] at hm; cases hm
        | some q7 =>
          obtain ⟨r8, S9⟩ := q7
          rw [h6] at hm
          dsimp only at hm
          have a_S9 : Agr wX4_take_24 S S9 := Agr.tr a_S4 (Agr.sub (frX4_faulty_24 x S4 _ _ h6) (by decide))
          obtain ⟨o10, hm⟩ := oblk hm
          cases hm
          exact a_S9
theorem frX4_take_24 (x : XT) (S : ST) (p1 : Int32) (r : Int32) (S' : ST) (hm : gfX4_take_24 x S p1 = some (r, S')) : Agr wX4_take_24 S S' := fbX4_take_24_0 x S p1 r S' hm
def wX4_lawWord_24 : List (Nat × Nat) × List Nat × List Nat × List Nat := ([], [], [], [])
set_option maxHeartbeats 4000000 in
set_option maxRecDepth 20000 in
theorem fbX4_lawWord_24_28 (x : XT)  (S : ST) (t0 : Int32) (r : Int32) (S' : ST) (hm : bfX4_lawWord_24_28 x  S t0 = some (r, S')) : Agr wX4_lawWord_24 S S' := by
    unfold bfX4_lawWord_24_28 at hm
    cases hm
    exact Agr.rf
set_option maxHeartbeats 4000000 in
set_option maxRecDepth 20000 in
theorem fbX4_lawWord_24_27 (x : XT)  (S : ST)  (r : Int32) (S' : ST) (hm : bfX4_lawWord_24_27 x  S  = some (r, S')) : Agr wX4_lawWord_24 S S' := by
    unfold bfX4_lawWord_24_27 at hm
    exact Agr.tr Agr.rf (fbX4_lawWord_24_28 x  S (-1) _ _ hm)
set_option maxHeartbeats 4000000 in
set_option maxRecDepth 20000 in
theorem fbX4_lawWord_24_0 (x : XT)  (S : ST)  (r : Int32) (S' : ST) (hm : bfX4_lawWord_24_0 x  S  = some (r, S')) : Agr wX4_lawWord_24 S S' := by
    unfold bfX4_lawWord_24_0 at hm
    cases h1 : gfX4_here_24 x S with
    | none => rw [h1] at hm; cases hm
    | some q2 =>
      obtain ⟨r3, S4⟩ := q2
      rw [h1] at hm
      dsimp only at hm
      have a_S4 : Agr wX4_lawWord_24 S S4 := Agr.tr Agr.rf (Agr.sub (frX4_here_24 x S _ _ h1) (by decide))
      by_cases c5 : r3 < 274
      · rw [if_pos c5] at hm
        exact Agr.tr a_S4 (fbX4_lawWord_24_27 x  S4 _ _ hm)
      · rw [if_neg c5] at hm
        by_cases c6 : 281 < r3
        · rw [if_pos c6] at hm
          exact Agr.tr a_S4 (fbX4_lawWord_24_27 x  S4 _ _ hm)
        · rw [if_neg c6] at hm
          exact Agr.tr a_S4 (fbX4_lawWord_24_28 x  S4 (r3 - 274) _ _ hm)
theorem frX4_lawWord_24 (x : XT) (S : ST)  (r : Int32) (S' : ST) (hm : gfX4_lawWord_24 x S  = some (r, S')) : Agr wX4_lawWord_24 S S' := fbX4_lawWord_24_0 x S  r S' hm
def wX4_numberedWord_24 : List (Nat × Nat) × List Nat × List Nat × List Nat := ([(24, 6)], [], [], [])
set_option maxHeartbeats 4000000 in
set_option maxRecDepth 20000 in
theorem fbX4_numberedWord_24_48 (x : XT)  (S : ST) (t0 : Int32) (r : Int32) (S' : ST) (hm : bfX4_numberedWord_24_48 x  S t0 = some (r, S')) : Agr wX4_numberedWord_24 S S' := by
    unfold bfX4_numberedWord_24_48 at hm
    cases hm
    exact Agr.rf
set_option maxHeartbeats 4000000 in
set_option maxRecDepth 20000 in
theorem fbX4_numberedWord_24_47 (x : XT)  (S : ST)  (r : Int32) (S' : ST) (hm : bfX4_numberedWord_24_47 x  S  = some (r, S')) : Agr wX4_numberedWord_24 S S' := by
    unfold bfX4_numberedWord_24_47 at hm
    exact Agr.tr Agr.rf (fbX4_numberedWord_24_48 x  S (-1) _ _ hm)
set_option maxHeartbeats 4000000 in
set_option maxRecDepth 20000 in
theorem fbX4_numberedWord_24_0 (x : XT)  (S : ST) (p1 : Int32) (p2 : Int32) (r : Int32) (S' : ST) (hm : bfX4_numberedWord_24_0 x  S p1 p2 = some (r, S')) : Agr wX4_numberedWord_24 S S' := by
    unfold bfX4_numberedWord_24_0 at hm
    cases h1 : gfX4_here_24 x ((u2 S.1 24 6 ((S.1 24 6) + 1)), S.2.1, S.2.2.1, S.2.2.2) with
    | none => rw [h1] at hm; cases hm
    | some q2 =>
      obtain ⟨r3, S4⟩ := q2
      rw [h1] at hm
      dsimp only at hm
      have a_S4 : Agr wX4_numberedWord_24 S S4 := Agr.tr (Agr.f Agr.rf 24 6 ((S.1 24 6) + 1) (by decide)) (Agr.sub (frX4_here_24 x ((u2 S.1 24 6 ((S.1 24 6) + 1)), S.2.1, S.2.2.1, S.2.2.2) _ _ h1) (by decide))
      by_cases c5 : ¬ r3 = 256
      · rw [if_pos c5] at hm
        exact Agr.tr a_S4 (fbX4_numberedWord_24_47 x  S4 _ _ hm)
      · rw [if_neg c5] at hm
        obtain ⟨o6, hm⟩ := oblk hm
        by_cases c7 : p2 ≤ (S4.2.1 31 ((S4.1 24 6).toNatClampNeg))
        · rw [if_pos c7] at hm
          exact Agr.tr a_S4 (fbX4_numberedWord_24_47 x  S4 _ _ hm)
        · rw [if_neg c7] at hm
          obtain ⟨o8, hm⟩ := oblk hm
          exact Agr.tr a_S4 (fbX4_numberedWord_24_48 x  S4 (p1 + (S4.2.1 31 ((S4.1 24 6).toNatClampNeg))) _ _ hm)
theorem frX4_numberedWord_24 (x : XT) (S : ST) (p1 : Int32) (p2 : Int32) (r : Int32) (S' : ST) (hm : gfX4_numberedWord_24 x S p1 p2 = some (r, S')) : Agr wX4_numberedWord_24 S S' := fbX4_numberedWord_24_0 x S p1 p2 r S' hm
def wX4_orderWord_24 : List (Nat × Nat) × List Nat × List Nat × List Nat := ([(24, 6)], [], [], [])
set_option maxHeartbeats 4000000 in
set_option maxRecDepth 20000 in
theorem fbX4_orderWord_24_0 (x : XT)  (S : ST)  (r : Int32) (S' : ST) (hm : bfX4_orderWord_24_0 x  S  = some (r, S')) : Agr wX4_orderWord_24 S S' := by
    unfold bfX4_orderWord_24_0 at hm
    cases h1 : gfX4_here_24 x S with
    | none => rw [h1] at hm; cases hm
    | some q2 =>
      obtain ⟨r3, S4⟩ := q2
      rw [h1] at hm
      dsimp only at hm
      have a_S4 : Agr wX4_orderWord_24 S S4 := Agr.tr Agr.rf (Agr.sub (frX4_here_24 x S _ _ h1) (by decide))
      by_cases c5 : r3 = 275
      · rw [if_pos c5] at hm
        cases h6 : gfX4_numberedWord_24 x S4 14 10 with
        | none => rw [h6] at hm; cases hm
        | some q7 =>
          obtain ⟨r8, S9⟩ := q7
          rw [h6] at hm
          dsimp only at hm
          have a_S9 : Agr wX4_orderWord_24 S S9 := Agr.tr a_S4 (Agr.sub (frX4_numberedWord_24 x S4 14 10 _ _ h6) (by decide))
          cases hm
          exact a_S9
      rw [if_neg c5] at hm
      by_cases c10 : r3 = 276
      · rw [if_pos c10] at hm
        cases h11 : gfX4_numberedWord_24 x S4 4 5 with
        | none => rw [h11] at hm; cases hm
        | some q12 =>
          obtain ⟨r13, S14⟩ := q12
          rw [h11] at hm
          dsimp only at hm
          have a_S14 : Agr wX4_orderWord_24 S S14 := Agr.tr a_S4 (Agr.sub (frX4_numberedWord_24 x S4 4 5 _ _ h11) (by decide))
          cases hm
          exact a_S14
      rw [if_neg c10] at hm
      by_cases c15 : r3 = 277
      · rw [if_pos c15] at hm
        cases hm
        exact a_S4
      rw [if_neg c15] at hm
      by_cases c16 : r3 = 278
      · rw [if_pos c16] at hm
        cases hm
        exact a_S4
      rw [if_neg c16] at hm
      by_cases c17 : r3 = 279
      · rw [if_pos c17] at hm
        cases hm
        exact a_S4
      rw [if_neg c17] at hm
      by_cases c18 : r3 = 280
      · rw [if_pos c18] at hm
        cases hm
        exact a_S4
      rw [if_neg c18] at hm
      by_cases c19 : r3 = 281
      · rw [if_pos c19] at hm
        cases hm
        exact a_S4
      rw [if_neg c19] at hm
      by_cases c20 : r3 = 282
      · rw [if_pos c20] at hm
        cases hm
        exact a_S4
      rw [if_neg c20] at hm
      by_cases c21 : r3 = 283
      · rw [if_pos c21] at hm
        cases hm
        exact a_S4
      rw [if_neg c21] at hm
      by_cases c22 : r3 = 284
      · rw [if_pos c22] at hm
        cases hm
        exact a_S4
      rw [if_neg c22] at hm
      by_cases c23 : r3 = 285
      · rw [if_pos c23] at hm
        cases h24 : gfX4_numberedWord_24 x S4 9 5 with
        | none => rw [h24] at hm; cases hm
        | some q25 =>
          obtain ⟨r26, S27⟩ := q25
          rw [h24] at hm
          dsimp only at hm
          have a_S27 : Agr wX4_orderWord_24 S S27 := Agr.tr a_S4 (Agr.sub (frX4_numberedWord_24 x S4 9 5 _ _ h24) (by decide))
          cases hm
          exact a_S27
      rw [if_neg c23] at hm
      cases hm
      exact a_S4
theorem frX4_orderWord_24 (x : XT) (S : ST)  (r : Int32) (S' : ST) (hm : gfX4_orderWord_24 x S  = some (r, S')) : Agr wX4_orderWord_24 S S' := fbX4_orderWord_24_0 x S  r S' hm
def wX4_test_24 : List (Nat × Nat) × List Nat × List Nat × List Nat := ([(24, 1), (24, 6), (24, 7), (25, 1)], [29], [], [])
set_option maxHeartbeats 4000000 in
set_option maxRecDepth 20000 in
theorem fbX4_test_24_44 (x : XT) (rec_X4_test : ST → Int32 → Int32 → Option (Int32 × ST)) (arec_X4_test : ∀ (S : ST) (z0 : Int32) (z1 : Int32) (r : Int32) (S' : ST), rec_X4_test S z0 z1 = some (r, S') → Agr wX4_test_24 S S') (rec_X4_plain : ST → Int32 → Option (Int32 × ST)) (arec_X4_plain : ∀ (S : ST) (z0 : Int32) (r : Int32) (S' : ST), rec_X4_plain S z0 = some (r, S') → Agr wX4_test_24 S S') (rec_X4_comparison : ST → Int32 → Option (Int32 × ST)) (arec_X4_comparison : ∀ (S : ST) (z0 : Int32) (r : Int32) (S' : ST), rec_X4_comparison S z0 = some (r, S') → Agr wX4_test_24 S S') (rec_X4_inBrackets : ST → Int32 → Int32 → Option (Int32 × ST)) (arec_X4_inBrackets : ∀ (S : ST) (z0 : Int32) (z1 : Int32) (r : Int32) (S' : ST), rec_X4_inBrackets S z0 z1 = some (r, S') → Agr wX4_test_24 S S') (rec_X4_sum : ST → Int32 → Option (Int32 × ST)) (arec_X4_sum : ∀ (S : ST) (z0 : Int32) (r : Int32) (S' : ST), rec_X4_sum S z0 = some (r, S') → Agr wX4_test_24 S S') (rec_X4_term : ST → Int32 → Option (Int32 × ST)) (arec_X4_term : ∀ (S : ST) (z0 : Int32) (r : Int32) (S' : ST), rec_X4_term S z0 = some (r, S') → Agr wX4_test_24 S S') (rec_X4_part : ST → Int32 → Option (Int32 × ST)) (arec_X4_part : ∀ (S : ST) (z0 : Int32) (r : Int32) (S' : ST), rec_X4_part S z0 = some (r, S') → Agr wX4_test_24 S S') (k5 : ST → Int32 → Int32 → Int32 → Int32 → Option (Int32 × ST)) (ak5 : ∀ (S : ST) (v1 : Int32) (v2 : Int32) (v3 : Int32) (v4 : Int32) (r : Int32) (S' : ST), k5 S v1 v2 v3 v4 = some (r, S') → Agr wX4_test_24 S S') (S : ST) (v1 : Int32) (v2 : Int32) (v3 : Int32) (v4 : Int32) (r : Int32) (S' : ST) (hm : bfX4_test_24_44 x rec_X4_test rec_X4_plain rec_X4_comparison rec_X4_inBrackets rec_X4_sum rec_X4_term rec_X4_part k5 S v1 v2 v3 v4 = some (r, S')) : Agr wX4_test_24 S S' := by
    unfold bfX4_test_24_44 at hm
    cases h1 : gfX9_aim_25 x S v3 with
    | none => rw [h1] at hm; cases hm
    | some q2 =>
      obtain ⟨r3, S4⟩ := q2
      rw [h1] at hm
      dsimp only at hm
      have a_S4 : Agr wX4_test_24 S S4 := Agr.tr Agr.rf (Agr.sub (frX9_aim_25 x S v3 _ _ h1) (by decide))
      cases h5 : gfX4_here_24 x S4 with
      | none => rw [h5] at hm; cases hm
      | some q6 =>
        obtain ⟨r7, S8⟩ := q6
        rw [h5] at hm
        dsimp only at hm
        have a_S8 : Agr wX4_test_24 S S8 := Agr.tr a_S4 (Agr.sub (frX4_here_24 x S4 _ _ h5) (by decide))
        by_cases c9 : r7 = v2
        · rw [if_pos c9] at hm
          cases h10 : gfX9_add_25 x S8 v2 0 with
          | none => rw [h10] at hm; cases hm
          | some q11 =>
            obtain ⟨r12, S13⟩ := q11
            rw [h10] at hm
            dsimp only at hm
            have a_S13 : Agr wX4_test_24 S S13 := Agr.tr a_S8 (Agr.sub (frX9_add_25 x S8 v2 0 _ _ h10) (by decide))
            exact Agr.tr (Agr.f a_S13 24 6 ((S13.1 24 6) + 1) (by decide)) (ak5 ((u2 S13.1 24 6 ((S13.1 24 6) + 1)), S13.2.1, S13.2.2.1, S13.2.2.2) v1 v2 r12 (v4 + 1) _ _ hm)
        · rw [if_neg c9] at hm
          cases hm
          exact a_S8
set_option maxHeartbeats 4000000 in
set_option maxRecDepth 20000 in
theorem fbX4_test_24_42 (x : XT) (rec_X4_test : ST → Int32 → Int32 → Option (Int32 × ST)) (arec_X4_test : ∀ (S : ST) (z0 : Int32) (z1 : Int32) (r : Int32) (S' : ST), rec_X4_test S z0 z1 = some (r, S') → Agr wX4_test_24 S S') (rec_X4_plain : ST → Int32 → Option (Int32 × ST)) (arec_X4_plain : ∀ (S : ST) (z0 : Int32) (r : Int32) (S' : ST), rec_X4_plain S z0 = some (r, S') → Agr wX4_test_24 S S') (rec_X4_comparison : ST → Int32 → Option (Int32 × ST)) (arec_X4_comparison : ∀ (S : ST) (z0 : Int32) (r : Int32) (S' : ST), rec_X4_comparison S z0 = some (r, S') → Agr wX4_test_24 S S') (rec_X4_inBrackets : ST → Int32 → Int32 → Option (Int32 × ST)) (arec_X4_inBrackets : ∀ (S : ST) (z0 : Int32) (z1 : Int32) (r : Int32) (S' : ST), rec_X4_inBrackets S z0 z1 = some (r, S') → Agr wX4_test_24 S S') (rec_X4_sum : ST → Int32 → Option (Int32 × ST)) (arec_X4_sum : ∀ (S : ST) (z0 : Int32) (r : Int32) (S' : ST), rec_X4_sum S z0 = some (r, S') → Agr wX4_test_24 S S') (rec_X4_term : ST → Int32 → Option (Int32 × ST)) (arec_X4_term : ∀ (S : ST) (z0 : Int32) (r : Int32) (S' : ST), rec_X4_term S z0 = some (r, S') → Agr wX4_test_24 S S') (rec_X4_part : ST → Int32 → Option (Int32 × ST)) (arec_X4_part : ∀ (S : ST) (z0 : Int32) (r : Int32) (S' : ST), rec_X4_part S z0 = some (r, S') → Agr wX4_test_24 S S')  (S : ST)  (r : Int32) (S' : ST) (hm : bfX4_test_24_42 x rec_X4_test rec_X4_plain rec_X4_comparison rec_X4_inBrackets rec_X4_sum rec_X4_term rec_X4_part  S  = some (r, S')) : Agr wX4_test_24 S S' := by
    unfold bfX4_test_24_42 at hm
    cases hm
    exact Agr.rf
set_option maxHeartbeats 4000000 in
set_option maxRecDepth 20000 in
theorem fbX4_test_24_5 (x : XT) (rec_X4_test : ST → Int32 → Int32 → Option (Int32 × ST)) (arec_X4_test : ∀ (S : ST) (z0 : Int32) (z1 : Int32) (r : Int32) (S' : ST), rec_X4_test S z0 z1 = some (r, S') → Agr wX4_test_24 S S') (rec_X4_plain : ST → Int32 → Option (Int32 × ST)) (arec_X4_plain : ∀ (S : ST) (z0 : Int32) (r : Int32) (S' : ST), rec_X4_plain S z0 = some (r, S') → Agr wX4_test_24 S S') (rec_X4_comparison : ST → Int32 → Option (Int32 × ST)) (arec_X4_comparison : ∀ (S : ST) (z0 : Int32) (r : Int32) (S' : ST), rec_X4_comparison S z0 = some (r, S') → Agr wX4_test_24 S S') (rec_X4_inBrackets : ST → Int32 → Int32 → Option (Int32 × ST)) (arec_X4_inBrackets : ∀ (S : ST) (z0 : Int32) (z1 : Int32) (r : Int32) (S' : ST), rec_X4_inBrackets S z0 z1 = some (r, S') → Agr wX4_test_24 S S') (rec_X4_sum : ST → Int32 → Option (Int32 × ST)) (arec_X4_sum : ∀ (S : ST) (z0 : Int32) (r : Int32) (S' : ST), rec_X4_sum S z0 = some (r, S') → Agr wX4_test_24 S S') (rec_X4_term : ST → Int32 → Option (Int32 × ST)) (arec_X4_term : ∀ (S : ST) (z0 : Int32) (r : Int32) (S' : ST), rec_X4_term S z0 = some (r, S') → Agr wX4_test_24 S S') (rec_X4_part : ST → Int32 → Option (Int32 × ST)) (arec_X4_part : ∀ (S : ST) (z0 : Int32) (r : Int32) (S' : ST), rec_X4_part S z0 = some (r, S') → Agr wX4_test_24 S S') (k5 : ST → Int32 → Int32 → Int32 → Int32 → Option (Int32 × ST)) (ak5 : ∀ (S : ST) (v1 : Int32) (v2 : Int32) (v3 : Int32) (v4 : Int32) (r : Int32) (S' : ST), k5 S v1 v2 v3 v4 = some (r, S') → Agr wX4_test_24 S S') (S : ST) (v1 : Int32) (v2 : Int32) (v3 : Int32) (v4 : Int32) (r : Int32) (S' : ST) (hm : bfX4_test_24_5 x rec_X4_test rec_X4_plain rec_X4_comparison rec_X4_inBrackets rec_X4_sum rec_X4_term rec_X4_part k5 S v1 v2 v3 v4 = some (r, S')) : Agr wX4_test_24 S S' := by
    unfold bfX4_test_24_5 at hm
    by_cases c1 : 400 < v4
    · rw [if_pos c1] at hm
      cases h2 : gfX4_faulty_24 x S with
      | none => rw [h2] at hm; cases hm
      | some q3 =>
        obtain ⟨r4, S5⟩ := q3
        rw [h2] at hm
        dsimp only at hm
        have a_S5 : Agr wX4_test_24 S S5 := Agr.tr Agr.rf (Agr.sub (frX4_faulty_24 x S _ _ h2) (by decide))
        obtain ⟨o6, hm⟩ := oblk hm
        cases hm
        exact a_S5
    · rw [if_neg c1] at hm
      by_cases c7 : ¬ v2 = 271
      · rw [if_pos c7] at hm
        cases h8 : rec_X4_plain S v1 with
        | none => rw [h8] at hm; cases hm
        | some q9 =>
          obtain ⟨r10, S11⟩ := q9
          rw [h8] at hm
          dsimp only at hm
          have a_S11 : Agr wX4_test_24 S S11 := Agr.tr Agr.rf (arec_X4_plain S v1 _ _ h8)
          by_cases c12 : ¬ r10 = 0
          · rw [if_pos c12] at hm
            exact Agr.tr a_S11 (fbX4_test_24_44 x rec_X4_test arec_X4_test rec_X4_plain arec_X4_plain rec_X4_comparison arec_X4_comparison rec_X4_inBrackets arec_X4_inBrackets rec_X4_sum arec_X4_sum rec_X4_term arec_X4_term rec_X4_part arec_X4_part k5 ak5 S11 v1 v2 v3 v4 _ _ hm)
          · rw [if_neg c12] at hm
            exact Agr.tr a_S11 (fbX4_test_24_42 x rec_X4_test arec_X4_test rec_X4_plain arec_X4_plain rec_X4_comparison arec_X4_comparison rec_X4_inBrackets arec_X4_inBrackets rec_X4_sum arec_X4_sum rec_X4_term arec_X4_term rec_X4_part arec_X4_part  S11 _ _ hm)
      · rw [if_neg c7] at hm
        cases h13 : rec_X4_test S v1 272 with
        | none => rw [h13] at hm; cases hm
        | some q14 =>
          obtain ⟨r15, S16⟩ := q14
          rw [h13] at hm
          dsimp only at hm
          have a_S16 : Agr wX4_test_24 S S16 := Agr.tr Agr.rf (arec_X4_test S v1 272 _ _ h13)
          by_cases c17 : r15 = 0
          · rw [if_pos c17] at hm
            exact Agr.tr a_S16 (fbX4_test_24_42 x rec_X4_test arec_X4_test rec_X4_plain arec_X4_plain rec_X4_comparison arec_X4_comparison rec_X4_inBrackets arec_X4_inBrackets rec_X4_sum arec_X4_sum rec_X4_term arec_X4_term rec_X4_part arec_X4_part  S16 _ _ hm)
          · rw [if_neg c17] at hm
            exact Agr.tr a_S16 (fbX4_test_24_44 x rec_X4_test arec_X4_test rec_X4_plain arec_X4_plain rec_X4_comparison arec_X4_comparison rec_X4_inBrackets arec_X4_inBrackets rec_X4_sum arec_X4_sum rec_X4_term arec_X4_term rec_X4_part arec_X4_part k5 ak5 S16 v1 v2 v3 v4 _ _ hm)
theorem flX4_test_24_5 (x : XT) (rec_X4_test : ST → Int32 → Int32 → Option (Int32 × ST)) (arec_X4_test : ∀ (S : ST) (z0 : Int32) (z1 : Int32) (r : Int32) (S' : ST), rec_X4_test S z0 z1 = some (r, S') → Agr wX4_test_24 S S') (rec_X4_plain : ST → Int32 → Option (Int32 × ST)) (arec_X4_plain : ∀ (S : ST) (z0 : Int32) (r : Int32) (S' : ST), rec_X4_plain S z0 = some (r, S') → Agr wX4_test_24 S S') (rec_X4_comparison : ST → Int32 → Option (Int32 × ST)) (arec_X4_comparison : ∀ (S : ST) (z0 : Int32) (r : Int32) (S' : ST), rec_X4_comparison S z0 = some (r, S') → Agr wX4_test_24 S S') (rec_X4_inBrackets : ST → Int32 → Int32 → Option (Int32 × ST)) (arec_X4_inBrackets : ∀ (S : ST) (z0 : Int32) (z1 : Int32) (r : Int32) (S' : ST), rec_X4_inBrackets S z0 z1 = some (r, S') → Agr wX4_test_24 S S') (rec_X4_sum : ST → Int32 → Option (Int32 × ST)) (arec_X4_sum : ∀ (S : ST) (z0 : Int32) (r : Int32) (S' : ST), rec_X4_sum S z0 = some (r, S') → Agr wX4_test_24 S S') (rec_X4_term : ST → Int32 → Option (Int32 × ST)) (arec_X4_term : ∀ (S : ST) (z0 : Int32) (r : Int32) (S' : ST), rec_X4_term S z0 = some (r, S') → Agr wX4_test_24 S S') (rec_X4_part : ST → Int32 → Option (Int32 × ST)) (arec_X4_part : ∀ (S : ST) (z0 : Int32) (r : Int32) (S' : ST), rec_X4_part S z0 = some (r, S') → Agr wX4_test_24 S S')  : ∀ (n : Nat) (S : ST) (v1 : Int32) (v2 : Int32) (v3 : Int32) (v4 : Int32) (r : Int32) (S' : ST), lfX4_test_24_5 x rec_X4_test rec_X4_plain rec_X4_comparison rec_X4_inBrackets rec_X4_sum rec_X4_term rec_X4_part  n S v1 v2 v3 v4 = some (r, S') → Agr wX4_test_24 S S'
  | 0, _, _, _, _, _, _, _, hm => by cases hm
  | n + 1, S, v1, v2, v3, v4, r, S', hm => fbX4_test_24_5 x rec_X4_test arec_X4_test rec_X4_plain arec_X4_plain rec_X4_comparison arec_X4_comparison rec_X4_inBrackets arec_X4_inBrackets rec_X4_sum arec_X4_sum rec_X4_term arec_X4_term rec_X4_part arec_X4_part (lfX4_test_24_5 x rec_X4_test rec_X4_plain rec_X4_comparison rec_X4_inBrackets rec_X4_sum rec_X4_term rec_X4_part  n) (flX4_test_24_5 x rec_X4_test arec_X4_test rec_X4_plain arec_X4_plain rec_X4_comparison arec_X4_comparison rec_X4_inBrackets arec_X4_inBrackets rec_X4_sum arec_X4_sum rec_X4_term arec_X4_term rec_X4_part arec_X4_part  n) S v1 v2 v3 v4 r S' hm
set_option maxHeartbeats 4000000 in
set_option maxRecDepth 20000 in
theorem fbX4_test_24_0 (x : XT) (rec_X4_test : ST → Int32 → Int32 → Option (Int32 × ST)) (arec_X4_test : ∀ (S : ST) (z0 : Int32) (z1 : Int32) (r : Int32) (S' : ST), rec_X4_test S z0 z1 = some (r, S') → Agr wX4_test_24 S S') (rec_X4_plain : ST → Int32 → Option (Int32 × ST)) (arec_X4_plain : ∀ (S : ST) (z0 : Int32) (r : Int32) (S' : ST), rec_X4_plain S z0 = some (r, S') → Agr wX4_test_24 S S') (rec_X4_comparison : ST → Int32 → Option (Int32 × ST)) (arec_X4_comparison : ∀ (S : ST) (z0 : Int32) (r : Int32) (S' : ST), rec_X4_comparison S z0 = some (r, S') → Agr wX4_test_24 S S') (rec_X4_inBrackets : ST → Int32 → Int32 → Option (Int32 × ST)) (arec_X4_inBrackets : ∀ (S : ST) (z0 : Int32) (z1 : Int32) (r : Int32) (S' : ST), rec_X4_inBrackets S z0 z1 = some (r, S') → Agr wX4_test_24 S S') (rec_X4_sum : ST → Int32 → Option (Int32 × ST)) (arec_X4_sum : ∀ (S : ST) (z0 : Int32) (r : Int32) (S' : ST), rec_X4_sum S z0 = some (r, S') → Agr wX4_test_24 S S') (rec_X4_term : ST → Int32 → Option (Int32 × ST)) (arec_X4_term : ∀ (S : ST) (z0 : Int32) (r : Int32) (S' : ST), rec_X4_term S z0 = some (r, S') → Agr wX4_test_24 S S') (rec_X4_part : ST → Int32 → Option (Int32 × ST)) (arec_X4_part : ∀ (S : ST) (z0 : Int32) (r : Int32) (S' : ST), rec_X4_part S z0 = some (r, S') → Agr wX4_test_24 S S')  (S : ST) (p1 : Int32) (p2 : Int32) (r : Int32) (S' : ST) (hm : bfX4_test_24_0 x rec_X4_test rec_X4_plain rec_X4_comparison rec_X4_inBrackets rec_X4_sum rec_X4_term rec_X4_part  S p1 p2 = some (r, S')) : Agr wX4_test_24 S S' := by
    unfold bfX4_test_24_0 at hm
    exact Agr.tr Agr.rf (flX4_test_24_5 x rec_X4_test arec_X4_test rec_X4_plain arec_X4_plain rec_X4_comparison arec_X4_comparison rec_X4_inBrackets arec_X4_inBrackets rec_X4_sum arec_X4_sum rec_X4_term arec_X4_term rec_X4_part arec_X4_part  20000 S p1 p2 (-1) 0 _ _ hm)
theorem frrX4_test_24 (x : XT) (rec_X4_test : ST → Int32 → Int32 → Option (Int32 × ST)) (arec_X4_test : ∀ (S : ST) (z0 : Int32) (z1 : Int32) (r : Int32) (S' : ST), rec_X4_test S z0 z1 = some (r, S') → Agr wX4_test_24 S S') (rec_X4_plain : ST → Int32 → Option (Int32 × ST)) (arec_X4_plain : ∀ (S : ST) (z0 : Int32) (r : Int32) (S' : ST), rec_X4_plain S z0 = some (r, S') → Agr wX4_test_24 S S') (rec_X4_comparison : ST → Int32 → Option (Int32 × ST)) (arec_X4_comparison : ∀ (S : ST) (z0 : Int32) (r : Int32) (S' : ST), rec_X4_comparison S z0 = some (r, S') → Agr wX4_test_24 S S') (rec_X4_inBrackets : ST → Int32 → Int32 → Option (Int32 × ST)) (arec_X4_inBrackets : ∀ (S : ST) (z0 : Int32) (z1 : Int32) (r : Int32) (S' : ST), rec_X4_inBrackets S z0 z1 = some (r, S') → Agr wX4_test_24 S S') (rec_X4_sum : ST → Int32 → Option (Int32 × ST)) (arec_X4_sum : ∀ (S : ST) (z0 : Int32) (r : Int32) (S' : ST), rec_X4_sum S z0 = some (r, S') → Agr wX4_test_24 S S') (rec_X4_term : ST → Int32 → Option (Int32 × ST)) (arec_X4_term : ∀ (S : ST) (z0 : Int32) (r : Int32) (S' : ST), rec_X4_term S z0 = some (r, S') → Agr wX4_test_24 S S') (rec_X4_part : ST → Int32 → Option (Int32 × ST)) (arec_X4_part : ∀ (S : ST) (z0 : Int32) (r : Int32) (S' : ST), rec_X4_part S z0 = some (r, S') → Agr wX4_test_24 S S') (S : ST) (p1 : Int32) (p2 : Int32) (r : Int32) (S' : ST) (hm : grfX4_test_24 x rec_X4_test rec_X4_plain rec_X4_comparison rec_X4_inBrackets rec_X4_sum rec_X4_term rec_X4_part S p1 p2 = some (r, S')) : Agr wX4_test_24 S S' := fbX4_test_24_0 x rec_X4_test arec_X4_test rec_X4_plain arec_X4_plain rec_X4_comparison arec_X4_comparison rec_X4_inBrackets arec_X4_inBrackets rec_X4_sum arec_X4_sum rec_X4_term arec_X4_term rec_X4_part arec_X4_part S p1 p2 r S' hm
set_option maxHeartbeats 4000000 in
set_option maxRecDepth 20000 in
theorem fbX4_plain_24_95 (x : XT) (rec_X4_test : ST → Int32 → Int32 → Option (Int32 × ST)) (arec_X4_test : ∀ (S : ST) (z0 : Int32) (z1 : Int32) (r : Int32) (S' : ST), rec_X4_test S z0 z1 = some (r, S') → Agr wX4_test_24 S S') (rec_X4_plain : ST → Int32 → Option (Int32 × ST)) (arec_X4_plain : ∀ (S : ST) (z0 : Int32) (r : Int32) (S' : ST), rec_X4_plain S z0 = some (r, S') → Agr wX4_test_24 S S') (rec_X4_comparison : ST → Int32 → Option (Int32 × ST)) (arec_X4_comparison : ∀ (S : ST) (z0 : Int32) (r : Int32) (S' : ST), rec_X4_comparison S z0 = some (r, S') → Agr wX4_test_24 S S') (rec_X4_inBrackets : ST → Int32 → Int32 → Option (Int32 × ST)) (arec_X4_inBrackets : ∀ (S : ST) (z0 : Int32) (z1 : Int32) (r : Int32) (S' : ST), rec_X4_inBrackets S z0 z1 = some (r, S') → Agr wX4_test_24 S S') (rec_X4_sum : ST → Int32 → Option (Int32 × ST)) (arec_X4_sum : ∀ (S : ST) (z0 : Int32) (r : Int32) (S' : ST), rec_X4_sum S z0 = some (r, S') → Agr wX4_test_24 S S') (rec_X4_term : ST → Int32 → Option (Int32 × ST)) (arec_X4_term : ∀ (S : ST) (z0 : Int32) (r : Int32) (S' : ST), rec_X4_term S z0 = some (r, S') → Agr wX4_test_24 S S') (rec_X4_part : ST → Int32 → Option (Int32 × ST)) (arec_X4_part : ∀ (S : ST) (z0 : Int32) (r : Int32) (S' : ST), rec_X4_part S z0 = some (r, S') → Agr wX4_test_24 S S')  (S : ST)  (r : Int32) (S' : ST) (hm : bfX4_plain_24_95 x rec_X4_test rec_X4_plain rec_X4_comparison rec_X4_inBrackets rec_X4_sum rec_X4_term rec_X4_part  S  = some (r, S')) : Agr wX4_test_24 S S' := by
    unfold bfX4_plain_24_95 at hm
    cases hm
    exact Agr.rf
set_option maxHeartbeats 4000000 in
set_option maxRecDepth 20000 in
theorem fbX4_plain_24_79 (x : XT) (rec_X4_test : ST → Int32 → Int32 → Option (Int32 × ST)) (arec_X4_test : ∀ (S : ST) (z0 : Int32) (z1 : Int32) (r : Int32) (S' : ST), rec_X4_test S z0 z1 = some (r, S') → Agr wX4_test_24 S S') (rec_X4_plain : ST → Int32 → Option (Int32 × ST)) (arec_X4_plain : ∀ (S : ST) (z0 : Int32) (r : Int32) (S' : ST), rec_X4_plain S z0 = some (r, S') → Agr wX4_test_24 S S') (rec_X4_comparison : ST → Int32 → Option (Int32 × ST)) (arec_X4_comparison : ∀ (S : ST) (z0 : Int32) (r : Int32) (S' : ST), rec_X4_comparison S z0 = some (r, S') → Agr wX4_test_24 S S') (rec_X4_inBrackets : ST → Int32 → Int32 → Option (Int32 × ST)) (arec_X4_inBrackets : ∀ (S : ST) (z0 : Int32) (z1 : Int32) (r : Int32) (S' : ST), rec_X4_inBrackets S z0 z1 = some (r, S') → Agr wX4_test_24 S S') (rec_X4_sum : ST → Int32 → Option (Int32 × ST)) (arec_X4_sum : ∀ (S : ST) (z0 : Int32) (r : Int32) (S' : ST), rec_X4_sum S z0 = some (r, S') → Agr wX4_test_24 S S') (rec_X4_term : ST → Int32 → Option (Int32 × ST)) (arec_X4_term : ∀ (S : ST) (z0 : Int32) (r : Int32) (S' : ST), rec_X4_term S z0 = some (r, S') → Agr wX4_test_24 S S') (rec_X4_part : ST → Int32 → Option (Int32 × ST)) (arec_X4_part : ∀ (S : ST) (z0 : Int32) (r : Int32) (S' : ST), rec_X4_part S z0 = some (r, S') → Agr wX4_test_24 S S')  (S : ST) (v2 : Int32) (r : Int32) (S' : ST) (hm : bfX4_plain_24_79 x rec_X4_test rec_X4_plain rec_X4_comparison rec_X4_inBrackets rec_X4_sum rec_X4_term rec_X4_part  S v2 = some (r, S')) : Agr wX4_test_24 S S' := by
    unfold bfX4_plain_24_79 at hm
    by_cases c1 : v2 = 0
    · rw [if_pos c1] at hm
      exact Agr.tr Agr.rf (fbX4_plain_24_95 x rec_X4_test arec_X4_test rec_X4_plain arec_X4_plain rec_X4_comparison arec_X4_comparison rec_X4_inBrackets arec_X4_inBrackets rec_X4_sum arec_X4_sum rec_X4_term arec_X4_term rec_X4_part arec_X4_part  S _ _ hm)
    · rw [if_neg c1] at hm
      cases h2 : gfX9_add_25 x S 273 0 with
      | none => rw [h2] at hm; cases hm
      | some q3 =>
        obtain ⟨r4, S5⟩ := q3
        rw [h2] at hm
        dsimp only at hm
        have a_S5 : Agr wX4_test_24 S S5 := Agr.tr Agr.rf (Agr.sub (frX9_add_25 x S 273 0 _ _ h2) (by decide))
        exact Agr.tr a_S5 (fbX4_plain_24_95 x rec_X4_test arec_X4_test rec_X4_plain arec_X4_plain rec_X4_comparison arec_X4_comparison rec_X4_inBrackets arec_X4_inBrackets rec_X4_sum arec_X4_sum rec_X4_term arec_X4_term rec_X4_part arec_X4_part  S5 _ _ hm)
set_option maxHeartbeats 4000000 in
set_option maxRecDepth 20000 in
theorem fbX4_plain_24_77 (x : XT) (rec_X4_test : ST → Int32 → Int32 → Option (Int32 × ST)) (arec_X4_test : ∀ (S : ST) (z0 : Int32) (z1 : Int32) (r : Int32) (S' : ST), rec_X4_test S z0 z1 = some (r, S') → Agr wX4_test_24 S S') (rec_X4_plain : ST → Int32 → Option (Int32 × ST)) (arec_X4_plain : ∀ (S : ST) (z0 : Int32) (r : Int32) (S' : ST), rec_X4_plain S z0 = some (r, S') → Agr wX4_test_24 S S') (rec_X4_comparison : ST → Int32 → Option (Int32 × ST)) (arec_X4_comparison : ∀ (S : ST) (z0 : Int32) (r : Int32) (S' : ST), rec_X4_comparison S z0 = some (r, S') → Agr wX4_test_24 S S') (rec_X4_inBrackets : ST → Int32 → Int32 → Option (Int32 × ST)) (arec_X4_inBrackets : ∀ (S : ST) (z0 : Int32) (z1 : Int32) (r : Int32) (S' : ST), rec_X4_inBrackets S z0 z1 = some (r, S') → Agr wX4_test_24 S S') (rec_X4_sum : ST → Int32 → Option (Int32 × ST)) (arec_X4_sum : ∀ (S : ST) (z0 : Int32) (r : Int32) (S' : ST), rec_X4_sum S z0 = some (r, S') → Agr wX4_test_24 S S') (rec_X4_term : ST → Int32 → Option (Int32 × ST)) (arec_X4_term : ∀ (S : ST) (z0 : Int32) (r : Int32) (S' : ST), rec_X4_term S z0 = some (r, S') → Agr wX4_test_24 S S') (rec_X4_part : ST → Int32 → Option (Int32 × ST)) (arec_X4_part : ∀ (S : ST) (z0 : Int32) (r : Int32) (S' : ST), rec_X4_part S z0 = some (r, S') → Agr wX4_test_24 S S')  (S : ST)  (r : Int32) (S' : ST) (hm : bfX4_plain_24_77 x rec_X4_test rec_X4_plain rec_X4_comparison rec_X4_inBrackets rec_X4_sum rec_X4_term rec_X4_part  S  = some (r, S')) : Agr wX4_test_24 S S' := by
    unfold bfX4_plain_24_77 at hm
    cases hm
    exact Agr.rf
set_option maxHeartbeats 4000000 in
set_option maxRecDepth 20000 in
theorem fbX4_plain_24_47 (x : XT) (rec_X4_test : ST → Int32 → Int32 → Option (Int32 × ST)) (arec_X4_test : ∀ (S : ST) (z0 : Int32) (z1 : Int32) (r : Int32) (S' : ST), rec_X4_test S z0 z1 = some (r, S') → Agr wX4_test_24 S S') (rec_X4_plain : ST → Int32 → Option (Int32 × ST)) (arec_X4_plain : ∀ (S : ST) (z0 : Int32) (r : Int32) (S' : ST), rec_X4_plain S z0 = some (r, S') → Agr wX4_test_24 S S') (rec_X4_comparison : ST → Int32 → Option (Int32 × ST)) (arec_X4_comparison : ∀ (S : ST) (z0 : Int32) (r : Int32) (S' : ST), rec_X4_comparison S z0 = some (r, S') → Agr wX4_test_24 S S') (rec_X4_inBrackets : ST → Int32 → Int32 → Option (Int32 × ST)) (arec_X4_inBrackets : ∀ (S : ST) (z0 : Int32) (z1 : Int32) (r : Int32) (S' : ST), rec_X4_inBrackets S z0 z1 = some (r, S') → Agr wX4_test_24 S S') (rec_X4_sum : ST → Int32 → Option (Int32 × ST)) (arec_X4_sum : ∀ (S : ST) (z0 : Int32) (r : Int32) (S' : ST), rec_X4_sum S z0 = some (r, S') → Agr wX4_test_24 S S') (rec_X4_term : ST → Int32 → Option (Int32 × ST)) (arec_X4_term : ∀ (S : ST) (z0 : Int32) (r : Int32) (S' : ST), rec_X4_term S z0 = some (r, S') → Agr wX4_test_24 S S') (rec_X4_part : ST → Int32 → Option (Int32 × ST)) (arec_X4_part : ∀ (S : ST) (z0 : Int32) (r : Int32) (S' : ST), rec_X4_part S z0 = some (r, S') → Agr wX4_test_24 S S')  (S : ST) (v1 : Int32) (v2 : Int32) (r : Int32) (S' : ST) (hm : bfX4_plain_24_47 x rec_X4_test rec_X4_plain rec_X4_comparison rec_X4_inBrackets rec_X4_sum rec_X4_term rec_X4_part  S v1 v2 = some (r, S')) : Agr wX4_test_24 S S' := by
    unfold bfX4_plain_24_47 at hm
    cases h1 : gfX4_here_24 x S with
    | none => rw [h1] at hm; cases hm
    | some q2 =>
      obtain ⟨r3, S4⟩ := q2
      rw [h1] at hm
      dsimp only at hm
      have a_S4 : Agr wX4_test_24 S S4 := Agr.tr Agr.rf (Agr.sub (frX4_here_24 x S _ _ h1) (by decide))
      by_cases c5 : ¬ r3 = 40
      · rw [if_pos c5] at hm
        cases h6 : rec_X4_comparison S4 v1 with
        | none => rw [h6] at hm; cases hm
        | some q7 =>
          obtain ⟨r8, S9⟩ := q7
          rw [h6] at hm
          dsimp only at hm
          have a_S9 : Agr wX4_test_24 S S9 := Agr.tr a_S4 (arec_X4_comparison S4 v1 _ _ h6)
          by_cases c10 : ¬ r8 = 0
          · rw [if_pos c10] at hm
            exact Agr.tr a_S9 (fbX4_plain_24_79 x rec_X4_test arec_X4_test rec_X4_plain arec_X4_plain rec_X4_comparison arec_X4_comparison rec_X4_inBrackets arec_X4_inBrackets rec_X4_sum arec_X4_sum rec_X4_term arec_X4_term rec_X4_part arec_X4_part  S9 v2 _ _ hm)
          · rw [if_neg c10] at hm
            exact Agr.tr a_S9 (fbX4_plain_24_77 x rec_X4_test arec_X4_test rec_X4_plain arec_X4_plain rec_X4_comparison arec_X4_comparison rec_X4_inBrackets arec_X4_inBrackets rec_X4_sum arec_X4_sum rec_X4_term arec_X4_term rec_X4_part arec_X4_part  S9 _ _ hm)
      · rw [if_neg c5] at hm
        cases h11 : rec_X4_inBrackets S4 v1 41 with
        | none => rw [h11] at hm; cases hm
        | some q12 =>
          obtain ⟨r13, S14⟩ := q12
          rw [h11] at hm
          dsimp only at hm
          have a_S14 : Agr wX4_test_24 S S14 := Agr.tr a_S4 (arec_X4_inBrackets S4 v1 41 _ _ h11)
          by_cases c15 : r13 = 0
          · rw [if_pos c15] at hm
            exact Agr.tr a_S14 (fbX4_plain_24_77 x rec_X4_test arec_X4_test rec_X4_plain arec_X4_plain rec_X4_comparison arec_X4_comparison rec_X4_inBrackets arec_X4_inBrackets rec_X4_sum arec_X4_sum rec_X4_term arec_X4_term rec_X4_part arec_X4_part  S14 _ _ hm)
          · rw [if_neg c15] at hm
            exact Agr.tr a_S14 (fbX4_plain_24_79 x rec_X4_test arec_X4_test rec_X4_plain arec_X4_plain rec_X4_comparison arec_X4_comparison rec_X4_inBrackets arec_X4_inBrackets rec_X4_sum arec_X4_sum rec_X4_term arec_X4_term rec_X4_part arec_X4_part  S14 v2 _ _ hm)
set_option maxHeartbeats 4000000 in
set_option maxRecDepth 20000 in
theorem fbX4_plain_24_30 (x : XT) (rec_X4_test : ST → Int32 → Int32 → Option (Int32 × ST)) (arec_X4_test : ∀ (S : ST) (z0 : Int32) (z1 : Int32) (r : Int32) (S' : ST), rec_X4_test S z0 z1 = some (r, S') → Agr wX4_test_24 S S') (rec_X4_plain : ST → Int32 → Option (Int32 × ST)) (arec_X4_plain : ∀ (S : ST) (z0 : Int32) (r : Int32) (S' : ST), rec_X4_plain S z0 = some (r, S') → Agr wX4_test_24 S S') (rec_X4_comparison : ST → Int32 → Option (Int32 × ST)) (arec_X4_comparison : ∀ (S : ST) (z0 : Int32) (r : Int32) (S' : ST), rec_X4_comparison S z0 = some (r, S') → Agr wX4_test_24 S S') (rec_X4_inBrackets : ST → Int32 → Int32 → Option (Int32 × ST)) (arec_X4_inBrackets : ∀ (S : ST) (z0 : Int32) (z1 : Int32) (r : Int32) (S' : ST), rec_X4_inBrackets S z0 z1 = some (r, S') → Agr wX4_test_24 S S') (rec_X4_sum : ST → Int32 → Option (Int32 × ST)) (arec_X4_sum : ∀ (S : ST) (z0 : Int32) (r : Int32) (S' : ST), rec_X4_sum S z0 = some (r, S') → Agr wX4_test_24 S S') (rec_X4_term : ST → Int32 → Option (Int32 × ST)) (arec_X4_term : ∀ (S : ST) (z0 : Int32) (r : Int32) (S' : ST), rec_X4_term S z0 = some (r, S') → Agr wX4_test_24 S S') (rec_X4_part : ST → Int32 → Option (Int32 × ST)) (arec_X4_part : ∀ (S : ST) (z0 : Int32) (r : Int32) (S' : ST), rec_X4_part S z0 = some (r, S') → Agr wX4_test_24 S S') (k4 : ST → Int32 → Int32 → Int32 → Option (Int32 × ST)) (ak4 : ∀ (S : ST) (v1 : Int32) (v2 : Int32) (v3 : Int32) (r : Int32) (S' : ST), k4 S v1 v2 v3 = some (r, S') → Agr wX4_test_24 S S') (S : ST) (v1 : Int32) (v3 : Int32) (t0 : Int32) (r : Int32) (S' : ST) (hm : bfX4_plain_24_30 x rec_X4_test rec_X4_plain rec_X4_comparison rec_X4_inBrackets rec_X4_sum rec_X4_term rec_X4_part k4 S v1 v3 t0 = some (r, S')) : Agr wX4_test_24 S S' := by
    unfold bfX4_plain_24_30 at hm
    exact Agr.tr (Agr.f Agr.rf 24 6 ((S.1 24 6) + 1) (by decide)) (ak4 ((u2 S.1 24 6 ((S.1 24 6) + 1)), S.2.1, S.2.2.1, S.2.2.2) v1 t0 (v3 + 1) _ _ hm)
set_option maxHeartbeats 4000000 in
set_option maxRecDepth 20000 in
theorem fbX4_plain_24_4 (x : XT) (rec_X4_test : ST → Int32 → Int32 → Option (Int32 × ST)) (arec_X4_test : ∀ (S : ST) (z0 : Int32) (z1 : Int32) (r : Int32) (S' : ST), rec_X4_test S z0 z1 = some (r, S') → Agr wX4_test_24 S S') (rec_X4_plain : ST → Int32 → Option (Int32 × ST)) (arec_X4_plain : ∀ (S : ST) (z0 : Int32) (r : Int32) (S' : ST), rec_X4_plain S z0 = some (r, S') → Agr wX4_test_24 S S') (rec_X4_comparison : ST → Int32 → Option (Int32 × ST)) (arec_X4_comparison : ∀ (S : ST) (z0 : Int32) (r : Int32) (S' : ST), rec_X4_comparison S z0 = some (r, S') → Agr wX4_test_24 S S') (rec_X4_inBrackets : ST → Int32 → Int32 → Option (Int32 × ST)) (arec_X4_inBrackets : ∀ (S : ST) (z0 : Int32) (z1 : Int32) (r : Int32) (S' : ST), rec_X4_inBrackets S z0 z1 = some (r, S') → Agr wX4_test_24 S S') (rec_X4_sum : ST → Int32 → Option (Int32 × ST)) (arec_X4_sum : ∀ (S : ST) (z0 : Int32) (r : Int32) (S' : ST), rec_X4_sum S z0 = some (r, S') → Agr wX4_test_24 S S') (rec_X4_term : ST → Int32 → Option (Int32 × ST)) (arec_X4_term : ∀ (S : ST) (z0 : Int32) (r : Int32) (S' : ST), rec_X4_term S z0 = some (r, S') → Agr wX4_test_24 S S') (rec_X4_part : ST → Int32 → Option (Int32 × ST)) (arec_X4_part : ∀ (S : ST) (z0 : Int32) (r : Int32) (S' : ST), rec_X4_part S z0 = some (r, S') → Agr wX4_test_24 S S') (k4 : ST → Int32 → Int32 → Int32 → Option (Int32 × ST)) (ak4 : ∀ (S : ST) (v1 : Int32) (v2 : Int32) (v3 : Int32) (r : Int32) (S' : ST), k4 S v1 v2 v3 = some (r, S') → Agr wX4_test_24 S S') (S : ST) (v1 : Int32) (v2 : Int32) (v3 : Int32) (r : Int32) (S' : ST) (hm : bfX4_plain_24_4 x rec_X4_test rec_X4_plain rec_X4_comparison rec_X4_inBrackets rec_X4_sum rec_X4_term rec_X4_part k4 S v1 v2 v3 = some (r, S')) : Agr wX4_test_24 S S' := by
    unfold bfX4_plain_24_4 at hm
    by_cases c1 : 400 < v3
    · rw [if_pos c1] at hm
      exact Agr.tr Agr.rf (fbX4_plain_24_47 x rec_X4_test arec_X4_test rec_X4_plain arec_X4_plain rec_X4_comparison arec_X4_comparison rec_X4_inBrackets arec_X4_inBrackets rec_X4_sum arec_X4_sum rec_X4_term arec_X4_term rec_X4_part arec_X4_part  S v1 v2 _ _ hm)
    · rw [if_neg c1] at hm
      cases h2 : gfX4_here_24 x S with
      | none => rw [h2] at hm; cases hm
      | some q3 =>
        obtain ⟨r4, S5⟩ := q3
        rw [h2] at hm
        dsimp only at hm
        have a_S5 : Agr wX4_test_24 S S5 := Agr.tr Agr.rf (Agr.sub (frX4_here_24 x S _ _ h2) (by decide))
        by_cases c6 : ¬ r4 = 273
        · rw [if_pos c6] at hm
          exact Agr.tr a_S5 (fbX4_plain_24_47 x rec_X4_test arec_X4_test rec_X4_plain arec_X4_plain rec_X4_comparison arec_X4_comparison rec_X4_inBrackets arec_X4_inBrackets rec_X4_sum arec_X4_sum rec_X4_term arec_X4_term rec_X4_part arec_X4_part  S5 v1 v2 _ _ hm)
        · rw [if_neg c6] at hm
          by_cases c7 : ¬ v2 = 0
          · rw [if_pos c7] at hm
            exact Agr.tr a_S5 (fbX4_plain_24_30 x rec_X4_test arec_X4_test rec_X4_plain arec_X4_plain rec_X4_comparison arec_X4_comparison rec_X4_inBrackets arec_X4_inBrackets rec_X4_sum arec_X4_sum rec_X4_term arec_X4_term rec_X4_part arec_X4_part k4 ak4 S5 v1 v3 0 _ _ hm)
          · rw [if_neg c7] at hm
            exact Agr.tr a_S5 (fbX4_plain_24_30 x rec_X4_test arec_X4_test rec_X4_plain arec_X4_plain rec_X4_comparison arec_X4_comparison rec_X4_inBrackets arec_X4_inBrackets rec_X4_sum arec_X4_sum rec_X4_term arec_X4_term rec_X4_part arec_X4_part k4 ak4 S5 v1 v3 1 _ _ hm)
theorem flX4_plain_24_4 (x : XT) (rec_X4_test : ST → Int32 → Int32 → Option (Int32 × ST)) (arec_X4_test : ∀ (S : ST) (z0 : Int32) (z1 : Int32) (r : Int32) (S' : ST), rec_X4_test S z0 z1 = some (r, S') → Agr wX4_test_24 S S') (rec_X4_plain : ST → Int32 → Option (Int32 × ST)) (arec_X4_plain : ∀ (S : ST) (z0 : Int32) (r : Int32) (S' : ST), rec_X4_plain S z0 = some (r, S') → Agr wX4_test_24 S S') (rec_X4_comparison : ST → Int32 → Option (Int32 × ST)) (arec_X4_comparison : ∀ (S : ST) (z0 : Int32) (r : Int32) (S' : ST), rec_X4_comparison S z0 = some (r, S') → Agr wX4_test_24 S S') (rec_X4_inBrackets : ST → Int32 → Int32 → Option (Int32 × ST)) (arec_X4_inBrackets : ∀ (S : ST) (z0 : Int32) (z1 : Int32) (r : Int32) (S' : ST), rec_X4_inBrackets S z0 z1 = some (r, S') → Agr wX4_test_24 S S') (rec_X4_sum : ST → Int32 → Option (Int32 × ST)) (arec_X4_sum : ∀ (S : ST) (z0 : Int32) (r : Int32) (S' : ST), rec_X4_sum S z0 = some (r, S') → Agr wX4_test_24 S S') (rec_X4_term : ST → Int32 → Option (Int32 × ST)) (arec_X4_term : ∀ (S : ST) (z0 : Int32) (r : Int32) (S' : ST), rec_X4_term S z0 = some (r, S') → Agr wX4_test_24 S S') (rec_X4_part : ST → Int32 → Option (Int32 × ST)) (arec_X4_part : ∀ (S : ST) (z0 : Int32) (r : Int32) (S' : ST), rec_X4_part S z0 = some (r, S') → Agr wX4_test_24 S S')  : ∀ (n : Nat) (S : ST) (v1 : Int32) (v2 : Int32) (v3 : Int32) (r : Int32) (S' : ST), lfX4_plain_24_4 x rec_X4_test rec_X4_plain rec_X4_comparison rec_X4_inBrackets rec_X4_sum rec_X4_term rec_X4_part  n S v1 v2 v3 = some (r, S') → Agr wX4_test_24 S S'
  | 0, _, _, _, _, _, _, hm => by cases hm
  | n + 1, S, v1, v2, v3, r, S', hm => fbX4_plain_24_4 x rec_X4_test arec_X4_test rec_X4_plain arec_X4_plain rec_X4_comparison arec_X4_comparison rec_X4_inBrackets arec_X4_inBrackets rec_X4_sum arec_X4_sum rec_X4_term arec_X4_term rec_X4_part arec_X4_part (lfX4_plain_24_4 x rec_X4_test rec_X4_plain rec_X4_comparison rec_X4_inBrackets rec_X4_sum rec_X4_term rec_X4_part  n) (flX4_plain_24_4 x rec_X4_test arec_X4_test rec_X4_plain arec_X4_plain rec_X4_comparison arec_X4_comparison rec_X4_inBrackets arec_X4_inBrackets rec_X4_sum arec_X4_sum rec_X4_term arec_X4_term rec_X4_part arec_X4_part  n) S v1 v2 v3 r S' hm
set_option maxHeartbeats 4000000 in
set_option maxRecDepth 20000 in
theorem fbX4_plain_24_0 (x : XT) (rec_X4_test : ST → Int32 → Int32 → Option (Int32 × ST)) (arec_X4_test : ∀ (S : ST) (z0 : Int32) (z1 : Int32) (r : Int32) (S' : ST), rec_X4_test S z0 z1 = some (r, S') → Agr wX4_test_24 S S') (rec_X4_plain : ST → Int32 → Option (Int32 × ST)) (arec_X4_plain : ∀ (S : ST) (z0 : Int32) (r : Int32) (S' : ST), rec_X4_plain S z0 = some (r, S') → Agr wX4_test_24 S S') (rec_X4_comparison : ST → Int32 → Option (Int32 × ST)) (arec_X4_comparison : ∀ (S : ST) (z0 : Int32) (r : Int32) (S' : ST), rec_X4_comparison S z0 = some (r, S') → Agr wX4_test_24 S S') (rec_X4_inBrackets : ST → Int32 → Int32 → Option (Int32 × ST)) (arec_X4_inBrackets : ∀ (S : ST) (z0 : Int32) (z1 : Int32) (r : Int32) (S' : ST), rec_X4_inBrackets S z0 z1 = some (r, S') → Agr wX4_test_24 S S') (rec_X4_sum : ST → Int32 → Option (Int32 × ST)) (arec_X4_sum : ∀ (S : ST) (z0 : Int32) (r : Int32) (S' : ST), rec_X4_sum S z0 = some (r, S') → Agr wX4_test_24 S S') (rec_X4_term : ST → Int32 → Option (Int32 × ST)) (arec_X4_term : ∀ (S : ST) (z0 : Int32) (r : Int32) (S' : ST), rec_X4_term S z0 = some (r, S') → Agr wX4_test_24 S S') (rec_X4_part : ST → Int32 → Option (Int32 × ST)) (arec_X4_part : ∀ (S : ST) (z0 : Int32) (r : Int32) (S' : ST), rec_X4_part S z0 = some (r, S') → Agr wX4_test_24 S S')  (S : ST) (p1 : Int32) (r : Int32) (S' : ST) (hm : bfX4_plain_24_0 x rec_X4_test rec_X4_plain rec_X4_comparison rec_X4_inBrackets rec_X4_sum rec_X4_term rec_X4_part  S p1 = some (r, S')) : Agr wX4_test_24 S S' := by
    unfold bfX4_plain_24_0 at hm
    exact Agr.tr Agr.rf (flX4_plain_24_4 x rec_X4_test arec_X4_test rec_X4_plain arec_X4_plain rec_X4_comparison arec_X4_comparison rec_X4_inBrackets arec_X4_inBrackets rec_X4_sum arec_X4_sum rec_X4_term arec_X4_term rec_X4_part arec_X4_part  20000 S p1 0 0 _ _ hm)
theorem frrX4_plain_24 (x : XT) (rec_X4_test : ST → Int32 → Int32 → Option (Int32 × ST)) (arec_X4_test : ∀ (S : ST) (z0 : Int32) (z1 : Int32) (r : Int32) (S' : ST), rec_X4_test S z0 z1 = some (r, S') → Agr wX4_test_24 S S') (rec_X4_plain : ST → Int32 → Option (Int32 × ST)) (arec_X4_plain : ∀ (S : ST) (z0 : Int32) (r : Int32) (S' : ST), rec_X4_plain S z0 = some (r, S') → Agr wX4_test_24 S S') (rec_X4_comparison : ST → Int32 → Option (Int32 × ST)) (arec_X4_comparison : ∀ (S : ST) (z0 : Int32) (r : Int32) (S' : ST), rec_X4_comparison S z0 = some (r, S') → Agr wX4_test_24 S S') (rec_X4_inBrackets : ST → Int32 → Int32 → Option (Int32 × ST)) (arec_X4_inBrackets : ∀ (S : ST) (z0 : Int32) (z1 : Int32) (r : Int32) (S' : ST), rec_X4_inBrackets S z0 z1 = some (r, S') → Agr wX4_test_24 S S') (rec_X4_sum : ST → Int32 → Option (Int32 × ST)) (arec_X4_sum : ∀ (S : ST) (z0 : Int32) (r : Int32) (S' : ST), rec_X4_sum S z0 = some (r, S') → Agr wX4_test_24 S S') (rec_X4_term : ST → Int32 → Option (Int32 × ST)) (arec_X4_term : ∀ (S : ST) (z0 : Int32) (r : Int32) (S' : ST), rec_X4_term S z0 = some (r, S') → Agr wX4_test_24 S S') (rec_X4_part : ST → Int32 → Option (Int32 × ST)) (arec_X4_part : ∀ (S : ST) (z0 : Int32) (r : Int32) (S' : ST), rec_X4_part S z0 = some (r, S') → Agr wX4_test_24 S S') (S : ST) (p1 : Int32) (r : Int32) (S' : ST) (hm : grfX4_plain_24 x rec_X4_test rec_X4_plain rec_X4_comparison rec_X4_inBrackets rec_X4_sum rec_X4_term rec_X4_part S p1 = some (r, S')) : Agr wX4_test_24 S S' := fbX4_plain_24_0 x rec_X4_test arec_X4_test rec_X4_plain arec_X4_plain rec_X4_comparison arec_X4_comparison rec_X4_inBrackets arec_X4_inBrackets rec_X4_sum arec_X4_sum rec_X4_term arec_X4_term rec_X4_part arec_X4_part S p1 r S' hm
set_option maxHeartbeats 4000000 in
set_option maxRecDepth 20000 in
theorem fbX4_comparison_24_38 (x : XT) (rec_X4_test : ST → Int32 → Int32 → Option (Int32 × ST)) (arec_X4_test : ∀ (S : ST) (z0 : Int32) (z1 : Int32) (r : Int32) (S' : ST), rec_X4_test S z0 z1 = some (r, S') → Agr wX4_test_24 S S') (rec_X4_plain : ST → Int32 → Option (Int32 × ST)) (arec_X4_plain : ∀ (S : ST) (z0 : Int32) (r : Int32) (S' : ST), rec_X4_plain S z0 = some (r, S') → Agr wX4_test_24 S S') (rec_X4_comparison : ST → Int32 → Option (Int32 × ST)) (arec_X4_comparison : ∀ (S : ST) (z0 : Int32) (r : Int32) (S' : ST), rec_X4_comparison S z0 = some (r, S') → Agr wX4_test_24 S S') (rec_X4_inBrackets : ST → Int32 → Int32 → Option (Int32 × ST)) (arec_X4_inBrackets : ∀ (S : ST) (z0 : Int32) (z1 : Int32) (r : Int32) (S' : ST), rec_X4_inBrackets S z0 z1 = some (r, S') → Agr wX4_test_24 S S') (rec_X4_sum : ST → Int32 → Option (Int32 × ST)) (arec_X4_sum : ∀ (S : ST) (z0 : Int32) (r : Int32) (S' : ST), rec_X4_sum S z0 = some (r, S') → Agr wX4_test_24 S S') (rec_X4_term : ST → Int32 → Option (Int32 × ST)) (arec_X4_term : ∀ (S : ST) (z0 : Int32) (r : Int32) (S' : ST), rec_X4_term S z0 = some (r, S') → Agr wX4_test_24 S S') (rec_X4_part : ST → Int32 → Option (Int32 × ST)) (arec_X4_part : ∀ (S : ST) (z0 : Int32) (r : Int32) (S' : ST), rec_X4_part S z0 = some (r, S') → Agr wX4_test_24 S S')  (S : ST) (v1 : Int32) (v2 : Int32) (r : Int32) (S' : ST) (hm : bfX4_comparison_24_38 x rec_X4_test rec_X4_plain rec_X4_comparison rec_X4_inBrackets rec_X4_sum rec_X4_term rec_X4_part  S v1 v2 = some (r, S')) : Agr wX4_test_24 S S' := by
    unfold bfX4_comparison_24_38 at hm
    cases h1 : rec_X4_sum ((u2 S.1 24 6 ((S.1 24 6) + 1)), S.2.1, S.2.2.1, S.2.2.2) v1 with
    | none => rw [h1] at hm; cases hm
    | some q2 =>
      obtain ⟨r3, S4⟩ := q2
      rw [h1] at hm
      dsimp only at hm
      have a_S4 : Agr wX4_test_24 S S4 := Agr.tr (Agr.f Agr.rf 24 6 ((S.1 24 6) + 1) (by decide)) (arec_X4_sum ((u2 S.1 24 6 ((S.1 24 6) + 1)), S.2.1, S.2.2.1, S.2.2.2) v1 _ _ h1)
      by_cases c5 : ¬ r3 = 0
      · rw [if_pos c5] at hm
        cases h6 : gfX9_add_25 x S4 v2 0 with
        | none => rw [h6] at hm; cases hm
        | some q7 =>
          obtain ⟨r8, S9⟩ := q7
          rw [h6] at hm
          dsimp only at hm
          have a_S9 : Agr wX4_test_24 S S9 := Agr.tr a_S4 (Agr.sub (frX9_add_25 x S4 v2 0 _ _ h6) (by decide))
          cases hm
          exact a_S9
      · rw [if_neg c5] at hm
        cases hm
        exact a_S4
set_option maxHeartbeats 4000000 in
set_option maxRecDepth 20000 in
theorem fbX4_comparison_24_0 (x : XT) (rec_X4_test : ST → Int32 → Int32 → Option (Int32 × ST)) (arec_X4_test : ∀ (S : ST) (z0 : Int32) (z1 : Int32) (r : Int32) (S' : ST), rec_X4_test S z0 z1 = some (r, S') → Agr wX4_test_24 S S') (rec_X4_plain : ST → Int32 → Option (Int32 × ST)) (arec_X4_plain : ∀ (S : ST) (z0 : Int32) (r : Int32) (S' : ST), rec_X4_plain S z0 = some (r, S') → Agr wX4_test_24 S S') (rec_X4_comparison : ST → Int32 → Option (Int32 × ST)) (arec_X4_comparison : ∀ (S : ST) (z0 : Int32) (r : Int32) (S' : ST), rec_X4_comparison S z0 = some (r, S') → Agr wX4_test_24 S S') (rec_X4_inBrackets : ST → Int32 → Int32 → Option (Int32 × ST)) (arec_X4_inBrackets : ∀ (S : ST) (z0 : Int32) (z1 : Int32) (r : Int32) (S' : ST), rec_X4_inBrackets S z0 z1 = some (r, S') → Agr wX4_test_24 S S') (rec_X4_sum : ST → Int32 → Option (Int32 × ST)) (arec_X4_sum : ∀ (S : ST) (z0 : Int32) (r : Int32) (S' : ST), rec_X4_sum S z0 = some (r, S') → Agr wX4_test_24 S S') (rec_X4_term : ST → Int32 → Option (Int32 × ST)) (arec_X4_term : ∀ (S : ST) (z0 : Int32) (r : Int32) (S' : ST), rec_X4_term S z0 = some (r, S') → Agr wX4_test_24 S S') (rec_X4_part : ST → Int32 → Option (Int32 × ST)) (arec_X4_part : ∀ (S : ST) (z0 : Int32) (r : Int32) (S' : ST), rec_X4_part S z0 = some (r, S') → Agr wX4_test_24 S S')  (S : ST) (p1 : Int32) (r : Int32) (S' : ST) (hm : bfX4_comparison_24_0 x rec_X4_test rec_X4_plain rec_X4_comparison rec_X4_inBrackets rec_X4_sum rec_X4_term rec_X4_part  S p1 = some (r, S')) : Agr wX4_test_24 S S' := by
    unfold bfX4_comparison_24_0 at hm
    cases h1 : rec_X4_sum S p1 with
    | none => rw [h1] at hm; cases hm
    | some q2 =>
      obtain ⟨r3, S4⟩ := q2
      rw [h1] at hm
      dsimp only at hm
      have a_S4 : Agr wX4_test_24 S S4 := Agr.tr Agr.rf (arec_X4_sum S p1 _ _ h1)
      by_cases c5 : ¬ r3 = 0
      · rw [if_pos c5] at hm
        cases h6 : gfX4_here_24 x S4 with
        | none => rw [h6] at hm; cases hm
        | some q7 =>
          obtain ⟨r8, S9⟩ := q7
          rw [h6] at hm
          dsimp only at hm
          have a_S9 : Agr wX4_test_24 S S9 := Agr.tr a_S4 (Agr.sub (frX4_here_24 x S4 _ _ h6) (by decide))
          by_cases c10 : r8 = 60
          · rw [if_pos c10] at hm
            exact Agr.tr a_S9 (fbX4_comparison_24_38 x rec_X4_test arec_X4_test rec_X4_plain arec_X4_plain rec_X4_comparison arec_X4_comparison rec_X4_inBrackets arec_X4_inBrackets rec_X4_sum arec_X4_sum rec_X4_term arec_X4_term rec_X4_part arec_X4_part  S9 p1 r8 _ _ hm)
          · rw [if_neg c10] at hm
            by_cases c11 : r8 = 62
            · rw [if_pos c11] at hm
              exact Agr.tr a_S9 (fbX4_comparison_24_38 x rec_X4_test arec_X4_test rec_X4_plain arec_X4_plain rec_X4_comparison arec_X4_comparison rec_X4_inBrackets arec_X4_inBrackets rec_X4_sum arec_X4_sum rec_X4_term arec_X4_term rec_X4_part arec_X4_part  S9 p1 r8 _ _ hm)
            · rw [if_neg c11] at hm
              by_cases c12 : r8 = 61
              · rw [if_pos c12] at hm
                exact Agr.tr a_S9 (fbX4_comparison_24_38 x rec_X4_test arec_X4_test rec_X4_plain arec_X4_plain rec_X4_comparison arec_X4_comparison rec_X4_inBrackets arec_X4_inBrackets rec_X4_sum arec_X4_sum rec_X4_term arec_X4_term rec_X4_part arec_X4_part  S9 p1 r8 _ _ hm)
              · rw [if_neg c12] at hm
                cases h13 : gfX4_faulty_24 x S9 with
                | none => rw [h13] at hm; cases hm
                | some q14 =>
                  obtain ⟨r15, S16⟩ := q14
                  rw [h13] at hm
                  dsimp only at hm
                  have a_S16 : Agr wX4_test_24 S S16 := Agr.tr a_S9 (Agr.sub (frX4_faulty_24 x S9 _ _ h13) (by decide))
                  obtain ⟨o17, hm⟩ := oblk hm
                  cases hm
                  exact a_S16
      · rw [if_neg c5] at hm
        cases hm
        exact a_S4
theorem frrX4_comparison_24 (x : XT) (rec_X4_test : ST → Int32 → Int32 → Option (Int32 × ST)) (arec_X4_test : ∀ (S : ST) (z0 : Int32) (z1 : Int32) (r : Int32) (S' : ST), rec_X4_test S z0 z1 = some (r, S') → Agr wX4_test_24 S S') (rec_X4_plain : ST → Int32 → Option (Int32 × ST)) (arec_X4_plain : ∀ (S : ST) (z0 : Int32) (r : Int32) (S' : ST), rec_X4_plain S z0 = some (r, S') → Agr wX4_test_24 S S') (rec_X4_comparison : ST → Int32 → Option (Int32 × ST)) (arec_X4_comparison : ∀ (S : ST) (z0 : Int32) (r : Int32) (S' : ST), rec_X4_comparison S z0 = some (r, S') → Agr wX4_test_24 S S') (rec_X4_inBrackets : ST → Int32 → Int32 → Option (Int32 × ST)) (arec_X4_inBrackets : ∀ (S : ST) (z0 : Int32) (z1 : Int32) (r : Int32) (S' : ST), rec_X4_inBrackets S z0 z1 = some (r, S') → Agr wX4_test_24 S S') (rec_X4_sum : ST → Int32 → Option (Int32 × ST)) (arec_X4_sum : ∀ (S : ST) (z0 : Int32) (r : Int32) (S' : ST), rec_X4_sum S z0 = some (r, S') → Agr wX4_test_24 S S') (rec_X4_term : ST → Int32 → Option (Int32 × ST)) (arec_X4_term : ∀ (S : ST) (z0 : Int32) (r : Int32) (S' : ST), rec_X4_term S z0 = some (r, S') → Agr wX4_test_24 S S') (rec_X4_part : ST → Int32 → Option (Int32 × ST)) (arec_X4_part : ∀ (S : ST) (z0 : Int32) (r : Int32) (S' : ST), rec_X4_part S z0 = some (r, S') → Agr wX4_test_24 S S') (S : ST) (p1 : Int32) (r : Int32) (S' : ST) (hm : grfX4_comparison_24 x rec_X4_test rec_X4_plain rec_X4_comparison rec_X4_inBrackets rec_X4_sum rec_X4_term rec_X4_part S p1 = some (r, S')) : Agr wX4_test_24 S S' := fbX4_comparison_24_0 x rec_X4_test arec_X4_test rec_X4_plain arec_X4_plain rec_X4_comparison arec_X4_comparison rec_X4_inBrackets arec_X4_inBrackets rec_X4_sum arec_X4_sum rec_X4_term arec_X4_term rec_X4_part arec_X4_part S p1 r S' hm
set_option maxHeartbeats 4000000 in
set_option maxRecDepth 20000 in
theorem fbX4_inBrackets_24_66 (x : XT) (rec_X4_test : ST → Int32 → Int32 → Option (Int32 × ST)) (arec_X4_test : ∀ (S : ST) (z0 : Int32) (z1 : Int32) (r : Int32) (S' : ST), rec_X4_test S z0 z1 = some (r, S') → Agr wX4_test_24 S S') (rec_X4_plain : ST → Int32 → Option (Int32 × ST)) (arec_X4_plain : ∀ (S : ST) (z0 : Int32) (r : Int32) (S' : ST), rec_X4_plain S z0 = some (r, S') → Agr wX4_test_24 S S') (rec_X4_comparison : ST → Int32 → Option (Int32 × ST)) (arec_X4_comparison : ∀ (S : ST) (z0 : Int32) (r : Int32) (S' : ST), rec_X4_comparison S z0 = some (r, S') → Agr wX4_test_24 S S') (rec_X4_inBrackets : ST → Int32 → Int32 → Option (Int32 × ST)) (arec_X4_inBrackets : ∀ (S : ST) (z0 : Int32) (z1 : Int32) (r : Int32) (S' : ST), rec_X4_inBrackets S z0 z1 = some (r, S') → Agr wX4_test_24 S S') (rec_X4_sum : ST → Int32 → Option (Int32 × ST)) (arec_X4_sum : ∀ (S : ST) (z0 : Int32) (r : Int32) (S' : ST), rec_X4_sum S z0 = some (r, S') → Agr wX4_test_24 S S') (rec_X4_term : ST → Int32 → Option (Int32 × ST)) (arec_X4_term : ∀ (S : ST) (z0 : Int32) (r : Int32) (S' : ST), rec_X4_term S z0 = some (r, S') → Agr wX4_test_24 S S') (rec_X4_part : ST → Int32 → Option (Int32 × ST)) (arec_X4_part : ∀ (S : ST) (z0 : Int32) (r : Int32) (S' : ST), rec_X4_part S z0 = some (r, S') → Agr wX4_test_24 S S')  (S : ST) (t0 : Int32) (r : Int32) (S' : ST) (hm : bfX4_inBrackets_24_66 x rec_X4_test rec_X4_plain rec_X4_comparison rec_X4_inBrackets rec_X4_sum rec_X4_term rec_X4_part  S t0 = some (r, S')) : Agr wX4_test_24 S S' := by
    unfold bfX4_inBrackets_24_66 at hm
    obtain ⟨o1, hm⟩ := oblk hm
    cases hm
    exact Agr.rf
set_option maxHeartbeats 4000000 in
set_option maxRecDepth 20000 in
theorem fbX4_inBrackets_24_65 (x : XT) (rec_X4_test : ST → Int32 → Int32 → Option (Int32 × ST)) (arec_X4_test : ∀ (S : ST) (z0 : Int32) (z1 : Int32) (r : Int32) (S' : ST), rec_X4_test S z0 z1 = some (r, S') → Agr wX4_test_24 S S') (rec_X4_plain : ST → Int32 → Option (Int32 × ST)) (arec_X4_plain : ∀ (S : ST) (z0 : Int32) (r : Int32) (S' : ST), rec_X4_plain S z0 = some (r, S') → Agr wX4_test_24 S S') (rec_X4_comparison : ST → Int32 → Option (Int32 × ST)) (arec_X4_comparison : ∀ (S : ST) (z0 : Int32) (r : Int32) (S' : ST), rec_X4_comparison S z0 = some (r, S') → Agr wX4_test_24 S S') (rec_X4_inBrackets : ST → Int32 → Int32 → Option (Int32 × ST)) (arec_X4_inBrackets : ∀ (S : ST) (z0 : Int32) (z1 : Int32) (r : Int32) (S' : ST), rec_X4_inBrackets S z0 z1 = some (r, S') → Agr wX4_test_24 S S') (rec_X4_sum : ST → Int32 → Option (Int32 × ST)) (arec_X4_sum : ∀ (S : ST) (z0 : Int32) (r : Int32) (S' : ST), rec_X4_sum S z0 = some (r, S') → Agr wX4_test_24 S S') (rec_X4_term : ST → Int32 → Option (Int32 × ST)) (arec_X4_term : ∀ (S : ST) (z0 : Int32) (r : Int32) (S' : ST), rec_X4_term S z0 = some (r, S') → Agr wX4_test_24 S S') (rec_X4_part : ST → Int32 → Option (Int32 × ST)) (arec_X4_part : ∀ (S : ST) (z0 : Int32) (r : Int32) (S' : ST), rec_X4_part S z0 = some (r, S') → Agr wX4_test_24 S S')  (S : ST)  (r : Int32) (S' : ST) (hm : bfX4_inBrackets_24_65 x rec_X4_test rec_X4_plain rec_X4_comparison rec_X4_inBrackets rec_X4_sum rec_X4_term rec_X4_part  S  = some (r, S')) : Agr wX4_test_24 S S' := by
    unfold bfX4_inBrackets_24_65 at hm
    exact Agr.tr Agr.rf (fbX4_inBrackets_24_66 x rec_X4_test arec_X4_test rec_X4_plain arec_X4_plain rec_X4_comparison arec_X4_comparison rec_X4_inBrackets arec_X4_inBrackets rec_X4_sum arec_X4_sum rec_X4_term arec_X4_term rec_X4_part arec_X4_part  S 0 _ _ hm)
set_option maxHeartbeats 4000000 in
set_option maxRecDepth 20000 in
theorem fbX4_inBrackets_24_53 (x : XT) (rec_X4_test : ST → Int32 → Int32 → Option (Int32 × ST)) (arec_X4_test : ∀ (S : ST) (z0 : Int32) (z1 : Int32) (r : Int32) (S' : ST), rec_X4_test S z0 z1 = some (r, S') → Agr wX4_test_24 S S') (rec_X4_plain : ST → Int32 → Option (Int32 × ST)) (arec_X4_plain : ∀ (S : ST) (z0 : Int32) (r : Int32) (S' : ST), rec_X4_plain S z0 = some (r, S') → Agr wX4_test_24 S S') (rec_X4_comparison : ST → Int32 → Option (Int32 × ST)) (arec_X4_comparison : ∀ (S : ST) (z0 : Int32) (r : Int32) (S' : ST), rec_X4_comparison S z0 = some (r, S') → Agr wX4_test_24 S S') (rec_X4_inBrackets : ST → Int32 → Int32 → Option (Int32 × ST)) (arec_X4_inBrackets : ∀ (S : ST) (z0 : Int32) (z1 : Int32) (r : Int32) (S' : ST), rec_X4_inBrackets S z0 z1 = some (r, S') → Agr wX4_test_24 S S') (rec_X4_sum : ST → Int32 → Option (Int32 × ST)) (arec_X4_sum : ∀ (S : ST) (z0 : Int32) (r : Int32) (S' : ST), rec_X4_sum S z0 = some (r, S') → Agr wX4_test_24 S S') (rec_X4_term : ST → Int32 → Option (Int32 × ST)) (arec_X4_term : ∀ (S : ST) (z0 : Int32) (r : Int32) (S' : ST), rec_X4_term S z0 = some (r, S') → Agr wX4_test_24 S S') (rec_X4_part : ST → Int32 → Option (Int32 × ST)) (arec_X4_part : ∀ (S : ST) (z0 : Int32) (r : Int32) (S' : ST), rec_X4_part S z0 = some (r, S') → Agr wX4_test_24 S S')  (S : ST) (v2 : Int32) (r : Int32) (S' : ST) (hm : bfX4_inBrackets_24_53 x rec_X4_test rec_X4_plain rec_X4_comparison rec_X4_inBrackets rec_X4_sum rec_X4_term rec_X4_part  S v2 = some (r, S')) : Agr wX4_test_24 S S' := by
    unfold bfX4_inBrackets_24_53 at hm
    cases h1 : gfX4_take_24 x S v2 with
    | none => rw [h1] at hm; cases hm
    | some q2 =>
      obtain ⟨r3, S4⟩ := q2
      rw [h1] at hm
      dsimp only at hm
      have a_S4 : Agr wX4_test_24 S S4 := Agr.tr Agr.rf (Agr.sub (frX4_take_24 x S v2 _ _ h1) (by decide))
      by_cases c5 : r3 = 0
      · rw [if_pos c5] at hm
        exact Agr.tr a_S4 (fbX4_inBrackets_24_65 x rec_X4_test arec_X4_test rec_X4_plain arec_X4_plain rec_X4_comparison arec_X4_comparison rec_X4_inBrackets arec_X4_inBrackets rec_X4_sum arec_X4_sum rec_X4_term arec_X4_term rec_X4_part arec_X4_part  S4 _ _ hm)
      · rw [if_neg c5] at hm
        exact Agr.tr a_S4 (fbX4_inBrackets_24_66 x rec_X4_test arec_X4_test rec_X4_plain arec_X4_plain rec_X4_comparison arec_X4_comparison rec_X4_inBrackets arec_X4_inBrackets rec_X4_sum arec_X4_sum rec_X4_term arec_X4_term rec_X4_part arec_X4_part  S4 1 _ _ hm)
set_option maxHeartbeats 4000000 in
set_option maxRecDepth 20000 in
theorem fbX4_inBrackets_24_0 (x : XT) (rec_X4_test : ST → Int32 → Int32 → Option (Int32 × ST)) (arec_X4_test : ∀ (S : ST) (z0 : Int32) (z1 : Int32) (r : Int32) (S' : ST), rec_X4_test S z0 z1 = some (r, S') → Agr wX4_test_24 S S') (rec_X4_plain : ST → Int32 → Option (Int32 × ST)) (arec_X4_plain : ∀ (S : ST) (z0 : Int32) (r : Int32) (S' : ST), rec_X4_plain S z0 = some (r, S') → Agr wX4_test_24 S S') (rec_X4_comparison : ST → Int32 → Option (Int32 × ST)) (arec_X4_comparison : ∀ (S : ST) (z0 : Int32) (r : Int32) (S' : ST), rec_X4_comparison S z0 = some (r, S') → Agr wX4_test_24 S S') (rec_X4_inBrackets : ST → Int32 → Int32 → Option (Int32 × ST)) (arec_X4_inBrackets : ∀ (S : ST) (z0 : Int32) (z1 : Int32) (r : Int32) (S' : ST), rec_X4_inBrackets S z0 z1 = some (r, S') → Agr wX4_test_24 S S') (rec_X4_sum : ST → Int32 → Option (Int32 × ST)) (arec_X4_sum : ∀ (S : ST) (z0 : Int32) (r : Int32) (S' : ST), rec_X4_sum S z0 = some (r, S') → Agr wX4_test_24 S S') (rec_X4_term : ST → Int32 → Option (Int32 × ST)) (arec_X4_term : ∀ (S : ST) (z0 : Int32) (r : Int32) (S' : ST), rec_X4_term S z0 = some (r, S') → Agr wX4_test_24 S S') (rec_X4_part : ST → Int32 → Option (Int32 × ST)) (arec_X4_part : ∀ (S : ST) (z0 : Int32) (r : Int32) (S' : ST), rec_X4_part S z0 = some (r, S') → Agr wX4_test_24 S S')  (S : ST) (p1 : Int32) (p2 : Int32) (r : Int32) (S' : ST) (hm : bfX4_inBrackets_24_0 x rec_X4_test rec_X4_plain rec_X4_comparison rec_X4_inBrackets rec_X4_sum rec_X4_term rec_X4_part  S p1 p2 = some (r, S')) : Agr wX4_test_24 S S' := by
    unfold bfX4_inBrackets_24_0 at hm
    by_cases c1 : p1 < 8
    · rw [if_pos c1] at hm
      by_cases c2 : ¬ p2 = 41
      · rw [if_pos c2] at hm
        cases h3 : rec_X4_sum ((u2 S.1 24 6 ((S.1 24 6) + 1)), S.2.1, S.2.2.1, S.2.2.2) (p1 + 1) with
        | none => rw [h3] at hm; cases hm
        | some q4 =>
          obtain ⟨r5, S6⟩ := q4
          rw [h3] at hm
          dsimp only at hm
          have a_S6 : Agr wX4_test_24 S S6 := Agr.tr (Agr.f Agr.rf 24 6 ((S.1 24 6) + 1) (by decide)) (arec_X4_sum ((u2 S.1 24 6 ((S.1 24 6) + 1)), S.2.1, S.2.2.1, S.2.2.2) (p1 + 1) _ _ h3)
          by_cases c7 : r5 = 0
          · rw [if_pos c7] at hm
            exact Agr.tr a_S6 (fbX4_inBrackets_24_65 x rec_X4_test arec_X4_test rec_X4_plain arec_X4_plain rec_X4_comparison arec_X4_comparison rec_X4_inBrackets arec_X4_inBrackets rec_X4_sum arec_X4_sum rec_X4_term arec_X4_term rec_X4_part arec_X4_part  S6 _ _ hm)
          · rw [if_neg c7] at hm
            exact Agr.tr a_S6 (fbX4_inBrackets_24_53 x rec_X4_test arec_X4_test rec_X4_plain arec_X4_plain rec_X4_comparison arec_X4_comparison rec_X4_inBrackets arec_X4_inBrackets rec_X4_sum arec_X4_sum rec_X4_term arec_X4_term rec_X4_part arec_X4_part  S6 p2 _ _ hm)
      · rw [if_neg c2] at hm
        cases h8 : rec_X4_test ((u2 S.1 24 6 ((S.1 24 6) + 1)), S.2.1, S.2.2.1, S.2.2.2) (p1 + 1) 271 with
        | none => rw [h8] at hm; cases hm
        | some q9 =>
          obtain ⟨r10, S11⟩ := q9
          rw [h8] at hm
          dsimp only at hm
          have a_S11 : Agr wX4_test_24 S S11 := Agr.tr (Agr.f Agr.rf 24 6 ((S.1 24 6) + 1) (by decide)) (arec_X4_test ((u2 S.1 24 6 ((S.1 24 6) + 1)), S.2.1, S.2.2.1, S.2.2.2) (p1 + 1) 271 _ _ h8)
          by_cases c12 : r10 = 0
          · rw [if_pos c12] at hm
            exact Agr.tr a_S11 (fbX4_inBrackets_24_65 x rec_X4_test arec_X4_test rec_X4_plain arec_X4_plain rec_X4_comparison arec_X4_comparison rec_X4_inBrackets arec_X4_inBrackets rec_X4_sum arec_X4_sum rec_X4_term arec_X4_term rec_X4_part arec_X4_part  S11 _ _ hm)
          · rw [if_neg c12] at hm
            exact Agr.tr a_S11 (fbX4_inBrackets_24_53 x rec_X4_test arec_X4_test rec_X4_plain arec_X4_plain rec_X4_comparison arec_X4_comparison rec_X4_inBrackets arec_X4_inBrackets rec_X4_sum arec_X4_sum rec_X4_term arec_X4_term rec_X4_part arec_X4_part  S11 p2 _ _ hm)
    · rw [if_neg c1] at hm
      cases h13 : gfX4_faulty_24 x S with
      | none => rw [h13] at hm; cases hm
      | some q14 =>
        obtain ⟨r15, S16⟩ := q14
        rw [h13] at hm
        dsimp only at hm
        have a_S16 : Agr wX4_test_24 S S16 := Agr.tr Agr.rf (Agr.sub (frX4_faulty_24 x S _ _ h13) (by decide))
        obtain ⟨o17, hm⟩ := oblk hm
        cases hm
        exact a_S16
theorem frrX4_inBrackets_24 (x : XT) (rec_X4_test : ST → Int32 → Int32 → Option (Int32 × ST)) (arec_X4_test : ∀ (S : ST) (z0 : Int32) (z1 : Int32) (r : Int32) (S' : ST), rec_X4_test S z0 z1 = some (r, S') → Agr wX4_test_24 S S') (rec_X4_plain : ST → Int32 → Option (Int32 × ST)) (arec_X4_plain : ∀ (S : ST) (z0 : Int32) (r : Int32) (S' : ST), rec_X4_plain S z0 = some (r, S') → Agr wX4_test_24 S S') (rec_X4_comparison : ST → Int32 → Option (Int32 × ST)) (arec_X4_comparison : ∀ (S : ST) (z0 : Int32) (r : Int32) (S' : ST), rec_X4_comparison S z0 = some (r, S') → Agr wX4_test_24 S S') (rec_X4_inBrackets : ST → Int32 → Int32 → Option (Int32 × ST)) (arec_X4_inBrackets : ∀ (S : ST) (z0 : Int32) (z1 : Int32) (r : Int32) (S' : ST), rec_X4_inBrackets S z0 z1 = some (r, S') → Agr wX4_test_24 S S') (rec_X4_sum : ST → Int32 → Option (Int32 × ST)) (arec_X4_sum : ∀ (S : ST) (z0 : Int32) (r : Int32) (S' : ST), rec_X4_sum S z0 = some (r, S') → Agr wX4_test_24 S S') (rec_X4_term : ST → Int32 → Option (Int32 × ST)) (arec_X4_term : ∀ (S : ST) (z0 : Int32) (r : Int32) (S' : ST), rec_X4_term S z0 = some (r, S') → Agr wX4_test_24 S S') (rec_X4_part : ST → Int32 → Option (Int32 × ST)) (arec_X4_part : ∀ (S : ST) (z0 : Int32) (r : Int32) (S' : ST), rec_X4_part S z0 = some (r, S') → Agr wX4_test_24 S S') (S : ST) (p1 : Int32) (p2 : Int32) (r : Int32) (S' : ST) (hm : grfX4_inBrackets_24 x rec_X4_test rec_X4_plain rec_X4_comparison rec_X4_inBrackets rec_X4_sum rec_X4_term rec_X4_part S p1 p2 = some (r, S')) : Agr wX4_test_24 S S' := fbX4_inBrackets_24_0 x rec_X4_test arec_X4_test rec_X4_plain arec_X4_plain rec_X4_comparison arec_X4_comparison rec_X4_inBrackets arec_X4_inBrackets rec_X4_sum arec_X4_sum rec_X4_term arec_X4_term rec_X4_part arec_X4_part S p1 p2 r S' hm
set_option maxHeartbeats 4000000 in
set_option maxRecDepth 20000 in
theorem fbX4_sum_24_76 (x : XT) (rec_X4_test : ST → Int32 → Int32 → Option (Int32 × ST)) (arec_X4_test : ∀ (S : ST) (z0 : Int32) (z1 : Int32) (r : Int32) (S' : ST), rec_X4_test S z0 z1 = some (r, S') → Agr wX4_test_24 S S') (rec_X4_plain : ST → Int32 → Option (Int32 × ST)) (arec_X4_plain : ∀ (S : ST) (z0 : Int32) (r : Int32) (S' : ST), rec_X4_plain S z0 = some (r, S') → Agr wX4_test_24 S S') (rec_X4_comparison : ST → Int32 → Option (Int32 × ST)) (arec_X4_comparison : ∀ (S : ST) (z0 : Int32) (r : Int32) (S' : ST), rec_X4_comparison S z0 = some (r, S') → Agr wX4_test_24 S S') (rec_X4_inBrackets : ST → Int32 → Int32 → Option (Int32 × ST)) (arec_X4_inBrackets : ∀ (S : ST) (z0 : Int32) (z1 : Int32) (r : Int32) (S' : ST), rec_X4_inBrackets S z0 z1 = some (r, S') → Agr wX4_test_24 S S') (rec_X4_sum : ST → Int32 → Option (Int32 × ST)) (arec_X4_sum : ∀ (S : ST) (z0 : Int32) (r : Int32) (S' : ST), rec_X4_sum S z0 = some (r, S') → Agr wX4_test_24 S S') (rec_X4_term : ST → Int32 → Option (Int32 × ST)) (arec_X4_term : ∀ (S : ST) (z0 : Int32) (r : Int32) (S' : ST), rec_X4_term S z0 = some (r, S') → Agr wX4_test_24 S S') (rec_X4_part : ST → Int32 → Option (Int32 × ST)) (arec_X4_part : ∀ (S : ST) (z0 : Int32) (r : Int32) (S' : ST), rec_X4_part S z0 = some (r, S') → Agr wX4_test_24 S S')  (S : ST) (v2 : Int32) (r : Int32) (S' : ST) (hm : bfX4_sum_24_76 x rec_X4_test rec_X4_plain rec_X4_comparison rec_X4_inBrackets rec_X4_sum rec_X4_term rec_X4_part  S v2 = some (r, S')) : Agr wX4_test_24 S S' := by
    unfold bfX4_sum_24_76 at hm
    obtain ⟨o1, hm⟩ := oblk hm
    cases hm
    exact Agr.rf
set_option maxHeartbeats 4000000 in
set_option maxRecDepth 20000 in
theorem fbX4_sum_24_37 (x : XT) (rec_X4_test : ST → Int32 → Int32 → Option (Int32 × ST)) (arec_X4_test : ∀ (S : ST) (z0 : Int32) (z1 : Int32) (r : Int32) (S' : ST), rec_X4_test S z0 z1 = some (r, S') → Agr wX4_test_24 S S') (rec_X4_plain : ST → Int32 → Option (Int32 × ST)) (arec_X4_plain : ∀ (S : ST) (z0 : Int32) (r : Int32) (S' : ST), rec_X4_plain S z0 = some (r, S') → Agr wX4_test_24 S S') (rec_X4_comparison : ST → Int32 → Option (Int32 × ST)) (arec_X4_comparison : ∀ (S : ST) (z0 : Int32) (r : Int32) (S' : ST), rec_X4_comparison S z0 = some (r, S') → Agr wX4_test_24 S S') (rec_X4_inBrackets : ST → Int32 → Int32 → Option (Int32 × ST)) (arec_X4_inBrackets : ∀ (S : ST) (z0 : Int32) (z1 : Int32) (r : Int32) (S' : ST), rec_X4_inBrackets S z0 z1 = some (r, S') → Agr wX4_test_24 S S') (rec_X4_sum : ST → Int32 → Option (Int32 × ST)) (arec_X4_sum : ∀ (S : ST) (z0 : Int32) (r : Int32) (S' : ST), rec_X4_sum S z0 = some (r, S') → Agr wX4_test_24 S S') (rec_X4_term : ST → Int32 → Option (Int32 × ST)) (arec_X4_term : ∀ (S : ST) (z0 : Int32) (r : Int32) (S' : ST), rec_X4_term S z0 = some (r, S') → Agr wX4_test_24 S S') (rec_X4_part : ST → Int32 → Option (Int32 × ST)) (arec_X4_part : ∀ (S : ST) (z0 : Int32) (r : Int32) (S' : ST), rec_X4_part S z0 = some (r, S') → Agr wX4_test_24 S S') (k8 : ST → Int32 → Int32 → Int32 → Option (Int32 × ST)) (ak8 : ∀ (S : ST) (v1 : Int32) (v2 : Int32) (v3 : Int32) (r : Int32) (S' : ST), k8 S v1 v2 v3 = some (r, S') → Agr wX4_test_24 S S') (S : ST) (v1 : Int32) (v3 : Int32) (r : Int32) (S' : ST) (hm : bfX4_sum_24_37 x rec_X4_test rec_X4_plain rec_X4_comparison rec_X4_inBrackets rec_X4_sum rec_X4_term rec_X4_part k8 S v1 v3 = some (r, S')) : Agr wX4_test_24 S S' := by
    unfold bfX4_sum_24_37 at hm
    cases h1 : gfX4_here_24 x S with
    | none => rw [h1] at hm; cases hm
    | some q2 =>
      obtain ⟨r3, S4⟩ := q2
      rw [h1] at hm
      dsimp only at hm
      have a_S4 : Agr wX4_test_24 S S4 := Agr.tr Agr.rf (Agr.sub (frX4_here_24 x S _ _ h1) (by decide))
      cases h5 : rec_X4_term ((u2 S4.1 24 6 ((S4.1 24 6) + 1)), S4.2.1, S4.2.2.1, S4.2.2.2) v1 with
      | none => rw [h5] at hm; cases hm
      | some q6 =>
        obtain ⟨r7, S8⟩ := q6
        rw [h5] at hm
        dsimp only at hm
        have a_S8 : Agr wX4_test_24 S S8 := Agr.tr (Agr.f a_S4 24 6 ((S4.1 24 6) + 1) (by decide)) (arec_X4_term ((u2 S4.1 24 6 ((S4.1 24 6) + 1)), S4.2.1, S4.2.2.1, S4.2.2.2) v1 _ _ h5)
        cases h9 : gfX9_add_25 x S8 r3 0 with
        | none => rw [h9] at hm; cases hm
        | some q10 =>
          obtain ⟨r11, S12⟩ := q10
          rw [h9] at hm
          dsimp only at hm
          have a_S12 : Agr wX4_test_24 S S12 := Agr.tr a_S8 (Agr.sub (frX9_add_25 x S8 r3 0 _ _ h9) (by decide))
          exact Agr.tr a_S12 (ak8 S12 v1 r7 (v3 + 1) _ _ hm)
set_option maxHeartbeats 4000000 in
set_option maxRecDepth 20000 in
theorem fbX4_sum_24_8 (x : XT) (rec_X4_test : ST → Int32 → Int32 → Option (Int32 × ST)) (arec_X4_test : ∀ (S : ST) (z0 : Int32) (z1 : Int32) (r : Int32) (S' : ST), rec_X4_test S z0 z1 = some (r, S') → Agr wX4_test_24 S S') (rec_X4_plain : ST → Int32 → Option (Int32 × ST)) (arec_X4_plain : ∀ (S : ST) (z0 : Int32) (r : Int32) (S' : ST), rec_X4_plain S z0 = some (r, S') → Agr wX4_test_24 S S') (rec_X4_comparison : ST → Int32 → Option (Int32 × ST)) (arec_X4_comparison : ∀ (S : ST) (z0 : Int32) (r : Int32) (S' : ST), rec_X4_comparison S z0 = some (r, S') → Agr wX4_test_24 S S') (rec_X4_inBrackets : ST → Int32 → Int32 → Option (Int32 × ST)) (arec_X4_inBrackets : ∀ (S : ST) (z0 : Int32) (z1 : Int32) (r : Int32) (S' : ST), rec_X4_inBrackets S z0 z1 = some (r, S') → Agr wX4_test_24 S S') (rec_X4_sum : ST → Int32 → Option (Int32 × ST)) (arec_X4_sum : ∀ (S : ST) (z0 : Int32) (r : Int32) (S' : ST), rec_X4_sum S z0 = some (r, S') → Agr wX4_test_24 S S') (rec_X4_term : ST → Int32 → Option (Int32 × ST)) (arec_X4_term : ∀ (S : ST) (z0 : Int32) (r : Int32) (S' : ST), rec_X4_term S z0 = some (r, S') → Agr wX4_test_24 S S') (rec_X4_part : ST → Int32 → Option (Int32 × ST)) (arec_X4_part : ∀ (S : ST) (z0 : Int32) (r : Int32) (S' : ST), rec_X4_part S z0 = some (r, S') → Agr wX4_test_24 S S') (k8 : ST → Int32 → Int32 → Int32 → Option (Int32 × ST)) (ak8 : ∀ (S : ST) (v1 : Int32) (v2 : Int32) (v3 : Int32) (r : Int32) (S' : ST), k8 S v1 v2 v3 = some (r, S') → Agr wX4_test_24 S S') (S : ST) (v1 : Int32) (v2 : Int32) (v3 : Int32) (r : Int32) (S' : ST) (hm : bfX4_sum_24_8 x rec_X4_test rec_X4_plain rec_X4_comparison rec_X4_inBrackets rec_X4_sum rec_X4_term rec_X4_part k8 S v1 v2 v3 = some (r, S')) : Agr wX4_test_24 S S' := by
    unfold bfX4_sum_24_8 at hm
    by_cases c1 : 400 < v3
    · rw [if_pos c1] at hm
      exact Agr.tr Agr.rf (fbX4_sum_24_76 x rec_X4_test arec_X4_test rec_X4_plain arec_X4_plain rec_X4_comparison arec_X4_comparison rec_X4_inBrackets arec_X4_inBrackets rec_X4_sum arec_X4_sum rec_X4_term arec_X4_term rec_X4_part arec_X4_part  S v2 _ _ hm)
    · rw [if_neg c1] at hm
      by_cases c2 : v2 = 0
      · rw [if_pos c2] at hm
        exact Agr.tr Agr.rf (fbX4_sum_24_76 x rec_X4_test arec_X4_test rec_X4_plain arec_X4_plain rec_X4_comparison arec_X4_comparison rec_X4_inBrackets arec_X4_inBrackets rec_X4_sum arec_X4_sum rec_X4_term arec_X4_term rec_X4_part arec_X4_part  S v2 _ _ hm)
      · rw [if_neg c2] at hm
        cases h3 : gfX4_here_24 x S with
        | none => rw [h3] at hm; cases hm
        | some q4 =>
          obtain ⟨r5, S6⟩ := q4
          rw [h3] at hm
          dsimp only at hm
          have a_S6 : Agr wX4_test_24 S S6 := Agr.tr Agr.rf (Agr.sub (frX4_here_24 x S _ _ h3) (by decide))
          by_cases c7 : r5 = 43
          · rw [if_pos c7] at hm
            exact Agr.tr a_S6 (fbX4_sum_24_37 x rec_X4_test arec_X4_test rec_X4_plain arec_X4_plain rec_X4_comparison arec_X4_comparison rec_X4_inBrackets arec_X4_inBrackets rec_X4_sum arec_X4_sum rec_X4_term arec_X4_term rec_X4_part arec_X4_part k8 ak8 S6 v1 v3 _ _ hm)
          · rw [if_neg c7] at hm
            cases h8 : gfX4_here_24 x S6 with
            | none => rw [h8] at hm; cases hm
            | some q9 =>
              obtain ⟨r10, S11⟩ := q9
              rw [h8] at hm
              dsimp only at hm
              have a_S11 : Agr wX4_test_24 S S11 := Agr.tr a_S6 (Agr.sub (frX4_here_24 x S6 _ _ h8) (by decide))
              by_cases c12 : ¬ r10 = 45
              · rw [if_pos c12] at hm
                exact Agr.tr a_S11 (fbX4_sum_24_76 x rec_X4_test arec_X4_test rec_X4_plain arec_X4_plain rec_X4_comparison arec_X4_comparison rec_X4_inBrackets arec_X4_inBrackets rec_X4_sum arec_X4_sum rec_X4_term arec_X4_term rec_X4_part arec_X4_part  S11 v2 _ _ hm)
              · rw [if_neg c12] at hm
                exact Agr.tr a_S11 (fbX4_sum_24_37 x rec_X4_test arec_X4_test rec_X4_plain arec_X4_plain rec_X4_comparison arec_X4_comparison rec_X4_inBrackets arec_X4_inBrackets rec_X4_sum arec_X4_sum rec_X4_term arec_X4_term rec_X4_part arec_X4_part k8 ak8 S11 v1 v3 _ _ hm)
theorem flX4_sum_24_8 (x : XT) (rec_X4_test : ST → Int32 → Int32 → Option (Int32 × ST)) (arec_X4_test : ∀ (S : ST) (z0 : Int32) (z1 : Int32) (r : Int32) (S' : ST), rec_X4_test S z0 z1 = some (r, S') → Agr wX4_test_24 S S') (rec_X4_plain : ST → Int32 → Option (Int32 × ST)) (arec_X4_plain : ∀ (S : ST) (z0 : Int32) (r : Int32) (S' : ST), rec_X4_plain S z0 = some (r, S') → Agr wX4_test_24 S S') (rec_X4_comparison : ST → Int32 → Option (Int32 × ST)) (arec_X4_comparison : ∀ (S : ST) (z0 : Int32) (r : Int32) (S' : ST), rec_X4_comparison S z0 = some (r, S') → Agr wX4_test_24 S S') (rec_X4_inBrackets : ST → Int32 → Int32 → Option (Int32 × ST)) (arec_X4_inBrackets : ∀ (S : ST) (z0 : Int32) (z1 : Int32) (r : Int32) (S' : ST), rec_X4_inBrackets S z0 z1 = some (r, S') → Agr wX4_test_24 S S') (rec_X4_sum : ST → Int32 → Option (Int32 × ST)) (arec_X4_sum : ∀ (S : ST) (z0 : Int32) (r : Int32) (S' : ST), rec_X4_sum S z0 = some (r, S') → Agr wX4_test_24 S S') (rec_X4_term : ST → Int32 → Option (Int32 × ST)) (arec_X4_term : ∀ (S : ST) (z0 : Int32) (r : Int32) (S' : ST), rec_X4_term S z0 = some (r, S') → Agr wX4_test_24 S S') (rec_X4_part : ST → Int32 → Option (Int32 × ST)) (arec_X4_part : ∀ (S : ST) (z0 : Int32) (r : Int32) (S' : ST), rec_X4_part S z0 = some (r, S') → Agr wX4_test_24 S S')  : ∀ (n : Nat) (S : ST) (v1 : Int32) (v2 : Int32) (v3 : Int32) (r : Int32) (S' : ST), lfX4_sum_24_8 x rec_X4_test rec_X4_plain rec_X4_comparison rec_X4_inBrackets rec_X4_sum rec_X4_term rec_X4_part  n S v1 v2 v3 = some (r, S') → Agr wX4_test_24 S S'
  | 0, _, _, _, _, _, _, hm => by cases hm
  | n + 1, S, v1, v2, v3, r, S', hm => fbX4_sum_24_8 x rec_X4_test arec_X4_test rec_X4_plain arec_X4_plain rec_X4_comparison arec_X4_comparison rec_X4_inBrackets arec_X4_inBrackets rec_X4_sum arec_X4_sum rec_X4_term arec_X4_term rec_X4_part arec_X4_part (lfX4_sum_24_8 x rec_X4_test rec_X4_plain rec_X4_comparison rec_X4_inBrackets rec_X4_sum rec_X4_term rec_X4_part  n) (flX4_sum_24_8 x rec_X4_test arec_X4_test rec_X4_plain arec_X4_plain rec_X4_comparison arec_X4_comparison rec_X4_inBrackets arec_X4_inBrackets rec_X4_sum arec_X4_sum rec_X4_term arec_X4_term rec_X4_part arec_X4_part  n) S v1 v2 v3 r S' hm
set_option maxHeartbeats 4000000 in
set_option maxRecDepth 20000 in
theorem fbX4_sum_24_0 (x : XT) (rec_X4_test : ST → Int32 → Int32 → Option (Int32 × ST)) (arec_X4_test : ∀ (S : ST) (z0 : Int32) (z1 : Int32) (r : Int32) (S' : ST), rec_X4_test S z0 z1 = some (r, S') → Agr wX4_test_24 S S') (rec_X4_plain : ST → Int32 → Option (Int32 × ST)) (arec_X4_plain : ∀ (S : ST) (z0 : Int32) (r : Int32) (S' : ST), rec_X4_plain S z0 = some (r, S') → Agr wX4_test_24 S S') (rec_X4_comparison : ST → Int32 → Option (Int32 × ST)) (arec_X4_comparison : ∀ (S : ST) (z0 : Int32) (r : Int32) (S' : ST), rec_X4_comparison S z0 = some (r, S') → Agr wX4_test_24 S S') (rec_X4_inBrackets : ST → Int32 → Int32 → Option (Int32 × ST)) (arec_X4_inBrackets : ∀ (S : ST) (z0 : Int32) (z1 : Int32) (r : Int32) (S' : ST), rec_X4_inBrackets S z0 z1 = some (r, S') → Agr wX4_test_24 S S') (rec_X4_sum : ST → Int32 → Option (Int32 × ST)) (arec_X4_sum : ∀ (S : ST) (z0 : Int32) (r : Int32) (S' : ST), rec_X4_sum S z0 = some (r, S') → Agr wX4_test_24 S S') (rec_X4_term : ST → Int32 → Option (Int32 × ST)) (arec_X4_term : ∀ (S : ST) (z0 : Int32) (r : Int32) (S' : ST), rec_X4_term S z0 = some (r, S') → Agr wX4_test_24 S S') (rec_X4_part : ST → Int32 → Option (Int32 × ST)) (arec_X4_part : ∀ (S : ST) (z0 : Int32) (r : Int32) (S' : ST), rec_X4_part S z0 = some (r, S') → Agr wX4_test_24 S S')  (S : ST) (p1 : Int32) (r : Int32) (S' : ST) (hm : bfX4_sum_24_0 x rec_X4_test rec_X4_plain rec_X4_comparison rec_X4_inBrackets rec_X4_sum rec_X4_term rec_X4_part  S p1 = some (r, S')) : Agr wX4_test_24 S S' := by
    unfold bfX4_sum_24_0 at hm
    cases h1 : rec_X4_term S p1 with
    | none => rw [h1] at hm; cases hm
    | some q2 =>
      obtain ⟨r3, S4⟩ := q2
      rw [h1] at hm
      dsimp only at hm
      have a_S4 : Agr wX4_test_24 S S4 := Agr.tr Agr.rf (arec_X4_term S p1 _ _ h1)
      exact Agr.tr a_S4 (flX4_sum_24_8 x rec_X4_test arec_X4_test rec_X4_plain arec_X4_plain rec_X4_comparison arec_X4_comparison rec_X4_inBrackets arec_X4_inBrackets rec_X4_sum arec_X4_sum rec_X4_term arec_X4_term rec_X4_part arec_X4_part  20000 S4 p1 r3 0 _ _ hm)
theorem frrX4_sum_24 (x : XT) (rec_X4_test : ST → Int32 → Int32 → Option (Int32 × ST)) (arec_X4_test : ∀ (S : ST) (z0 : Int32) (z1 : Int32) (r : Int32) (S' : ST), rec_X4_test S z0 z1 = some (r, S') → Agr wX4_test_24 S S') (rec_X4_plain : ST → Int32 → Option (Int32 × ST)) (arec_X4_plain : ∀ (S : ST) (z0 : Int32) (r : Int32) (S' : ST), rec_X4_plain S z0 = some (r, S') → Agr wX4_test_24 S S') (rec_X4_comparison : ST → Int32 → Option (Int32 × ST)) (arec_X4_comparison : ∀ (S : ST) (z0 : Int32) (r : Int32) (S' : ST), rec_X4_comparison S z0 = some (r, S') → Agr wX4_test_24 S S') (rec_X4_inBrackets : ST → Int32 → Int32 → Option (Int32 × ST)) (arec_X4_inBrackets : ∀ (S : ST) (z0 : Int32) (z1 : Int32) (r : Int32) (S' : ST), rec_X4_inBrackets S z0 z1 = some (r, S') → Agr wX4_test_24 S S') (rec_X4_sum : ST → Int32 → Option (Int32 × ST)) (arec_X4_sum : ∀ (S : ST) (z0 : Int32) (r : Int32) (S' : ST), rec_X4_sum S z0 = some (r, S') → Agr wX4_test_24 S S') (rec_X4_term : ST → Int32 → Option (Int32 × ST)) (arec_X4_term : ∀ (S : ST) (z0 : Int32) (r : Int32) (S' : ST), rec_X4_term S z0 = some (r, S') → Agr wX4_test_24 S S') (rec_X4_part : ST → Int32 → Option (Int32 × ST)) (arec_X4_part : ∀ (S : ST) (z0 : Int32) (r : Int32) (S' : ST), rec_X4_part S z0 = some (r, S') → Agr wX4_test_24 S S') (S : ST) (p1 : Int32) (r : Int32) (S' : ST) (hm : grfX4_sum_24 x rec_X4_test rec_X4_plain rec_X4_comparison rec_X4_inBrackets rec_X4_sum rec_X4_term rec_X4_part S p1 = some (r, S')) : Agr wX4_test_24 S S' := fbX4_sum_24_0 x rec_X4_test arec_X4_test rec_X4_plain arec_X4_plain rec_X4_comparison arec_X4_comparison rec_X4_inBrackets arec_X4_inBrackets rec_X4_sum arec_X4_sum rec_X4_term arec_X4_term rec_X4_part arec_X4_part S p1 r S' hm
set_option maxHeartbeats 4000000 in
set_option maxRecDepth 20000 in
theorem fbX4_term_24_85 (x : XT) (rec_X4_test : ST → Int32 → Int32 → Option (Int32 × ST)) (arec_X4_test : ∀ (S : ST) (z0 : Int32) (z1 : Int32) (r : Int32) (S' : ST), rec_X4_test S z0 z1 = some (r, S') → Agr wX4_test_24 S S') (rec_X4_plain : ST → Int32 → Option (Int32 × ST)) (arec_X4_plain : ∀ (S : ST) (z0 : Int32) (r : Int32) (S' : ST), rec_X4_plain S z0 = some (r, S') → Agr wX4_test_24 S S') (rec_X4_comparison : ST → Int32 → Option (Int32 × ST)) (arec_X4_comparison : ∀ (S : ST) (z0 : Int32) (r : Int32) (S' : ST), rec_X4_comparison S z0 = some (r, S') → Agr wX4_test_24 S S') (rec_X4_inBrackets : ST → Int32 → Int32 → Option (Int32 × ST)) (arec_X4_inBrackets : ∀ (S : ST) (z0 : Int32) (z1 : Int32) (r : Int32) (S' : ST), rec_X4_inBrackets S z0 z1 = some (r, S') → Agr wX4_test_24 S S') (rec_X4_sum : ST → Int32 → Option (Int32 × ST)) (arec_X4_sum : ∀ (S : ST) (z0 : Int32) (r : Int32) (S' : ST), rec_X4_sum S z0 = some (r, S') → Agr wX4_test_24 S S') (rec_X4_term : ST → Int32 → Option (Int32 × ST)) (arec_X4_term : ∀ (S : ST) (z0 : Int32) (r : Int32) (S' : ST), rec_X4_term S z0 = some (r, S') → Agr wX4_test_24 S S') (rec_X4_part : ST → Int32 → Option (Int32 × ST)) (arec_X4_part : ∀ (S : ST) (z0 : Int32) (r : Int32) (S' : ST), rec_X4_part S z0 = some (r, S') → Agr wX4_test_24 S S')  (S : ST) (v2 : Int32) (r : Int32) (S' : ST) (hm : bfX4_term_24_85 x rec_X4_test rec_X4_plain rec_X4_comparison rec_X4_inBrackets rec_X4_sum rec_X4_term rec_X4_part  S v2 = some (r, S')) : Agr wX4_test_24 S S' := by
    unfold bfX4_term_24_85 at hm
    obtain ⟨o1, hm⟩ := oblk hm
    cases hm
    exact Agr.rf
set_option maxHeartbeats 4000000 in
set_option maxRecDepth 20000 in
theorem fbX4_term_24_46 (x : XT) (rec_X4_test : ST → Int32 → Int32 → Option (Int32 × ST)) (arec_X4_test : ∀ (S : ST) (z0 : Int32) (z1 : Int32) (r : Int32) (S' : ST), rec_X4_test S z0 z1 = some (r, S') → Agr wX4_test_24 S S') (rec_X4_plain : ST → Int32 → Option (Int32 × ST)) (arec_X4_plain : ∀ (S : ST) (z0 : Int32) (r : Int32) (S' : ST), rec_X4_plain S z0 = some (r, S') → Agr wX4_test_24 S S') (rec_X4_comparison : ST → Int32 → Option (Int32 × ST)) (arec_X4_comparison : ∀ (S : ST) (z0 : Int32) (r : Int32) (S' : ST), rec_X4_comparison S z0 = some (r, S') → Agr wX4_test_24 S S') (rec_X4_inBrackets : ST → Int32 → Int32 → Option (Int32 × ST)) (arec_X4_inBrackets : ∀ (S : ST) (z0 : Int32) (z1 : Int32) (r : Int32) (S' : ST), rec_X4_inBrackets S z0 z1 = some (r, S') → Agr wX4_test_24 S S') (rec_X4_sum : ST → Int32 → Option (Int32 × ST)) (arec_X4_sum : ∀ (S : ST) (z0 : Int32) (r : Int32) (S' : ST), rec_X4_sum S z0 = some (r, S') → Agr wX4_test_24 S S') (rec_X4_term : ST → Int32 → Option (Int32 × ST)) (arec_X4_term : ∀ (S : ST) (z0 : Int32) (r : Int32) (S' : ST), rec_X4_term S z0 = some (r, S') → Agr wX4_test_24 S S') (rec_X4_part : ST → Int32 → Option (Int32 × ST)) (arec_X4_part : ∀ (S : ST) (z0 : Int32) (r : Int32) (S' : ST), rec_X4_part S z0 = some (r, S') → Agr wX4_test_24 S S') (k8 : ST → Int32 → Int32 → Int32 → Option (Int32 × ST)) (ak8 : ∀ (S : ST) (v1 : Int32) (v2 : Int32) (v3 : Int32) (r : Int32) (S' : ST), k8 S v1 v2 v3 = some (r, S') → Agr wX4_test_24 S S') (S : ST) (v1 : Int32) (v3 : Int32) (r : Int32) (S' : ST) (hm : bfX4_term_24_46 x rec_X4_test rec_X4_plain rec_X4_comparison rec_X4_inBrackets rec_X4_sum rec_X4_term rec_X4_part k8 S v1 v3 = some (r, S')) : Agr wX4_test_24 S S' := by
    unfold bfX4_term_24_46 at hm
    cases h1 : gfX4_here_24 x S with
    | none => rw [h1] at hm; cases hm
    | some q2 =>
      obtain ⟨r3, S4⟩ := q2
      rw [h1] at hm
      dsimp only at hm
      have a_S4 : Agr wX4_test_24 S S4 := Agr.tr Agr.rf (Agr.sub (frX4_here_24 x S _ _ h1) (by decide))
      cases h5 : rec_X4_part ((u2 S4.1 24 6 ((S4.1 24 6) + 1)), S4.2.1, S4.2.2.1, S4.2.2.2) v1 with
      | none => rw [h5] at hm; cases hm
      | some q6 =>
        obtain ⟨r7, S8⟩ := q6
        rw [h5] at hm
        dsimp only at hm
        have a_S8 : Agr wX4_test_24 S S8 := Agr.tr (Agr.f a_S4 24 6 ((S4.1 24 6) + 1) (by decide)) (arec_X4_part ((u2 S4.1 24 6 ((S4.1 24 6) + 1)), S4.2.1, S4.2.2.1, S4.2.2.2) v1 _ _ h5)
        cases h9 : gfX9_add_25 x S8 r3 0 with
        | none => rw [h9] at hm; cases hm
        | some q10 =>
          obtain ⟨r11, S12⟩ := q10
          rw [h9] at hm
          dsimp only at hm
          have a_S12 : Agr wX4_test_24 S S12 := Agr.tr a_S8 (Agr.sub (frX9_add_25 x S8 r3 0 _ _ h9) (by decide))
          exact Agr.tr a_S12 (ak8 S12 v1 r7 (v3 + 1) _ _ hm)
set_option maxHeartbeats 4000000 in
set_option maxRecDepth 20000 in
theorem fbX4_term_24_8 (x : XT) (rec_X4_test : ST → Int32 → Int32 → Option (Int32 × ST)) (arec_X4_test : ∀ (S : ST) (z0 : Int32) (z1 : Int32) (r : Int32) (S' : ST), rec_X4_test S z0 z1 = some (r, S') → Agr wX4_test_24 S S') (rec_X4_plain : ST → Int32 → Option (Int32 × ST)) (arec_X4_plain : ∀ (S : ST) (z0 : Int32) (r : Int32) (S' : ST), rec_X4_plain S z0 = some (r, S') → Agr wX4_test_24 S S') (rec_X4_comparison : ST → Int32 → Option (Int32 × ST)) (arec_X4_comparison : ∀ (S : ST) (z0 : Int32) (r : Int32) (S' : ST), rec_X4_comparison S z0 = some (r, S') → Agr wX4_test_24 S S') (rec_X4_inBrackets : ST → Int32 → Int32 → Option (Int32 × ST)) (arec_X4_inBrackets : ∀ (S : ST) (z0 : Int32) (z1 : Int32) (r : Int32) (S' : ST), rec_X4_inBrackets S z0 z1 = some (r, S') → Agr wX4_test_24 S S') (rec_X4_sum : ST → Int32 → Option (Int32 × ST)) (arec_X4_sum : ∀ (S : ST) (z0 : Int32) (r : Int32) (S' : ST), rec_X4_sum S z0 = some (r, S') → Agr wX4_test_24 S S') (rec_X4_term : ST → Int32 → Option (Int32 × ST)) (arec_X4_term : ∀ (S : ST) (z0 : Int32) (r : Int32) (S' : ST), rec_X4_term S z0 = some (r, S') → Agr wX4_test_24 S S') (rec_X4_part : ST → Int32 → Option (Int32 × ST)) (arec_X4_part : ∀ (S : ST) (z0 : Int32) (r : Int32) (S' : ST), rec_X4_part S z0 = some (r, S') → Agr wX4_test_24 S S') (k8 : ST → Int32 → Int32 → Int32 → Option (Int32 × ST)) (ak8 : ∀ (S : ST) (v1 : Int32) (v2 : Int32) (v3 : Int32) (r : Int32) (S' : ST), k8 S v1 v2 v3 = some (r, S') → Agr wX4_test_24 S S') (S : ST) (v1 : Int32) (v2 : Int32) (v3 : Int32) (r : Int32) (S' : ST) (hm : bfX4_term_24_8 x rec_X4_test rec_X4_plain rec_X4_comparison rec_X4_inBrackets rec_X4_sum rec_X4_term rec_X4_part k8 S v1 v2 v3 = some (r, S')) : Agr wX4_test_24 S S' := by
    unfold bfX4_term_24_8 at hm
    by_cases c1 : 400 < v3
    · rw [if_pos c1] at hm
      exact Agr.tr Agr.rf (fbX4_term_24_85 x rec_X4_test arec_X4_test rec_X4_plain arec_X4_plain rec_X4_comparison arec_X4_comparison rec_X4_inBrackets arec_X4_inBrackets rec_X4_sum arec_X4_sum rec_X4_term arec_X4_term rec_X4_part arec_X4_part  S v2 _ _ hm)
    · rw [if_neg c1] at hm
      by_cases c2 : v2 = 0
      · rw [if_pos c2] at hm
        exact Agr.tr Agr.rf (fbX4_term_24_85 x rec_X4_test arec_X4_test rec_X4_plain arec_X4_plain rec_X4_comparison arec_X4_comparison rec_X4_inBrackets arec_X4_inBrackets rec_X4_sum arec_X4_sum rec_X4_term arec_X4_term rec_X4_part arec_X4_part  S v2 _ _ hm)
      · rw [if_neg c2] at hm
        cases h3 : gfX4_here_24 x S with
        | none => rw [h3] at hm; cases hm
        | some q4 =>
          obtain ⟨r5, S6⟩ := q4
          rw [h3] at hm
          dsimp only at hm
          have a_S6 : Agr wX4_test_24 S S6 := Agr.tr Agr.rf (Agr.sub (frX4_here_24 x S _ _ h3) (by decide))
          by_cases c7 : r5 = 42
          · rw [if_pos c7] at hm
            exact Agr.tr a_S6 (fbX4_term_24_46 x rec_X4_test arec_X4_test rec_X4_plain arec_X4_plain rec_X4_comparison arec_X4_comparison rec_X4_inBrackets arec_X4_inBrackets rec_X4_sum arec_X4_sum rec_X4_term arec_X4_term rec_X4_part arec_X4_part k8 ak8 S6 v1 v3 _ _ hm)
          · rw [if_neg c7] at hm
            cases h8 : gfX4_here_24 x S6 with
            | none => rw [h8] at hm; cases hm
            | some q9 =>
              obtain ⟨r10, S11⟩ := q9
              rw [h8] at hm
              dsimp only at hm
              have a_S11 : Agr wX4_test_24 S S11 := Agr.tr a_S6 (Agr.sub (frX4_here_24 x S6 _ _ h8) (by decide))
              by_cases c12 : r10 = 47
              · rw [if_pos c12] at hm
                exact Agr.tr a_S11 (fbX4_term_24_46 x rec_X4_test arec_X4_test rec_X4_plain arec_X4_plain rec_X4_comparison arec_X4_comparison rec_X4_inBrackets arec_X4_inBrackets rec_X4_sum arec_X4_sum rec_X4_term arec_X4_term rec_X4_part arec_X4_part k8 ak8 S11 v1 v3 _ _ hm)
              · rw [if_neg c12] at hm
                cases h13 : gfX4_here_24 x S11 with
                | none => rw [h13] at hm; cases hm
                | some q14 =>
                  obtain ⟨r15, S16⟩ := q14
                  rw [h13] at hm
                  dsimp only at hm
                  have a_S16 : Agr wX4_test_24 S S16 := Agr.tr a_S11 (Agr.sub (frX4_here_24 x S11 _ _ h13) (by decide))
                  by_cases c17 : ¬ r15 = 37
                  · rw [if_pos c17] at hm
                    exact Agr.tr a_S16 (fbX4_term_24_85 x rec_X4_test arec_X4_test rec_X4_plain arec_X4_plain rec_X4_comparison arec_X4_comparison rec_X4_inBrackets arec_X4_inBrackets rec_X4_sum arec_X4_sum rec_X4_term arec_X4_term rec_X4_part arec_X4_part  S16 v2 _ _ hm)
                  · rw [if_neg c17] at hm
                    exact Agr.tr a_S16 (fbX4_term_24_46 x rec_X4_test arec_X4_test rec_X4_plain arec_X4_plain rec_X4_comparison arec_X4_comparison rec_X4_inBrackets arec_X4_inBrackets rec_X4_sum arec_X4_sum rec_X4_term arec_X4_term rec_X4_part arec_X4_part k8 ak8 S16 v1 v3 _ _ hm)
theorem flX4_term_24_8 (x : XT) (rec_X4_test : ST → Int32 → Int32 → Option (Int32 × ST)) (arec_X4_test : ∀ (S : ST) (z0 : Int32) (z1 : Int32) (r : Int32) (S' : ST), rec_X4_test S z0 z1 = some (r, S') → Agr wX4_test_24 S S') (rec_X4_plain : ST → Int32 → Option (Int32 × ST)) (arec_X4_plain : ∀ (S : ST) (z0 : Int32) (r : Int32) (S' : ST), rec_X4_plain S z0 = some (r, S') → Agr wX4_test_24 S S') (rec_X4_comparison : ST → Int32 → Option (Int32 × ST)) (arec_X4_comparison : ∀ (S : ST) (z0 : Int32) (r : Int32) (S' : ST), rec_X4_comparison S z0 = some (r, S') → Agr wX4_test_24 S S') (rec_X4_inBrackets : ST → Int32 → Int32 → Option (Int32 × ST)) (arec_X4_inBrackets : ∀ (S : ST) (z0 : Int32) (z1 : Int32) (r : Int32) (S' : ST), rec_X4_inBrackets S z0 z1 = some (r, S') → Agr wX4_test_24 S S') (rec_X4_sum : ST → Int32 → Option (Int32 × ST)) (arec_X4_sum : ∀ (S : ST) (z0 : Int32) (r : Int32) (S' : ST), rec_X4_sum S z0 = some (r, S') → Agr wX4_test_24 S S') (rec_X4_term : ST → Int32 → Option (Int32 × ST)) (arec_X4_term : ∀ (S : ST) (z0 : Int32) (r : Int32) (S' : ST), rec_X4_term S z0 = some (r, S') → Agr wX4_test_24 S S') (rec_X4_part : ST → Int32 → Option (Int32 × ST)) (arec_X4_part : ∀ (S : ST) (z0 : Int32) (r : Int32) (S' : ST), rec_X4_part S z0 = some (r, S') → Agr wX4_test_24 S S')  : ∀ (n : Nat) (S : ST) (v1 : Int32) (v2 : Int32) (v3 : Int32) (r : Int32) (S' : ST), lfX4_term_24_8 x rec_X4_test rec_X4_plain rec_X4_comparison rec_X4_inBrackets rec_X4_sum rec_X4_term rec_X4_part  n S v1 v2 v3 = some (r, S') → Agr wX4_test_24 S S'
  | 0, _, _, _, _, _, _, hm => by cases hm
  | n + 1, S, v1, v2, v3, r, S', hm => fbX4_term_24_8 x rec_X4_test arec_X4_test rec_X4_plain arec_X4_plain rec_X4_comparison arec_X4_comparison rec_X4_inBrackets arec_X4_inBrackets rec_X4_sum arec_X4_sum rec_X4_term arec_X4_term rec_X4_part arec_X4_part (lfX4_term_24_8 x rec_X4_test rec_X4_plain rec_X4_comparison rec_X4_inBrackets rec_X4_sum rec_X4_term rec_X4_part  n) (flX4_term_24_8 x rec_X4_test arec_X4_test rec_X4_plain arec_X4_plain rec_X4_comparison arec_X4_comparison rec_X4_inBrackets arec_X4_inBrackets rec_X4_sum arec_X4_sum rec_X4_term arec_X4_term rec_X4_part arec_X4_part  n) S v1 v2 v3 r S' hm
set_option maxHeartbeats 4000000 in
set_option maxRecDepth 20000 in
theorem fbX4_term_24_0 (x : XT) (rec_X4_test : ST → Int32 → Int32 → Option (Int32 × ST)) (arec_X4_test : ∀ (S : ST) (z0 : Int32) (z1 : Int32) (r : Int32) (S' : ST), rec_X4_test S z0 z1 = some (r, S') → Agr wX4_test_24 S S') (rec_X4_plain : ST → Int32 → Option (Int32 × ST)) (arec_X4_plain : ∀ (S : ST) (z0 : Int32) (r : Int32) (S' : ST), rec_X4_plain S z0 = some (r, S') → Agr wX4_test_24 S S') (rec_X4_comparison : ST → Int32 → Option (Int32 × ST)) (arec_X4_comparison : ∀ (S : ST) (z0 : Int32) (r : Int32) (S' : ST), rec_X4_comparison S z0 = some (r, S') → Agr wX4_test_24 S S') (rec_X4_inBrackets : ST → Int32 → Int32 → Option (Int32 × ST)) (arec_X4_inBrackets : ∀ (S : ST) (z0 : Int32) (z1 : Int32) (r : Int32) (S' : ST), rec_X4_inBrackets S z0 z1 = some (r, S') → Agr wX4_test_24 S S') (rec_X4_sum : ST → Int32 → Option (Int32 × ST)) (arec_X4_sum : ∀ (S : ST) (z0 : Int32) (r : Int32) (S' : ST), rec_X4_sum S z0 = some (r, S') → Agr wX4_test_24 S S') (rec_X4_term : ST → Int32 → Option (Int32 × ST)) (arec_X4_term : ∀ (S : ST) (z0 : Int32) (r : Int32) (S' : ST), rec_X4_term S z0 = some (r, S') → Agr wX4_test_24 S S') (rec_X4_part : ST → Int32 → Option (Int32 × ST)) (arec_X4_part : ∀ (S : ST) (z0 : Int32) (r : Int32) (S' : ST), rec_X4_part S z0 = some (r, S') → Agr wX4_test_24 S S')  (S : ST) (p1 : Int32) (r : Int32) (S' : ST) (hm : bfX4_term_24_0 x rec_X4_test rec_X4_plain rec_X4_comparison rec_X4_inBrackets rec_X4_sum rec_X4_term rec_X4_part  S p1 = some (r, S')) : Agr wX4_test_24 S S' := by
    unfold bfX4_term_24_0 at hm
    cases h1 : rec_X4_part S p1 with
    | none => rw [h1] at hm; cases hm
    | some q2 =>
      obtain ⟨r3, S4⟩ := q2
      rw [h1] at hm
      dsimp only at hm
      have a_S4 : Agr wX4_test_24 S S4 := Agr.tr Agr.rf (arec_X4_part S p1 _ _ h1)
      exact Agr.tr a_S4 (flX4_term_24_8 x rec_X4_test arec_X4_test rec_X4_plain arec_X4_plain rec_X4_comparison arec_X4_comparison rec_X4_inBrackets arec_X4_inBrackets rec_X4_sum arec_X4_sum rec_X4_term arec_X4_term rec_X4_part arec_X4_part  20000 S4 p1 r3 0 _ _ hm)
theorem frrX4_term_24 (x : XT) (rec_X4_test : ST → Int32 → Int32 → Option (Int32 × ST)) (arec_X4_test : ∀ (S : ST) (z0 : Int32) (z1 : Int32) (r : Int32) (S' : ST), rec_X4_test S z0 z1 = some (r, S') → Agr wX4_test_24 S S') (rec_X4_plain : ST → Int32 → Option (Int32 × ST)) (arec_X4_plain : ∀ (S : ST) (z0 : Int32) (r : Int32) (S' : ST), rec_X4_plain S z0 = some (r, S') → Agr wX4_test_24 S S') (rec_X4_comparison : ST → Int32 → Option (Int32 × ST)) (arec_X4_comparison : ∀ (S : ST) (z0 : Int32) (r : Int32) (S' : ST), rec_X4_comparison S z0 = some (r, S') → Agr wX4_test_24 S S') (rec_X4_inBrackets : ST → Int32 → Int32 → Option (Int32 × ST)) (arec_X4_inBrackets : ∀ (S : ST) (z0 : Int32) (z1 : Int32) (r : Int32) (S' : ST), rec_X4_inBrackets S z0 z1 = some (r, S') → Agr wX4_test_24 S S') (rec_X4_sum : ST → Int32 → Option (Int32 × ST)) (arec_X4_sum : ∀ (S : ST) (z0 : Int32) (r : Int32) (S' : ST), rec_X4_sum S z0 = some (r, S') → Agr wX4_test_24 S S') (rec_X4_term : ST → Int32 → Option (Int32 × ST)) (arec_X4_term : ∀ (S : ST) (z0 : Int32) (r : Int32) (S' : ST), rec_X4_term S z0 = some (r, S') → Agr wX4_test_24 S S') (rec_X4_part : ST → Int32 → Option (Int32 × ST)) (arec_X4_part : ∀ (S : ST) (z0 : Int32) (r : Int32) (S' : ST), rec_X4_part S z0 = some (r, S') → Agr wX4_test_24 S S') (S : ST) (p1 : Int32) (r : Int32) (S' : ST) (hm : grfX4_term_24 x rec_X4_test rec_X4_plain rec_X4_comparison rec_X4_inBrackets rec_X4_sum rec_X4_term rec_X4_part S p1 = some (r, S')) : Agr wX4_test_24 S S' := fbX4_term_24_0 x rec_X4_test arec_X4_test rec_X4_plain arec_X4_plain rec_X4_comparison arec_X4_comparison rec_X4_inBrackets arec_X4_inBrackets rec_X4_sum arec_X4_sum rec_X4_term arec_X4_term rec_X4_part arec_X4_part S p1 r S' hm
set_option maxHeartbeats 4000000 in
set_option maxRecDepth 20000 in
theorem fbX4_part_24_121 (x : XT) (rec_X4_test : ST → Int32 → Int32 → Option (Int32 × ST)) (arec_X4_test : ∀ (S : ST) (z0 : Int32) (z1 : Int32) (r : Int32) (S' : ST), rec_X4_test S z0 z1 = some (r, S') → Agr wX4_test_24 S S') (rec_X4_plain : ST → Int32 → Option (Int32 × ST)) (arec_X4_plain : ∀ (S : ST) (z0 : Int32) (r : Int32) (S' : ST), rec_X4_plain S z0 = some (r, S') → Agr wX4_test_24 S S') (rec_X4_comparison : ST → Int32 → Option (Int32 × ST)) (arec_X4_comparison : ∀ (S : ST) (z0 : Int32) (r : Int32) (S' : ST), rec_X4_comparison S z0 = some (r, S') → Agr wX4_test_24 S S') (rec_X4_inBrackets : ST → Int32 → Int32 → Option (Int32 × ST)) (arec_X4_inBrackets : ∀ (S : ST) (z0 : Int32) (z1 : Int32) (r : Int32) (S' : ST), rec_X4_inBrackets S z0 z1 = some (r, S') → Agr wX4_test_24 S S') (rec_X4_sum : ST → Int32 → Option (Int32 × ST)) (arec_X4_sum : ∀ (S : ST) (z0 : Int32) (r : Int32) (S' : ST), rec_X4_sum S z0 = some (r, S') → Agr wX4_test_24 S S') (rec_X4_term : ST → Int32 → Option (Int32 × ST)) (arec_X4_term : ∀ (S : ST) (z0 : Int32) (r : Int32) (S' : ST), rec_X4_term S z0 = some (r, S') → Agr wX4_test_24 S S') (rec_X4_part : ST → Int32 → Option (Int32 × ST)) (arec_X4_part : ∀ (S : ST) (z0 : Int32) (r : Int32) (S' : ST), rec_X4_part S z0 = some (r, S') → Agr wX4_test_24 S S')  (S : ST) (t0 : Int32) (r : Int32) (S' : ST) (hm : bfX4_part_24_121 x rec_X4_test rec_X4_plain rec_X4_comparison rec_X4_inBrackets rec_X4_sum rec_X4_term rec_X4_part  S t0 = some (r, S')) : Agr wX4_test_24 S S' := by
    unfold bfX4_part_24_121 at hm
    by_cases c1 : ¬ t0 = (-1)
    · rw [if_pos c1] at hm
      cases h2 : gfX9_add_25 x S 259 t0 with
      | none => rw [h2] at hm; cases hm
      | some q3 =>
        obtain ⟨r4, S5⟩ := q3
        rw [h2] at hm
        dsimp only at hm
        have a_S5 : Agr wX4_test_24 S S5 := Agr.tr Agr.rf (Agr.sub (frX9_add_25 x S 259 t0 _ _ h2) (by decide))
        cases hm
        exact (Agr.f a_S5 24 6 ((S5.1 24 6) + 1) (by decide))
    · rw [if_neg c1] at hm
      cases h6 : gfX4_faulty_24 x S with
      | none => rw [h6] at hm; cases hm
      | some q7 =>
        obtain ⟨r8, S9⟩ := q7
        rw [h6] at hm
        dsimp only at hm
        have a_S9 : Agr wX4_test_24 S S9 := Agr.tr Agr.rf (Agr.sub (frX4_faulty_24 x S _ _ h6) (by decide))
        obtain ⟨o10, hm⟩ := oblk hm
        cases hm
        exact a_S9
set_option maxHeartbeats 4000000 in
set_option maxRecDepth 20000 in
theorem fbX4_part_24_0 (x : XT) (rec_X4_test : ST → Int32 → Int32 → Option (Int32 × ST)) (arec_X4_test : ∀ (S : ST) (z0 : Int32) (z1 : Int32) (r : Int32) (S' : ST), rec_X4_test S z0 z1 = some (r, S') → Agr wX4_test_24 S S') (rec_X4_plain : ST → Int32 → Option (Int32 × ST)) (arec_X4_plain : ∀ (S : ST) (z0 : Int32) (r : Int32) (S' : ST), rec_X4_plain S z0 = some (r, S') → Agr wX4_test_24 S S') (rec_X4_comparison : ST → Int32 → Option (Int32 × ST)) (arec_X4_comparison : ∀ (S : ST) (z0 : Int32) (r : Int32) (S' : ST), rec_X4_comparison S z0 = some (r, S') → Agr wX4_test_24 S S') (rec_X4_inBrackets : ST → Int32 → Int32 → Option (Int32 × ST)) (arec_X4_inBrackets : ∀ (S : ST) (z0 : Int32) (z1 : Int32) (r : Int32) (S' : ST), rec_X4_inBrackets S z0 z1 = some (r, S') → Agr wX4_test_24 S S') (rec_X4_sum : ST → Int32 → Option (Int32 × ST)) (arec_X4_sum : ∀ (S : ST) (z0 : Int32) (r : Int32) (S' : ST), rec_X4_sum S z0 = some (r, S') → Agr wX4_test_24 S S') (rec_X4_term : ST → Int32 → Option (Int32 × ST)) (arec_X4_term : ∀ (S : ST) (z0 : Int32) (r : Int32) (S' : ST), rec_X4_term S z0 = some (r, S') → Agr wX4_test_24 S S') (rec_X4_part : ST → Int32 → Option (Int32 × ST)) (arec_X4_part : ∀ (S : ST) (z0 : Int32) (r : Int32) (S' : ST), rec_X4_part S z0 = some (r, S') → Agr wX4_test_24 S S')  (S : ST) (p1 : Int32) (r : Int32) (S' : ST) (hm : bfX4_part_24_0 x rec_X4_test rec_X4_plain rec_X4_comparison rec_X4_inBrackets rec_X4_sum rec_X4_term rec_X4_part  S p1 = some (r, S')) : Agr wX4_test_24 S S' := by
    unfold bfX4_part_24_0 at hm
    cases h1 : gfX4_here_24 x S with
    | none => rw [h1] at hm; cases hm
    | some q2 =>
      obtain ⟨r3, S4⟩ := q2
      rw [h1] at hm
      dsimp only at hm
      have a_S4 : Agr wX4_test_24 S S4 := Agr.tr Agr.rf (Agr.sub (frX4_here_24 x S _ _ h1) (by decide))
      by_cases c5 : ¬ r3 = 91
      · rw [if_pos c5] at hm
        by_cases c6 : (S4.1 24 7) < 50
        · rw [if_pos c6] at hm
          cases h7 : gfX4_here_24 x ((u2 S4.1 24 7 ((S4.1 24 7) + 1)), S4.2.1, S4.2.2.1, S4.2.2.2) with
          | none => rw [h7] at hm; cases hm
          | some q8 =>
            obtain ⟨r9, S10⟩ := q8
            rw [h7] at hm
            dsimp only at hm
            have a_S10 : Agr wX4_test_24 S S10 := Agr.tr (Agr.f a_S4 24 7 ((S4.1 24 7) + 1) (by decide)) (Agr.sub (frX4_here_24 x ((u2 S4.1 24 7 ((S4.1 24 7) + 1)), S4.2.1, S4.2.2.1, S4.2.2.2) _ _ h7) (by decide))
            by_cases c11 : ¬ r9 = 256
            · rw [if_pos c11] at hm
              by_cases c12 : (S10.1 24 8) = 0
              · rw [if_pos c12] at hm
                cases h13 : gfX4_lawWord_24 x S10 with
                | none => rw [h13] at hm; cases hm
                | some q14 =>
                  obtain ⟨r15, S16⟩ := q14
                  rw [h13] at hm
                  dsimp only at hm
                  have a_S16 : Agr wX4_test_24 S S16 := Agr.tr a_S10 (Agr.sub (frX4_lawWord_24 x S10 _ _ h13) (by decide))
                  exact Agr.tr a_S16 (fbX4_part_24_121 x rec_X4_test arec_X4_test rec_X4_plain arec_X4_plain rec_X4_comparison arec_X4_comparison rec_X4_inBrackets arec_X4_inBrackets rec_X4_sum arec_X4_sum rec_X4_term arec_X4_term rec_X4_part arec_X4_part  S16 r15 _ _ hm)
              · rw [if_neg c12] at hm
                cases h17 : gfX4_orderWord_24 x S10 with
                | none => rw [h17] at hm; cases hm
                | some q18 =>
                  obtain ⟨r19, S20⟩ := q18
                  rw [h17] at hm
                  dsimp only at hm
                  have a_S20 : Agr wX4_test_24 S S20 := Agr.tr a_S10 (Agr.sub (frX4_orderWord_24 x S10 _ _ h17) (by decide))
                  exact Agr.tr a_S20 (fbX4_part_24_121 x rec_X4_test arec_X4_test rec_X4_plain arec_X4_plain rec_X4_comparison arec_X4_comparison rec_X4_inBrackets arec_X4_inBrackets rec_X4_sum arec_X4_sum rec_X4_term arec_X4_term rec_X4_part arec_X4_part  S20 r19 _ _ hm)
            · rw [if_neg c11] at hm
              obtain ⟨o21, hm⟩ := oblk hm
              by_cases c22 : (S10.2.1 31 ((S10.1 24 6).toNatClampNeg)) ≤ 1000
              · rw [if_pos c22] at hm
                obtain ⟨o23, hm⟩ := oblk hm
                cases h24 : gfX9_add_25 x S10 256 (S10.2.1 31 ((S10.1 24 6).toNatClampNeg)) with
                | none => rw [h24] at hm; cases hm
                | some q25 =>
                  obtain ⟨r26, S27⟩ := q25
                  rw [h24] at hm
                  dsimp only at hm
                  have a_S27 : Agr wX4_test_24 S S27 := Agr.tr a_S10 (Agr.sub (frX9_add_25 x S10 256 (S10.2.1 31 ((S10.1 24 6).toNatClampNeg)) _ _ h24) (by decide))
                  cases hm
                  exact (Agr.f a_S27 24 6 ((S27.1 24 6) + 1) (by decide))
              · rw [if_neg c22] at hm
                cases h28 : gfX4_faulty_24 x S10 with
                | none => rw [h28] at hm; cases hm
                | some q29 =>
                  obtain ⟨r30, S31⟩ := q29
                  rw [h28] at hm
                  dsimp only at hm
                  have a_S31 : Agr wX4_test_24 S S31 := Agr.tr a_S10 (Agr.sub (frX4_faulty_24 x S10 _ _ h28) (by decide))
                  obtain ⟨o32, hm⟩ := oblk hm
                  cases hm
                  exact a_S31
        · rw [if_neg c6] at hm
          cases h33 : gfX4_faulty_24 x S4 with
          | none => rw [h33] at hm; cases hm
          | some q34 =>
            obtain ⟨r35, S36⟩ := q34
            rw [h33] at hm
            dsimp only at hm
            have a_S36 : Agr wX4_test_24 S S36 := Agr.tr a_S4 (Agr.sub (frX4_faulty_24 x S4 _ _ h33) (by decide))
            obtain ⟨o37, hm⟩ := oblk hm
            cases hm
            exact a_S36
      · rw [if_neg c5] at hm
        cases h38 : rec_X4_inBrackets S4 p1 93 with
        | none => rw [h38] at hm; cases hm
        | some q39 =>
          obtain ⟨r40, S41⟩ := q39
          rw [h38] at hm
          dsimp only at hm
          have a_S41 : Agr wX4_test_24 S S41 := Agr.tr a_S4 (arec_X4_inBrackets S4 p1 93 _ _ h38)
          obtain ⟨o42, hm⟩ := oblk hm
          cases hm
          exact a_S41
theorem frrX4_part_24 (x : XT) (rec_X4_test : ST → Int32 → Int32 → Option (Int32 × ST)) (arec_X4_test : ∀ (S : ST) (z0 : Int32) (z1 : Int32) (r : Int32) (S' : ST), rec_X4_test S z0 z1 = some (r, S') → Agr wX4_test_24 S S') (rec_X4_plain : ST → Int32 → Option (Int32 × ST)) (arec_X4_plain : ∀ (S : ST) (z0 : Int32) (r : Int32) (S' : ST), rec_X4_plain S z0 = some (r, S') → Agr wX4_test_24 S S') (rec_X4_comparison : ST → Int32 → Option (Int32 × ST)) (arec_X4_comparison : ∀ (S : ST) (z0 : Int32) (r : Int32) (S' : ST), rec_X4_comparison S z0 = some (r, S') → Agr wX4_test_24 S S') (rec_X4_inBrackets : ST → Int32 → Int32 → Option (Int32 × ST)) (arec_X4_inBrackets : ∀ (S : ST) (z0 : Int32) (z1 : Int32) (r : Int32) (S' : ST), rec_X4_inBrackets S z0 z1 = some (r, S') → Agr wX4_test_24 S S') (rec_X4_sum : ST → Int32 → Option (Int32 × ST)) (arec_X4_sum : ∀ (S : ST) (z0 : Int32) (r : Int32) (S' : ST), rec_X4_sum S z0 = some (r, S') → Agr wX4_test_24 S S') (rec_X4_term : ST → Int32 → Option (Int32 × ST)) (arec_X4_term : ∀ (S : ST) (z0 : Int32) (r : Int32) (S' : ST), rec_X4_term S z0 = some (r, S') → Agr wX4_test_24 S S') (rec_X4_part : ST → Int32 → Option (Int32 × ST)) (arec_X4_part : ∀ (S : ST) (z0 : Int32) (r : Int32) (S' : ST), rec_X4_part S z0 = some (r, S') → Agr wX4_test_24 S S') (S : ST) (p1 : Int32) (r : Int32) (S' : ST) (hm : grfX4_part_24 x rec_X4_test rec_X4_plain rec_X4_comparison rec_X4_inBrackets rec_X4_sum rec_X4_term rec_X4_part S p1 = some (r, S')) : Agr wX4_test_24 S S' := fbX4_part_24_0 x rec_X4_test arec_X4_test rec_X4_plain arec_X4_plain rec_X4_comparison arec_X4_comparison rec_X4_inBrackets arec_X4_inBrackets rec_X4_sum arec_X4_sum rec_X4_term arec_X4_term rec_X4_part arec_X4_part S p1 r S' hm
theorem frqX4_test_24 (x : XT) (n : Nat) : (∀ (S : ST) (a b : Int32) (r : Int32) (S' : ST), gqX4_test_24 x n 0 S a b = some (r, S') → Agr wX4_test_24 S S') ∧ (∀ (S : ST) (a b : Int32) (r : Int32) (S' : ST), gqX4_test_24 x n 1 S a b = some (r, S') → Agr wX4_test_24 S S') ∧ (∀ (S : ST) (a b : Int32) (r : Int32) (S' : ST), gqX4_test_24 x n 2 S a b = some (r, S') → Agr wX4_test_24 S S') ∧ (∀ (S : ST) (a b : Int32) (r : Int32) (S' : ST), gqX4_test_24 x n 3 S a b = some (r, S') → Agr wX4_test_24 S S') ∧ (∀ (S : ST) (a b : Int32) (r : Int32) (S' : ST), gqX4_test_24 x n 4 S a b = some (r, S') → Agr wX4_test_24 S S') ∧ (∀ (S : ST) (a b : Int32) (r : Int32) (S' : ST), gqX4_test_24 x n 5 S a b = some (r, S') → Agr wX4_test_24 S S') ∧ (∀ (S : ST) (a b : Int32) (r : Int32) (S' : ST), gqX4_test_24 x n 6 S a b = some (r, S') → Agr wX4_test_24 S S') := by
  induction n with
  | zero => exact ⟨(fun _ _ _ _ _ hm => (by cases hm)), (fun _ _ _ _ _ hm => (by cases hm)), (fun _ _ _ _ _ hm => (by cases hm)), (fun _ _ _ _ _ hm => (by cases hm)), (fun _ _ _ _ _ hm => (by cases hm)), (fun _ _ _ _ _ hm => (by cases hm)), (fun _ _ _ _ _ hm => (by cases hm))⟩
  | succ n ih =>
    refine ⟨?_, ?_, ?_, ?_, ?_, ?_, ?_⟩
    · intro S a b r S' hm
      rw [gqX4_test_24] at hm
      rw [show Nat.beq 0 0 = true from rfl, cond_true] at hm
      exact frrX4_test_24 x (fun S z0 z1 => gqX4_test_24 x n 0 S z0 z1) (fun S z0 z1 r S' h => ih.1 S z0 z1 r S' h) (fun S z0 => gqX4_test_24 x n 1 S z0 0) (fun S z0 r S' h => ih.2.1 S z0 0 r S' h) (fun S z0 => gqX4_test_24 x n 2 S z0 0) (fun S z0 r S' h => ih.2.2.1 S z0 0 r S' h) (fun S z0 z1 => gqX4_test_24 x n 3 S z0 z1) (fun S z0 z1 r S' h => ih.2.2.2.1 S z0 z1 r S' h) (fun S z0 => gqX4_test_24 x n 4 S z0 0) (fun S z0 r S' h => ih.2.2.2.2.1 S z0 0 r S' h) (fun S z0 => gqX4_test_24 x n 5 S z0 0) (fun S z0 r S' h => ih.2.2.2.2.2.1 S z0 0 r S' h) (fun S z0 => gqX4_test_24 x n 6 S z0 0) (fun S z0 r S' h => ih.2.2.2.2.2.2 S z0 0 r S' h) S a b r S' hm
    · intro S a b r S' hm
      rw [gqX4_test_24] at hm
      rw [show Nat.beq 1 0 = false from rfl, cond_false, show Nat.beq 1 1 = true from rfl, cond_true] at hm
      exact frrX4_plain_24 x (fun S z0 z1 => gqX4_test_24 x n 0 S z0 z1) (fun S z0 z1 r S' h => ih.1 S z0 z1 r S' h) (fun S z0 => gqX4_test_24 x n 1 S z0 0) (fun S z0 r S' h => ih.2.1 S z0 0 r S' h) (fun S z0 => gqX4_test_24 x n 2 S z0 0) (fun S z0 r S' h => ih.2.2.1 S z0 0 r S' h) (fun S z0 z1 => gqX4_test_24 x n 3 S z0 z1) (fun S z0 z1 r S' h => ih.2.2.2.1 S z0 z1 r S' h) (fun S z0 => gqX4_test_24 x n 4 S z0 0) (fun S z0 r S' h => ih.2.2.2.2.1 S z0 0 r S' h) (fun S z0 => gqX4_test_24 x n 5 S z0 0) (fun S z0 r S' h => ih.2.2.2.2.2.1 S z0 0 r S' h) (fun S z0 => gqX4_test_24 x n 6 S z0 0) (fun S z0 r S' h => ih.2.2.2.2.2.2 S z0 0 r S' h) S a r S' hm
    · intro S a b r S' hm
      rw [gqX4_test_24] at hm
      rw [show Nat.beq 2 0 = false from rfl, cond_false, show Nat.beq 2 1 = false from rfl, cond_false, show Nat.beq 2 2 = true from rfl, cond_true] at hm
      exact frrX4_comparison_24 x (fun S z0 z1 => gqX4_test_24 x n 0 S z0 z1) (fun S z0 z1 r S' h => ih.1 S z0 z1 r S' h) (fun S z0 => gqX4_test_24 x n 1 S z0 0) (fun S z0 r S' h => ih.2.1 S z0 0 r S' h) (fun S z0 => gqX4_test_24 x n 2 S z0 0) (fun S z0 r S' h => ih.2.2.1 S z0 0 r S' h) (fun S z0 z1 => gqX4_test_24 x n 3 S z0 z1) (fun S z0 z1 r S' h => ih.2.2.2.1 S z0 z1 r S' h) (fun S z0 => gqX4_test_24 x n 4 S z0 0) (fun S z0 r S' h => ih.2.2.2.2.1 S z0 0 r S' h) (fun S z0 => gqX4_test_24 x n 5 S z0 0) (fun S z0 r S' h => ih.2.2.2.2.2.1 S z0 0 r S' h) (fun S z0 => gqX4_test_24 x n 6 S z0 0) (fun S z0 r S' h => ih.2.2.2.2.2.2 S z0 0 r S' h) S a r S' hm
    · intro S a b r S' hm
      rw [gqX4_test_24] at hm
      rw [show Nat.beq 3 0 = false from rfl, cond_false, show Nat.beq 3 1 = false from rfl, cond_false, show Nat.beq 3 2 = false from rfl, cond_false, show Nat.beq 3 3 = true from rfl, cond_true] at hm
      exact frrX4_inBrackets_24 x (fun S z0 z1 => gqX4_test_24 x n 0 S z0 z1) (fun S z0 z1 r S' h => ih.1 S z0 z1 r S' h) (fun S z0 => gqX4_test_24 x n 1 S z0 0) (fun S z0 r S' h => ih.2.1 S z0 0 r S' h) (fun S z0 => gqX4_test_24 x n 2 S z0 0) (fun S z0 r S' h => ih.2.2.1 S z0 0 r S' h) (fun S z0 z1 => gqX4_test_24 x n 3 S z0 z1) (fun S z0 z1 r S' h => ih.2.2.2.1 S z0 z1 r S' h) (fun S z0 => gqX4_test_24 x n 4 S z0 0) (fun S z0 r S' h => ih.2.2.2.2.1 S z0 0 r S' h) (fun S z0 => gqX4_test_24 x n 5 S z0 0) (fun S z0 r S' h => ih.2.2.2.2.2.1 S z0 0 r S' h) (fun S z0 => gqX4_test_24 x n 6 S z0 0) (fun S z0 r S' h => ih.2.2.2.2.2.2 S z0 0 r S' h) S a b r S' hm
    · intro S a b r S' hm
      rw [gqX4_test_24] at hm
      rw [show Nat.beq 4 0 = false from rfl, cond_false, show Nat.beq 4 1 = false from rfl, cond_false, show Nat.beq 4 2 = false from rfl, cond_false, show Nat.beq 4 3 = false from rfl, cond_false, show Nat.beq 4 4 = true from rfl, cond_true] at hm
      exact frrX4_sum_24 x (fun S z0 z1 => gqX4_test_24 x n 0 S z0 z1) (fun S z0 z1 r S' h => ih.1 S z0 z1 r S' h) (fun S z0 => gqX4_test_24 x n 1 S z0 0) (fun S z0 r S' h => ih.2.1 S z0 0 r S' h) (fun S z0 => gqX4_test_24 x n 2 S z0 0) (fun S z0 r S' h => ih.2.2.1 S z0 0 r S' h) (fun S z0 z1 => gqX4_test_24 x n 3 S z0 z1) (fun S z0 z1 r S' h => ih.2.2.2.1 S z0 z1 r S' h) (fun S z0 => gqX4_test_24 x n 4 S z0 0) (fun S z0 r S' h => ih.2.2.2.2.1 S z0 0 r S' h) (fun S z0 => gqX4_test_24 x n 5 S z0 0) (fun S z0 r S' h => ih.2.2.2.2.2.1 S z0 0 r S' h) (fun S z0 => gqX4_test_24 x n 6 S z0 0) (fun S z0 r S' h => ih.2.2.2.2.2.2 S z0 0 r S' h) S a r S' hm
    · intro S a b r S' hm
      rw [gqX4_test_24] at hm
      rw [show Nat.beq 5 0 = false from rfl, cond_false, show Nat.beq 5 1 = false from rfl, cond_false, show Nat.beq 5 2 = false from rfl, cond_false, show Nat.beq 5 3 = false from rfl, cond_false, show Nat.beq 5 4 = false from rfl, cond_false, show Nat.beq 5 5 = true from rfl, cond_true] at hm
      exact frrX4_term_24 x (fun S z0 z1 => gqX4_test_24 x n 0 S z0 z1) (fun S z0 z1 r S' h => ih.1 S z0 z1 r S' h) (fun S z0 => gqX4_test_24 x n 1 S z0 0) (fun S z0 r S' h => ih.2.1 S z0 0 r S' h) (fun S z0 => gqX4_test_24 x n 2 S z0 0) (fun S z0 r S' h => ih.2.2.1 S z0 0 r S' h) (fun S z0 z1 => gqX4_test_24 x n 3 S z0 z1) (fun S z0 z1 r S' h => ih.2.2.2.1 S z0 z1 r S' h) (fun S z0 => gqX4_test_24 x n 4 S z0 0) (fun S z0 r S' h => ih.2.2.2.2.1 S z0 0 r S' h) (fun S z0 => gqX4_test_24 x n 5 S z0 0) (fun S z0 r S' h => ih.2.2.2.2.2.1 S z0 0 r S' h) (fun S z0 => gqX4_test_24 x n 6 S z0 0) (fun S z0 r S' h => ih.2.2.2.2.2.2 S z0 0 r S' h) S a r S' hm
    · intro S a b r S' hm
      rw [gqX4_test_24] at hm
      rw [show Nat.beq 6 0 = false from rfl, cond_false, show Nat.beq 6 1 = false from rfl, cond_false, show Nat.beq 6 2 = false from rfl, cond_false, show Nat.beq 6 3 = false from rfl, cond_false, show Nat.beq 6 4 = false from rfl, cond_false, show Nat.beq 6 5 = false from rfl, cond_false, show Nat.beq 6 6 = true from rfl, cond_true] at hm
      exact frrX4_part_24 x (fun S z0 z1 => gqX4_test_24 x n 0 S z0 z1) (fun S z0 z1 r S' h => ih.1 S z0 z1 r S' h) (fun S z0 => gqX4_test_24 x n 1 S z0 0) (fun S z0 r S' h => ih.2.1 S z0 0 r S' h) (fun S z0 => gqX4_test_24 x n 2 S z0 0) (fun S z0 r S' h => ih.2.2.1 S z0 0 r S' h) (fun S z0 z1 => gqX4_test_24 x n 3 S z0 z1) (fun S z0 z1 r S' h => ih.2.2.2.1 S z0 z1 r S' h) (fun S z0 => gqX4_test_24 x n 4 S z0 0) (fun S z0 r S' h => ih.2.2.2.2.1 S z0 0 r S' h) (fun S z0 => gqX4_test_24 x n 5 S z0 0) (fun S z0 r S' h => ih.2.2.2.2.2.1 S z0 0 r S' h) (fun S z0 => gqX4_test_24 x n 6 S z0 0) (fun S z0 r S' h => ih.2.2.2.2.2.2 S z0 0 r S' h) S a r S' hm
theorem frX4_test_24 (x : XT) (S : ST) (p1 : Int32) (p2 : Int32) (r : Int32) (S' : ST) (hm : gfX4_test_24 x S p1 p2 = some (r, S')) : Agr wX4_test_24 S S' :=
  (frqX4_test_24 x 60).1 S p1 p2 r S' hm
theorem frX4_plain_24 (x : XT) (S : ST) (p1 : Int32) (r : Int32) (S' : ST) (hm : gfX4_plain_24 x S p1 = some (r, S')) : Agr wX4_test_24 S S' :=
  (frqX4_test_24 x 60).2.1 S p1 0 r S' hm
theorem frX4_comparison_24 (x : XT) (S : ST) (p1 : Int32) (r : Int32) (S' : ST) (hm : gfX4_comparison_24 x S p1 = some (r, S')) : Agr wX4_test_24 S S' :=
  (frqX4_test_24 x 60).2.2.1 S p1 0 r S' hm
theorem frX4_inBrackets_24 (x : XT) (S : ST) (p1 : Int32) (p2 : Int32) (r : Int32) (S' : ST) (hm : gfX4_inBrackets_24 x S p1 p2 = some (r, S')) : Agr wX4_test_24 S S' :=
  (frqX4_test_24 x 60).2.2.2.1 S p1 p2 r S' hm
theorem frX4_sum_24 (x : XT) (S : ST) (p1 : Int32) (r : Int32) (S' : ST) (hm : gfX4_sum_24 x S p1 = some (r, S')) : Agr wX4_test_24 S S' :=
  (frqX4_test_24 x 60).2.2.2.2.1 S p1 0 r S' hm
theorem frX4_term_24 (x : XT) (S : ST) (p1 : Int32) (r : Int32) (S' : ST) (hm : gfX4_term_24 x S p1 = some (r, S')) : Agr wX4_test_24 S S' :=
  (frqX4_test_24 x 60).2.2.2.2.2.1 S p1 0 r S' hm
theorem frX4_part_24 (x : XT) (S : ST) (p1 : Int32) (r : Int32) (S' : ST) (hm : gfX4_part_24 x S p1 = some (r, S')) : Agr wX4_test_24 S S' :=
  (frqX4_test_24 x 60).2.2.2.2.2.2 S p1 0 r S' hm
end FRA
