section FRA
def wX11_drawn_130 : List (Nat × Nat) × List Nat × List Nat × List Nat := ([], [], [], [])
set_option maxHeartbeats 4000000 in
set_option maxRecDepth 20000 in
theorem fbX11_drawn_130_23 (x : XT)  (S : ST)  (r : Int32) (S' : ST) (hm : bfX11_drawn_130_23 x  S  = some (r, S')) : Agr wX11_drawn_130 S S' := by
    unfold bfX11_drawn_130_23 at hm
    cases hm
    exact Agr.rf
set_option maxHeartbeats 4000000 in
set_option maxRecDepth 20000 in
theorem fbX11_drawn_130_48 (x : XT)  (S : ST) (v1 : Int32) (t1 : Int32) (r : Int32) (S' : ST) (hm : bfX11_drawn_130_48 x  S v1 t1 = some (r, S')) : Agr wX11_drawn_130 S S' := by
    unfold bfX11_drawn_130_48 at hm
    obtain ⟨o1, hm⟩ := oblk hm
    cases hm
    exact Agr.rf
set_option maxHeartbeats 4000000 in
set_option maxRecDepth 20000 in
theorem fbX11_drawn_130_0 (x : XT)  (S : ST) (p1 : Int32) (p2 : Int32) (r : Int32) (S' : ST) (hm : bfX11_drawn_130_0 x  S p1 p2 = some (r, S')) : Agr wX11_drawn_130 S S' := by
    unfold bfX11_drawn_130_0 at hm
    cases h1 : gfX11_lies x S p1 0 ((S.1 130 51) - 1) with
    | none => rw [h1] at hm; cases hm
    | some q2 =>
      obtain ⟨r3, S4⟩ := q2
      rw [h1] at hm
      dsimp only at hm
      have a_S4 : Agr wX11_drawn_130 S S4 := Agr.tr Agr.rf (Agr.sub (frX11_lies x S p1 0 ((S.1 130 51) - 1) _ _ h1) (by decide))
      by_cases c5 : r3 = 0
      · rw [if_pos c5] at hm
        exact Agr.tr a_S4 (fbX11_drawn_130_23 x  S4 _ _ hm)
      · rw [if_neg c5] at hm
        cases h6 : gfX11_lies x S4 p2 0 2 with
        | none => rw [h6] at hm; cases hm
        | some q7 =>
          obtain ⟨r8, S9⟩ := q7
          rw [h6] at hm
          dsimp only at hm
          have a_S9 : Agr wX11_drawn_130 S S9 := Agr.tr a_S4 (Agr.sub (frX11_lies x S4 p2 0 2 _ _ h6) (by decide))
          by_cases c10 : ¬ r8 = 0
          · rw [if_pos c10] at hm
            by_cases c11 : ¬ p2 = 0
            · rw [if_pos c11] at hm
              by_cases c12 : ¬ p2 = 1
              · rw [if_pos c12] at hm
                exact Agr.tr a_S9 (fbX11_drawn_130_48 x  S9 p1 10 _ _ hm)
              · rw [if_neg c12] at hm
                exact Agr.tr a_S9 (fbX11_drawn_130_48 x  S9 p1 5 _ _ hm)
            · rw [if_neg c11] at hm
              exact Agr.tr a_S9 (fbX11_drawn_130_48 x  S9 p1 0 _ _ hm)
          · rw [if_neg c10] at hm
            exact Agr.tr a_S9 (fbX11_drawn_130_23 x  S9 _ _ hm)
theorem frX11_drawn_130 (x : XT) (S : ST) (p1 : Int32) (p2 : Int32) (r : Int32) (S' : ST) (hm : gfX11_drawn_130 x S p1 p2 = some (r, S')) : Agr wX11_drawn_130 S S' := fbX11_drawn_130_0 x S p1 p2 r S' hm
def wX11_allMany_130 : List (Nat × Nat) × List Nat × List Nat × List Nat := ([], [], [], [])
set_option maxHeartbeats 4000000 in
set_option maxRecDepth 20000 in
theorem fbX11_allMany_130_4 (x : XT) (k4 : ST → Int32 → Int32 → Option (Int32 × ST)) (ak4 : ∀ (S : ST) (v1 : Int32) (v2 : Int32) (r : Int32) (S' : ST), k4 S v1 v2 = some (r, S') → Agr wX11_allMany_130 S S') (S : ST) (v1 : Int32) (v2 : Int32) (r : Int32) (S' : ST) (hm : bfX11_allMany_130_4 x k4 S v1 v2 = some (r, S')) : Agr wX11_allMany_130 S S' := by
    unfold bfX11_allMany_130_4 at hm
    by_cases c1 : (S.2.1 132 92) ≤ v2
    · rw [if_pos c1] at hm
      cases hm
      exact Agr.rf
    · rw [if_neg c1] at hm
      obtain ⟨o2, hm⟩ := oblk hm
      exact Agr.tr Agr.rf (ak4 S (v1 + (S.2.1 132 ((5 + v2).toNatClampNeg))) (v2 + 1) _ _ hm)
theorem flX11_allMany_130_4 (x : XT)  : ∀ (n : Nat) (S : ST) (v1 : Int32) (v2 : Int32) (r : Int32) (S' : ST), lfX11_allMany_130_4 x  n S v1 v2 = some (r, S') → Agr wX11_allMany_130 S S'
  | 0, _, _, _, _, _, hm => by cases hm
  | n + 1, S, v1, v2, r, S', hm => fbX11_allMany_130_4 x (lfX11_allMany_130_4 x  n) (flX11_allMany_130_4 x  n) S v1 v2 r S' hm
set_option maxHeartbeats 4000000 in
set_option maxRecDepth 20000 in
theorem fbX11_allMany_130_0 (x : XT)  (S : ST)  (r : Int32) (S' : ST) (hm : bfX11_allMany_130_0 x  S  = some (r, S')) : Agr wX11_allMany_130 S S' := by
    unfold bfX11_allMany_130_0 at hm
    exact Agr.tr Agr.rf (flX11_allMany_130_4 x  20000 S 0 0 _ _ hm)
theorem frX11_allMany_130 (x : XT) (S : ST)  (r : Int32) (S' : ST) (hm : gfX11_allMany_130 x S  = some (r, S')) : Agr wX11_allMany_130 S S' := fbX11_allMany_130_0 x S  r S' hm
def wX11_count_130 : List (Nat × Nat) × List Nat × List Nat × List Nat := ([], [], [], [])
set_option maxHeartbeats 4000000 in
set_option maxRecDepth 20000 in
theorem fbX11_count_130_0 (x : XT)  (S : ST) (p1 : Int32) (r : Int32) (S' : ST) (hm : bfX11_count_130_0 x  S p1 = some (r, S')) : Agr wX11_count_130 S S' := by
    unfold bfX11_count_130_0 at hm
    by_cases c1 : p1 = 0
    · rw [if_pos c1] at hm
      cases h2 : gfX11_gateMany_130 x S with
      | none => rw [h2] at hm; cases hm
      | some q3 =>
        obtain ⟨r4, S5⟩ := q3
        rw [h2] at hm
        dsimp only at hm
        have a_S5 : Agr wX11_count_130 S S5 := Agr.tr Agr.rf (Agr.sub (frX11_gateMany_130 x S _ _ h2) (by decide))
        cases hm
        exact a_S5
    rw [if_neg c1] at hm
    by_cases c6 : p1 = 1
    · rw [if_pos c6] at hm
      cases hm
      exact Agr.rf
    rw [if_neg c6] at hm
    by_cases c7 : p1 = 2
    · rw [if_pos c7] at hm
      cases h8 : gfX11_allMany_130 x S with
      | none => rw [h8] at hm; cases hm
      | some q9 =>
        obtain ⟨r10, S11⟩ := q9
        rw [h8] at hm
        dsimp only at hm
        have a_S11 : Agr wX11_count_130 S S11 := Agr.tr Agr.rf (Agr.sub (frX11_allMany_130 x S _ _ h8) (by decide))
        cases hm
        exact a_S11
    rw [if_neg c7] at hm
    by_cases c12 : p1 = 3
    · rw [if_pos c12] at hm
      cases hm
      exact Agr.rf
    rw [if_neg c12] at hm
    by_cases c13 : p1 = 4
    · rw [if_pos c13] at hm
      cases hm
      exact Agr.rf
    rw [if_neg c13] at hm
    by_cases c14 : p1 = 5
    · rw [if_pos c14] at hm
      cases hm
      exact Agr.rf
    rw [if_neg c14] at hm
    by_cases c15 : p1 = 6
    · rw [if_pos c15] at hm
      cases hm
      exact Agr.rf
    rw [if_neg c15] at hm
    by_cases c16 : p1 = 7
    · rw [if_pos c16] at hm
      obtain ⟨o17, hm⟩ := oblk hm
      cases hm
      exact Agr.rf
    rw [if_neg c16] at hm
    by_cases c18 : p1 = 8
    · rw [if_pos c18] at hm
      obtain ⟨o19, hm⟩ := oblk hm
      cases hm
      exact Agr.rf
    rw [if_neg c18] at hm
    by_cases c20 : p1 = 9
    · rw [if_pos c20] at hm
      obtain ⟨o21, hm⟩ := oblk hm
      cases hm
      exact Agr.rf
    rw [if_neg c20] at hm
    by_cases c22 : p1 = 10
    · rw [if_pos c22] at hm
      cases hm
      exact Agr.rf
    rw [if_neg c22] at hm
    by_cases c23 : p1 = 11
    · rw [if_pos c23] at hm
      cases hm
      exact Agr.rf
    rw [if_neg c23] at hm
    by_cases c24 : p1 = 12
    · rw [if_pos c24] at hm
      cases hm
      exact Agr.rf
    rw [if_neg c24] at hm
    by_cases c25 : p1 = 13
    · rw [if_pos c25] at hm
      cases h26 : gfX11_termAt x S (p1 - 13) with
      | none => rw [h26] at hm; cases hm
      | some q27 =>
        obtain ⟨r28, S29⟩ := q27
        rw [h26] at hm
        dsimp only at hm
        have a_S29 : Agr wX11_count_130 S S29 := Agr.tr Agr.rf (Agr.sub (frX11_termAt x S (p1 - 13) _ _ h26) (by decide))
        obtain ⟨o30, hm⟩ := oblk hm
        cases hm
        exact a_S29
    rw [if_neg c25] at hm
    by_cases c31 : p1 = 14
    · rw [if_pos c31] at hm
      cases h32 : gfX11_termAt x S (p1 - 13) with
      | none => rw [h32] at hm; cases hm
      | some q33 =>
        obtain ⟨r34, S35⟩ := q33
        rw [h32] at hm
        dsimp only at hm
        have a_S35 : Agr wX11_count_130 S S35 := Agr.tr Agr.rf (Agr.sub (frX11_termAt x S (p1 - 13) _ _ h32) (by decide))
        obtain ⟨o36, hm⟩ := oblk hm
        cases hm
        exact a_S35
    rw [if_neg c31] at hm
    by_cases c37 : p1 = 15
    · rw [if_pos c37] at hm
      cases h38 : gfX11_termAt x S (p1 - 13) with
      | none => rw [h38] at hm; cases hm
      | some q39 =>
        obtain ⟨r40, S41⟩ := q39
        rw [h38] at hm
        dsimp only at hm
        have a_S41 : Agr wX11_count_130 S S41 := Agr.tr Agr.rf (Agr.sub (frX11_termAt x S (p1 - 13) _ _ h38) (by decide))
        obtain ⟨o42, hm⟩ := oblk hm
        cases hm
        exact a_S41
    rw [if_neg c37] at hm
    cases hm
    exact Agr.rf
theorem frX11_count_130 (x : XT) (S : ST) (p1 : Int32) (r : Int32) (S' : ST) (hm : gfX11_count_130 x S p1 = some (r, S')) : Agr wX11_count_130 S S' := fbX11_count_130_0 x S p1 r S' hm
def wX11_status_130 : List (Nat × Nat) × List Nat × List Nat × List Nat := ([], [], [], [])
set_option maxHeartbeats 4000000 in
set_option maxRecDepth 20000 in
theorem fbX11_status_130_0 (x : XT)  (S : ST)  (r : Int32) (S' : ST) (hm : bfX11_status_130_0 x  S  = some (r, S')) : Agr wX11_status_130 S S' := by
    unfold bfX11_status_130_0 at hm
    cases hm
    exact Agr.rf
theorem frX11_status_130 (x : XT) (S : ST)  (r : Int32) (S' : ST) (hm : gfX11_status_130 x S  = some (r, S')) : Agr wX11_status_130 S S' := fbX11_status_130_0 x S  r S' hm
def wX7_addLaw_1_T : List (Nat × Nat) × List Nat × List Nat × List Nat := ([(1, 16)], [], [], [15])
set_option maxHeartbeats 4000000 in
set_option maxRecDepth 20000 in
theorem fbX7_addLaw_1_T_0 (x : XT)  (S : ST) (p1 : Nat) (r : Int32) (S' : ST) (hm : bfX7_addLaw_1_T_0 x  S p1 = some (r, S')) : Agr wX7_addLaw_1_T S S' := by
    unfold bfX7_addLaw_1_T_0 at hm
    obtain ⟨o1, hm⟩ := oblk hm
    by_cases c2 : (S.1 1 16) < 6
    · rw [if_pos c2] at hm
      obtain ⟨o3, hm⟩ := oblk hm
      cases hm
      exact (Agr.q (Agr.f Agr.rf 1 16 ((S.1 1 16) + 1) (by decide)) 15 ((S.1 1 16).toNatClampNeg) (some p1) (by decide))
    · rw [if_neg c2] at hm
      cases hm
      exact Agr.rf
theorem frX7_addLaw_1_T (x : XT) (S : ST) (p1 : Nat) (r : Int32) (S' : ST) (hm : gfX7_addLaw_1_T x S p1 = some (r, S')) : Agr wX7_addLaw_1_T S S' := fbX7_addLaw_1_T_0 x S p1 r S' hm
end FRA
