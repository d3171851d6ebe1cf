section FRA
def wJ7_fill_d0a16_78 : List (Nat × Nat) × List Nat × List Nat × List Nat := ([], [], [78], [])
set_option maxHeartbeats 4000000 in
set_option maxRecDepth 20000 in
theorem fbJ7_fill_d0a16_78_6 (x : XT) (k6 : ST → Int64 → Int32 → Int32 → Option (Unit × ST)) (ak6 : ∀ (S : ST) (v1 : Int64) (v3 : Int32) (v4 : Int32) (r : Unit) (S' : ST), k6 S v1 v3 v4 = some (r, S') → Agr wJ7_fill_d0a16_78 S S') (S : ST) (v1 : Int64) (v3 : Int32) (v4 : Int32) (r : Unit) (S' : ST) (hm : bfJ7_fill_d0a16_78_6 x k6 S v1 v3 v4 = some (r, S')) : Agr wJ7_fill_d0a16_78 S S' := by
    unfold bfJ7_fill_d0a16_78_6 at hm
    by_cases c1 : v4 ≤ v3
    · rw [if_pos c1] at hm
      cases hm
      exact Agr.rf
    · rw [if_neg c1] at hm
      obtain ⟨o2, hm⟩ := oblk hm
      exact Agr.tr (Agr.j Agr.rf 78 v3.toNatClampNeg v1 (by decide)) (ak6 (S.1, S.2.1, (u2 S.2.2.1 78 v3.toNatClampNeg v1), S.2.2.2) v1 (v3 + 1) v4 _ _ hm)
theorem flJ7_fill_d0a16_78_6 (x : XT)  : ∀ (n : Nat) (S : ST) (v1 : Int64) (v3 : Int32) (v4 : Int32) (r : Unit) (S' : ST), lfJ7_fill_d0a16_78_6 x  n S v1 v3 v4 = some (r, S') → Agr wJ7_fill_d0a16_78 S S'
  | 0, _, _, _, _, _, _, hm => by cases hm
  | n + 1, S, v1, v3, v4, r, S', hm => fbJ7_fill_d0a16_78_6 x (lfJ7_fill_d0a16_78_6 x  n) (flJ7_fill_d0a16_78_6 x  n) S v1 v3 v4 r S' hm
set_option maxHeartbeats 4000000 in
set_option maxRecDepth 20000 in
theorem fbJ7_fill_d0a16_78_0 (x : XT)  (S : ST) (p1 : Int64) (r : Unit) (S' : ST) (hm : bfJ7_fill_d0a16_78_0 x  S p1 = some (r, S')) : Agr wJ7_fill_d0a16_78 S S' := by
    unfold bfJ7_fill_d0a16_78_0 at hm
    exact Agr.tr Agr.rf (flJ7_fill_d0a16_78_6 x  20000 S p1 0 120 _ _ hm)
theorem frJ7_fill_d0a16_78 (x : XT) (S : ST) (p1 : Int64) (r : Unit) (S' : ST) (hm : gfJ7_fill_d0a16_78 x S p1 = some (r, S')) : Agr wJ7_fill_d0a16_78 S S' := fbJ7_fill_d0a16_78_0 x S p1 r S' hm
def wX6_flow_54 : List (Nat × Nat) × List Nat × List Nat × List Nat := ([], [21, 22, 70], [78, 79], [])
set_option maxHeartbeats 4000000 in
set_option maxRecDepth 20000 in
theorem fbX6_flow_54_65 (x : XT) (k21 : ST → Int32 → Int32 → Int32 → Option (Unit × ST)) (ak21 : ∀ (S : ST) (v3 : Int32) (v4 : Int32) (v5 : Int32) (r : Unit) (S' : ST), k21 S v3 v4 v5 = some (r, S') → Agr wX6_flow_54 S S') (k38 : ST → Int32 → Int32 → Int32 → Int32 → Option (Unit × ST)) (ak38 : ∀ (S : ST) (v3 : Int32) (v4 : Int32) (v5 : Int32) (v6 : Int32) (r : Unit) (S' : ST), k38 S v3 v4 v5 v6 = some (r, S') → Agr wX6_flow_54 S S') (S : ST) (v3 : Int32) (v4 : Int32) (v5 : Int32) (v6 : Int32) (r : Unit) (S' : ST) (hm : bfX6_flow_54_65 x k21 k38 S v3 v4 v5 v6 = some (r, S')) : Agr wX6_flow_54 S S' := by
    unfold bfX6_flow_54_65 at hm
    exact Agr.tr Agr.rf (ak38 S v3 v4 v5 (v6 + 1) _ _ hm)
set_option maxHeartbeats 4000000 in
set_option maxRecDepth 20000 in
theorem fbX6_flow_54_38 (x : XT) (k21 : ST → Int32 → Int32 → Int32 → Option (Unit × ST)) (ak21 : ∀ (S : ST) (v3 : Int32) (v4 : Int32) (v5 : Int32) (r : Unit) (S' : ST), k21 S v3 v4 v5 = some (r, S') → Agr wX6_flow_54 S S') (k38 : ST → Int32 → Int32 → Int32 → Int32 → Option (Unit × ST)) (ak38 : ∀ (S : ST) (v3 : Int32) (v4 : Int32) (v5 : Int32) (v6 : Int32) (r : Unit) (S' : ST), k38 S v3 v4 v5 v6 = some (r, S') → Agr wX6_flow_54 S S') (S : ST) (v3 : Int32) (v4 : Int32) (v5 : Int32) (v6 : Int32) (r : Unit) (S' : ST) (hm : bfX6_flow_54_38 x k21 k38 S v3 v4 v5 v6 = some (r, S')) : Agr wX6_flow_54 S S' := by
    unfold bfX6_flow_54_38 at hm
    by_cases c1 : 120 ≤ v6
    · rw [if_pos c1] at hm
      exact Agr.tr (Agr.jc Agr.rf 78 _ (by decide)) (ak21 (S.1, S.2.1, (u1 S.2.2.1 78 (va_cpy (S.2.2.1 79) (S.2.2.1 78) 0 0 120)), S.2.2.2) v3 v4 (v5 + 1) _ _ hm)
    · rw [if_neg c1] at hm
      obtain ⟨o2, hm⟩ := oblk hm
      by_cases c3 : (lg_cmp (S.2.2.1 78 v6.toNatClampNeg) 0) ≤ 0
      · rw [if_pos c3] at hm
        exact Agr.tr Agr.rf (fbX6_flow_54_65 x k21 ak21 k38 ak38 S v3 v4 v5 v6 _ _ hm)
      · rw [if_neg c3] at hm
        cases h4 : gfX6_flowFrom_54 x S v6 v4 with
        | none => rw [h4] at hm; cases hm
        | some q5 =>
          obtain ⟨r6, S7⟩ := q5
          rw [h4] at hm
          dsimp only at hm
          have a_S7 : Agr wX6_flow_54 S S7 := Agr.tr Agr.rf (Agr.sub (frX6_flowFrom_54 x S v6 v4 _ _ h4) (by decide))
          exact Agr.tr a_S7 (fbX6_flow_54_65 x k21 ak21 k38 ak38 S7 v3 v4 v5 v6 _ _ hm)
theorem flX6_flow_54_38 (x : XT) (k21 : ST → Int32 → Int32 → Int32 → Option (Unit × ST)) (ak21 : ∀ (S : ST) (v3 : Int32) (v4 : Int32) (v5 : Int32) (r : Unit) (S' : ST), k21 S v3 v4 v5 = some (r, S') → Agr wX6_flow_54 S S') : ∀ (n : Nat) (S : ST) (v3 : Int32) (v4 : Int32) (v5 : Int32) (v6 : Int32) (r : Unit) (S' : ST), lfX6_flow_54_38 x k21 n S v3 v4 v5 v6 = some (r, S') → Agr wX6_flow_54 S S'
  | 0, _, _, _, _, _, _, _, hm => by cases hm
  | n + 1, S, v3, v4, v5, v6, r, S', hm => fbX6_flow_54_38 x k21 ak21 (lfX6_flow_54_38 x k21 n) (flX6_flow_54_38 x k21 ak21 n) S v3 v4 v5 v6 r S' hm
set_option maxHeartbeats 4000000 in
set_option maxRecDepth 20000 in
theorem fbX6_flow_54_21 (x : XT) (k21 : ST → Int32 → Int32 → Int32 → Option (Unit × ST)) (ak21 : ∀ (S : ST) (v3 : Int32) (v4 : Int32) (v5 : Int32) (r : Unit) (S' : ST), k21 S v3 v4 v5 = some (r, S') → Agr wX6_flow_54 S S') (S : ST) (v3 : Int32) (v4 : Int32) (v5 : Int32) (r : Unit) (S' : ST) (hm : bfX6_flow_54_21 x k21 S v3 v4 v5 = some (r, S')) : Agr wX6_flow_54 S S' := by
    unfold bfX6_flow_54_21 at hm
    by_cases c1 : v3 ≤ v5
    · rw [if_pos c1] at hm
      cases hm
      exact Agr.rf
    · rw [if_neg c1] at hm
      cases h2 : gfJ7_fill_d0a16_79 x S 0 with
      | none => rw [h2] at hm; cases hm
      | some q3 =>
        obtain ⟨r4, S5⟩ := q3
        rw [h2] at hm
        dsimp only at hm
        have a_S5 : Agr wX6_flow_54 S S5 := Agr.tr Agr.rf (Agr.sub (frJ7_fill_d0a16_79 x S 0 _ _ h2) (by decide))
        exact Agr.tr a_S5 (flX6_flow_54_38 x k21 ak21 20000 S5 v3 v4 v5 0 _ _ hm)
theorem flX6_flow_54_21 (x : XT)  : ∀ (n : Nat) (S : ST) (v3 : Int32) (v4 : Int32) (v5 : Int32) (r : Unit) (S' : ST), lfX6_flow_54_21 x  n S v3 v4 v5 = some (r, S') → Agr wX6_flow_54 S S'
  | 0, _, _, _, _, _, _, hm => by cases hm
  | n + 1, S, v3, v4, v5, r, S', hm => fbX6_flow_54_21 x (lfX6_flow_54_21 x  n) (flX6_flow_54_21 x  n) S v3 v4 v5 r S' hm
set_option maxHeartbeats 4000000 in
set_option maxRecDepth 20000 in
theorem fbX6_flow_54_0 (x : XT)  (S : ST) (p1 : Int64) (p3 : Int32) (p4 : Int32) (r : Unit) (S' : ST) (hm : bfX6_flow_54_0 x  S p1 p3 p4 = some (r, S')) : Agr wX6_flow_54 S S' := by
    unfold bfX6_flow_54_0 at hm
    cases h1 : gfJ7_fill_d0a16_78 x S 0 with
    | none => rw [h1] at hm; cases hm
    | some q2 =>
      obtain ⟨r3, S4⟩ := q2
      rw [h1] at hm
      dsimp only at hm
      have a_S4 : Agr wX6_flow_54 S S4 := Agr.tr Agr.rf (Agr.sub (frJ7_fill_d0a16_78 x S 0 _ _ h1) (by decide))
      cases h5 : gfX6_start_54 x S4 with
      | none => rw [h5] at hm; cases hm
      | some q6 =>
        obtain ⟨r7, S8⟩ := q6
        rw [h5] at hm
        dsimp only at hm
        have a_S8 : Agr wX6_flow_54 S S8 := Agr.tr a_S4 (Agr.sub (frX6_start_54 x S4 _ _ h5) (by decide))
        obtain ⟨o9, hm⟩ := oblk hm
        exact Agr.tr (Agr.j a_S8 78 r7.toNatClampNeg p1 (by decide)) (flX6_flow_54_21 x  20000 (S8.1, S8.2.1, (u2 S8.2.2.1 78 r7.toNatClampNeg p1), S8.2.2.2) p3 p4 0 _ _ hm)
theorem frX6_flow_54 (x : XT) (S : ST) (p1 : Int64) (p3 : Int32) (p4 : Int32) (r : Unit) (S' : ST) (hm : gfX6_flow_54 x S p1 p3 p4 = some (r, S')) : Agr wX6_flow_54 S S' := fbX6_flow_54_0 x S p1 p3 p4 r S' hm
def wX6_flowed_54 : List (Nat × Nat) × List Nat × List Nat × List Nat := ([], [], [], [])
set_option maxHeartbeats 4000000 in
set_option maxRecDepth 20000 in
theorem fbX6_flowed_54_34 (x : XT) (k5 : ST → Int32 → Int32 → Int64 → Int32 → Option (Int64 × ST)) (ak5 : ∀ (S : ST) (v1 : Int32) (v2 : Int32) (v3 : Int64) (v5 : Int32) (r : Int64) (S' : ST), k5 S v1 v2 v3 v5 = some (r, S') → Agr wX6_flowed_54 S S') (S : ST) (v1 : Int32) (v2 : Int32) (v5 : Int32) (t0 : Int64) (t1 : Int64) (r : Int64) (S' : ST) (hm : bfX6_flowed_54_34 x k5 S v1 v2 v5 t0 t1 = some (r, S')) : Agr wX6_flowed_54 S S' := by
    unfold bfX6_flowed_54_34 at hm
    exact Agr.tr Agr.rf (ak5 S v1 v2 (t0 + t1) (v5 + 1) _ _ hm)
set_option maxHeartbeats 4000000 in
set_option maxRecDepth 20000 in
theorem fbX6_flowed_54_5 (x : XT) (k5 : ST → Int32 → Int32 → Int64 → Int32 → Option (Int64 × ST)) (ak5 : ∀ (S : ST) (v1 : Int32) (v2 : Int32) (v3 : Int64) (v5 : Int32) (r : Int64) (S' : ST), k5 S v1 v2 v3 v5 = some (r, S') → Agr wX6_flowed_54 S S') (S : ST) (v1 : Int32) (v2 : Int32) (v3 : Int64) (v5 : Int32) (r : Int64) (S' : ST) (hm : bfX6_flowed_54_5 x k5 S v1 v2 v3 v5 = some (r, S')) : Agr wX6_flowed_54 S S' := by
    unfold bfX6_flowed_54_5 at hm
    by_cases c1 : 120 ≤ v5
    · rw [if_pos c1] at hm
      cases hm
      exact Agr.rf
    · rw [if_neg c1] at hm
      cases h2 : gfX6_isAt x S v5 v1 v2 with
      | none => rw [h2] at hm; cases hm
      | some q3 =>
        obtain ⟨r4, S5⟩ := q3
        rw [h2] at hm
        dsimp only at hm
        have a_S5 : Agr wX6_flowed_54 S S5 := Agr.tr Agr.rf (Agr.sub (frX6_isAt x S v5 v1 v2 _ _ h2) (by decide))
        by_cases c6 : r4 = 0
        · rw [if_pos c6] at hm
          exact Agr.tr a_S5 (fbX6_flowed_54_34 x k5 ak5 S5 v1 v2 v5 v3 0 _ _ hm)
        · rw [if_neg c6] at hm
          obtain ⟨o7, hm⟩ := oblk hm
          exact Agr.tr a_S5 (fbX6_flowed_54_34 x k5 ak5 S5 v1 v2 v5 v3 (S5.2.2.1 78 v5.toNatClampNeg) _ _ hm)
theorem flX6_flowed_54_5 (x : XT)  : ∀ (n : Nat) (S : ST) (v1 : Int32) (v2 : Int32) (v3 : Int64) (v5 : Int32) (r : Int64) (S' : ST), lfX6_flowed_54_5 x  n S v1 v2 v3 v5 = some (r, S') → Agr wX6_flowed_54 S S'
  | 0, _, _, _, _, _, _, _, hm => by cases hm
  | n + 1, S, v1, v2, v3, v5, r, S', hm => fbX6_flowed_54_5 x (lfX6_flowed_54_5 x  n) (flX6_flowed_54_5 x  n) S v1 v2 v3 v5 r S' hm
set_option maxHeartbeats 4000000 in
set_option maxRecDepth 20000 in
theorem fbX6_flowed_54_0 (x : XT)  (S : ST) (p1 : Int32) (p2 : Int32) (r : Int64) (S' : ST) (hm : bfX6_flowed_54_0 x  S p1 p2 = some (r, S')) : Agr wX6_flowed_54 S S' := by
    unfold bfX6_flowed_54_0 at hm
    exact Agr.tr Agr.rf (flX6_flowed_54_5 x  20000 S p1 p2 0 0 _ _ hm)
theorem frX6_flowed_54 (x : XT) (S : ST) (p1 : Int32) (p2 : Int32) (r : Int64) (S' : ST) (hm : gfX6_flowed_54 x S p1 p2 = some (r, S')) : Agr wX6_flowed_54 S S' := fbX6_flowed_54_0 x S p1 p2 r S' hm
def wX10_ways_0 : List (Nat × Nat) × List Nat × List Nat × List Nat := ([(54, 2), (55, 0), (55, 6), (55, 11), (55, 16), (55, 18)], [21, 22, 56, 57, 58, 59, 60, 61, 62, 63, 64, 65, 66, 67, 68, 70], [78, 79], [69])
set_option maxHeartbeats 4000000 in
set_option maxRecDepth 20000 in
theorem fbX10_ways_0_22 (x : XT)  (S : ST)  (r : Int64) (S' : ST) (hm : bfX10_ways_0_22 x  S  = some (r, S')) : Agr wX10_ways_0 S S' := by
    unfold bfX10_ways_0_22 at hm
    cases hm
    exact Agr.rf
set_option maxHeartbeats 4000000 in
set_option maxRecDepth 20000 in
theorem fbX10_ways_0_0 (x : XT)  (S : ST) (p1 : Int32) (p2 : Int32) (p3 : Int32) (p4 : Int32) (r : Int64) (S' : ST) (hm : bfX10_ways_0_0 x  S p1 p2 p3 p4 = some (r, S')) : Agr wX10_ways_0 S S' := by
    unfold bfX10_ways_0_0 at hm
    cases h1 : gfX10_canSeek_0 x S p1 p2 p3 with
    | none => rw [h1] at hm; cases hm
    | some q2 =>
      obtain ⟨r3, S4⟩ := q2
      rw [h1] at hm
      dsimp only at hm
      have a_S4 : Agr wX10_ways_0 S S4 := Agr.tr Agr.rf (Agr.sub (frX10_canSeek_0 x S p1 p2 p3 _ _ h1) (by decide))
      by_cases c5 : r3 = 0
      · rw [if_pos c5] at hm
        exact Agr.tr a_S4 (fbX10_ways_0_22 x  S4 _ _ hm)
      · rw [if_neg c5] at hm
        by_cases c6 : p4 < 0
        · rw [if_pos c6] at hm
          exact Agr.tr a_S4 (fbX10_ways_0_22 x  S4 _ _ hm)
        · rw [if_neg c6] at hm
          by_cases c7 : p4 ≤ 12
          · rw [if_pos c7] at hm
            cases h8 : gfX6_begin_54_1 x S4 p1 with
            | none => rw [h8] at hm; cases hm
            | some q9 =>
              obtain ⟨r10, S11⟩ := q9
              rw [h8] at hm
              dsimp only at hm
              have a_S11 : Agr wX10_ways_0 S S11 := Agr.tr a_S4 (Agr.sub (frX6_begin_54_1 x S4 p1 _ _ h8) (by decide))
              cases h12 : gfX6_flow_54 x S11 1 p4 0 with
              | none => rw [h12] at hm; cases hm
              | some q13 =>
                obtain ⟨r14, S15⟩ := q13
                rw [h12] at hm
                dsimp only at hm
                have a_S15 : Agr wX10_ways_0 S S15 := Agr.tr a_S11 (Agr.sub (frX6_flow_54 x S11 1 p4 0 _ _ h12) (by decide))
                cases h16 : gfX6_flowed_54 x S15 p2 p3 with
                | none => rw [h16] at hm; cases hm
                | some q17 =>
                  obtain ⟨r18, S19⟩ := q17
                  rw [h16] at hm
                  dsimp only at hm
                  have a_S19 : Agr wX10_ways_0 S S19 := Agr.tr a_S15 (Agr.sub (frX6_flowed_54 x S15 p2 p3 _ _ h16) (by decide))
                  cases hm
                  exact a_S19
          · rw [if_neg c7] at hm
            exact Agr.tr a_S4 (fbX10_ways_0_22 x  S4 _ _ hm)
theorem frX10_ways_0 (x : XT) (S : ST) (p1 : Int32) (p2 : Int32) (p3 : Int32) (p4 : Int32) (r : Int64) (S' : ST) (hm : gfX10_ways_0 x S p1 p2 p3 p4 = some (r, S')) : Agr wX10_ways_0 S S' := fbX10_ways_0_0 x S p1 p2 p3 p4 r S' hm
def wX10_likely_0 : List (Nat × Nat) × List Nat × List Nat × List Nat := ([(54, 2), (55, 0), (55, 6), (55, 11), (55, 16), (55, 18)], [21, 22, 56, 57, 58, 59, 60, 61, 62, 63, 64, 65, 66, 67, 68, 70], [78, 79], [69])
set_option maxHeartbeats 4000000 in
set_option maxRecDepth 20000 in
theorem fbX10_likely_0_22 (x : XT)  (S : ST)  (r : Int64) (S' : ST) (hm : bfX10_likely_0_22 x  S  = some (r, S')) : Agr wX10_likely_0 S S' := by
    unfold bfX10_likely_0_22 at hm
    cases hm
    exact Agr.rf
set_option maxHeartbeats 4000000 in
set_option maxRecDepth 20000 in
theorem fbX10_likely_0_0 (x : XT)  (S : ST) (p1 : Int32) (p2 : Int32) (p3 : Int32) (p4 : Int32) (r : Int64) (S' : ST) (hm : bfX10_likely_0_0 x  S p1 p2 p3 p4 = some (r, S')) : Agr wX10_likely_0 S S' := by
    unfold bfX10_likely_0_0 at hm
    cases h1 : gfX10_canSeek_0 x S p1 p2 p3 with
    | none => rw [h1] at hm; cases hm
    | some q2 =>
      obtain ⟨r3, S4⟩ := q2
      rw [h1] at hm
      dsimp only at hm
      have a_S4 : Agr wX10_likely_0 S S4 := Agr.tr Agr.rf (Agr.sub (frX10_canSeek_0 x S p1 p2 p3 _ _ h1) (by decide))
      by_cases c5 : r3 = 0
      · rw [if_pos c5] at hm
        exact Agr.tr a_S4 (fbX10_likely_0_22 x  S4 _ _ hm)
      · rw [if_neg c5] at hm
        by_cases c6 : p4 < 0
        · rw [if_pos c6] at hm
          exact Agr.tr a_S4 (fbX10_likely_0_22 x  S4 _ _ hm)
        · rw [if_neg c6] at hm
          by_cases c7 : p4 ≤ 30
          · rw [if_pos c7] at hm
            cases h8 : gfX6_begin_54_1 x S4 p1 with
            | none => rw [h8] at hm; cases hm
            | some q9 =>
              obtain ⟨r10, S11⟩ := q9
              rw [h8] at hm
              dsimp only at hm
              have a_S11 : Agr wX10_likely_0 S S11 := Agr.tr a_S4 (Agr.sub (frX6_begin_54_1 x S4 p1 _ _ h8) (by decide))
              cases h12 : gfX6_flow_54 x S11 1000000000000 p4 1 with
              | none => rw [h12] at hm; cases hm
              | some q13 =>
                obtain ⟨r14, S15⟩ := q13
                rw [h12] at hm
                dsimp only at hm
                have a_S15 : Agr wX10_likely_0 S S15 := Agr.tr a_S11 (Agr.sub (frX6_flow_54 x S11 1000000000000 p4 1 _ _ h12) (by decide))
                cases h16 : gfX6_flowed_54 x S15 p2 p3 with
                | none => rw [h16] at hm; cases hm
                | some q17 =>
                  obtain ⟨r18, S19⟩ := q17
                  rw [h16] at hm
                  dsimp only at hm
                  have a_S19 : Agr wX10_likely_0 S S19 := Agr.tr a_S15 (Agr.sub (frX6_flowed_54 x S15 p2 p3 _ _ h16) (by decide))
                  cases hm
                  exact a_S19
          · rw [if_neg c7] at hm
            exact Agr.tr a_S4 (fbX10_likely_0_22 x  S4 _ _ hm)
theorem frX10_likely_0 (x : XT) (S : ST) (p1 : Int32) (p2 : Int32) (p3 : Int32) (p4 : Int32) (r : Int64) (S' : ST) (hm : gfX10_likely_0 x S p1 p2 p3 p4 = some (r, S')) : Agr wX10_likely_0 S S' := fbX10_likely_0_0 x S p1 p2 p3 p4 r S' hm
def wJ7_fill_53178_23 : List (Nat × Nat) × List Nat × List Nat × List Nat := ([], [23], [], [])
set_option maxHeartbeats 4000000 in
set_option maxRecDepth 20000 in
theorem fbJ7_fill_53178_23_5 (x : XT) (k5 : ST → Int32 → Int32 → Int32 → Option (Unit × ST)) (ak5 : ∀ (S : ST) (v1 : Int32) (v2 : Int32) (v3 : Int32) (r : Unit) (S' : ST), k5 S v1 v2 v3 = some (r, S') → Agr wJ7_fill_53178_23 S S') (S : ST) (v1 : Int32) (v2 : Int32) (v3 : Int32) (r : Unit) (S' : ST) (hm : bfJ7_fill_53178_23_5 x k5 S v1 v2 v3 = some (r, S')) : Agr wJ7_fill_53178_23 S S' := by
    unfold bfJ7_fill_53178_23_5 at hm
    by_cases c1 : v3 ≤ v2
    · rw [if_pos c1] at hm
      cases hm
      exact Agr.rf
    · rw [if_neg c1] at hm
      obtain ⟨o2, hm⟩ := oblk hm
      exact Agr.tr (Agr.i Agr.rf 23 v2.toNatClampNeg v1 (by decide)) (ak5 (S.1, (u2 S.2.1 23 v2.toNatClampNeg v1), S.2.2.1, S.2.2.2) v1 (v2 + 1) v3 _ _ hm)
theorem flJ7_fill_53178_23_5 (x : XT)  : ∀ (n : Nat) (S : ST) (v1 : Int32) (v2 : Int32) (v3 : Int32) (r : Unit) (S' : ST), lfJ7_fill_53178_23_5 x  n S v1 v2 v3 = some (r, S') → Agr wJ7_fill_53178_23 S S'
  | 0, _, _, _, _, _, _, hm => by cases hm
  | n + 1, S, v1, v2, v3, r, S', hm => fbJ7_fill_53178_23_5 x (lfJ7_fill_53178_23_5 x  n) (flJ7_fill_53178_23_5 x  n) S v1 v2 v3 r S' hm
set_option maxHeartbeats 4000000 in
set_option maxRecDepth 20000 in
theorem fbJ7_fill_53178_23_0 (x : XT)  (S : ST) (p1 : Int32) (r : Unit) (S' : ST) (hm : bfJ7_fill_53178_23_0 x  S p1 = some (r, S')) : Agr wJ7_fill_53178_23 S S' := by
    unfold bfJ7_fill_53178_23_0 at hm
    exact Agr.tr Agr.rf (flJ7_fill_53178_23_5 x  20000 S p1 0 20 _ _ hm)
theorem frJ7_fill_53178_23 (x : XT) (S : ST) (p1 : Int32) (r : Unit) (S' : ST) (hm : gfJ7_fill_53178_23 x S p1 = some (r, S')) : Agr wJ7_fill_53178_23 S S' := fbJ7_fill_53178_23_0 x S p1 r S' hm
def wX0_roundAndRound_20_1 : List (Nat × Nat) × List Nat × List Nat × List Nat := ([], [21, 22, 23], [], [])
set_option maxHeartbeats 4000000 in
set_option maxRecDepth 20000 in
theorem fbX0_roundAndRound_20_1_62 (x : XT)  (S : ST) (t0 : Int32) (r : Int32) (S' : ST) (hm : bfX0_roundAndRound_20_1_62 x  S t0 = some (r, S')) : Agr wX0_roundAndRound_20_1 S S' := by
    unfold bfX0_roundAndRound_20_1_62 at hm
    cases hm
    exact Agr.rf
set_option maxHeartbeats 4000000 in
set_option maxRecDepth 20000 in
theorem fbX0_roundAndRound_20_1_19 (x : XT) (k19 : ST → Int32 → Int32 → Int32 → Int32 → Int32 → Option (Int32 × ST)) (ak19 : ∀ (S : ST) (v2 : Int32) (v3 : Int32) (v4 : Int32) (v5 : Int32) (v6 : Int32) (r : Int32) (S' : ST), k19 S v2 v3 v4 v5 v6 = some (r, S') → Agr wX0_roundAndRound_20_1 S S') (S : ST) (v2 : Int32) (v3 : Int32) (v4 : Int32) (v5 : Int32) (v6 : Int32) (r : Int32) (S' : ST) (hm : bfX0_roundAndRound_20_1_19 x k19 S v2 v3 v4 v5 v6 = some (r, S')) : Agr wX0_roundAndRound_20_1 S S' := by
    unfold bfX0_roundAndRound_20_1_19 at hm
    by_cases c1 : 20 < v6
    · rw [if_pos c1] at hm
      cases hm
      exact Agr.rf
    · rw [if_neg c1] at hm
      obtain ⟨o2, hm⟩ := oblk hm
      by_cases c3 : (S.2.1 23 v5.toNatClampNeg) = (-1)
      · rw [if_pos c3] at hm
        obtain ⟨o4, hm⟩ := oblk hm
        cases h5 : gfX0_regard_20_1 x (S.1, (u2 S.2.1 23 v5.toNatClampNeg v6), S.2.2.1, S.2.2.2) v2 v3 v5 with
        | none => rw [h5] at hm; cases hm
        | some q6 =>
          obtain ⟨r7, S8⟩ := q6
          rw [h5] at hm
          dsimp only at hm
          have a_S8 : Agr wX0_roundAndRound_20_1 S S8 := Agr.tr (Agr.i Agr.rf 23 v5.toNatClampNeg v6 (by decide)) (Agr.sub (frX0_regard_20_1 x (S.1, (u2 S.2.1 23 v5.toNatClampNeg v6), S.2.2.1, S.2.2.2) v2 v3 v5 _ _ h5) (by decide))
          cases h9 : gfX0_told_20_1 x S8 260 with
          | none => rw [h9] at hm; cases hm
          | some q10 =>
            obtain ⟨r11, S12⟩ := q10
            rw [h9] at hm
            dsimp only at hm
            have a_S12 : Agr wX0_roundAndRound_20_1 S S12 := Agr.tr a_S8 (Agr.sub (frX0_told_20_1 x S8 260 _ _ h9) (by decide))
            exact Agr.tr a_S12 (ak19 S12 v2 v3 v4 r11 (v6 + 1) _ _ hm)
      · rw [if_neg c3] at hm
        by_cases c13 : v4 = 0
        · rw [if_pos c13] at hm
          obtain ⟨o14, hm⟩ := oblk hm
          exact Agr.tr Agr.rf (fbX0_roundAndRound_20_1_62 x  S (v6 - (S.2.1 23 v5.toNatClampNeg)) _ _ hm)
        · rw [if_neg c13] at hm
          obtain ⟨o15, hm⟩ := oblk hm
          exact Agr.tr Agr.rf (fbX0_roundAndRound_20_1_62 x  S (S.2.1 23 v5.toNatClampNeg) _ _ hm)
theorem flX0_roundAndRound_20_1_19 (x : XT)  : ∀ (n : Nat) (S : ST) (v2 : Int32) (v3 : Int32) (v4 : Int32) (v5 : Int32) (v6 : Int32) (r : Int32) (S' : ST), lfX0_roundAndRound_20_1_19 x  n S v2 v3 v4 v5 v6 = some (r, S') → Agr wX0_roundAndRound_20_1 S S'
  | 0, _, _, _, _, _, _, _, _, hm => by cases hm
  | n + 1, S, v2, v3, v4, v5, v6, r, S', hm => fbX0_roundAndRound_20_1_19 x (lfX0_roundAndRound_20_1_19 x  n) (flX0_roundAndRound_20_1_19 x  n) S v2 v3 v4 v5 v6 r S' hm
set_option maxHeartbeats 4000000 in
set_option maxRecDepth 20000 in
theorem fbX0_roundAndRound_20_1_0 (x : XT)  (S : ST) (p2 : Int32) (p3 : Int32) (p4 : Int32) (r : Int32) (S' : ST) (hm : bfX0_roundAndRound_20_1_0 x  S p2 p3 p4 = some (r, S')) : Agr wX0_roundAndRound_20_1 S S' := by
    unfold bfX0_roundAndRound_20_1_0 at hm
    cases h1 : gfJ7_fill_53178_23 x S (-1) with
    | none => rw [h1] at hm; cases hm
    | some q2 =>
      obtain ⟨r3, S4⟩ := q2
      rw [h1] at hm
      dsimp only at hm
      have a_S4 : Agr wX0_roundAndRound_20_1 S S4 := Agr.tr Agr.rf (Agr.sub (frJ7_fill_53178_23 x S (-1) _ _ h1) (by decide))
      obtain ⟨o5, hm⟩ := oblk hm
      exact Agr.tr a_S4 (flX0_roundAndRound_20_1_19 x  20000 S4 p2 p3 p4 (S4.2.1 8 p2.toNatClampNeg) 0 _ _ hm)
theorem frX0_roundAndRound_20_1 (x : XT) (S : ST) (p2 : Int32) (p3 : Int32) (p4 : Int32) (r : Int32) (S' : ST) (hm : gfX0_roundAndRound_20_1 x S p2 p3 p4 = some (r, S')) : Agr wX0_roundAndRound_20_1 S S' := fbX0_roundAndRound_20_1_0 x S p2 p3 p4 r S' hm
def wX10_again_0 : List (Nat × Nat) × List Nat × List Nat × List Nat := ([], [21, 22, 23], [], [])
set_option maxHeartbeats 4000000 in
set_option maxRecDepth 20000 in
theorem fbX10_again_0_30 (x : XT)  (S : ST)  (r : Int32) (S' : ST) (hm : bfX10_again_0_30 x  S  = some (r, S')) : Agr wX10_again_0 S S' := by
    unfold bfX10_again_0_30 at hm
    cases hm
    exact Agr.rf
set_option maxHeartbeats 4000000 in
set_option maxRecDepth 20000 in
theorem fbX10_again_0_51 (x : XT)  (S : ST) (t2 : Int32) (t3 : Int32) (t4 : Int32) (r : Int32) (S' : ST) (hm : bfX10_again_0_51 x  S t2 t3 t4 = some (r, S')) : Agr wX10_again_0 S S' := by
    unfold bfX10_again_0_51 at hm
    cases h1 : gfX0_roundAndRound_20_1 x S t2 t3 t4 with
    | none => rw [h1] at hm; cases hm
    | some q2 =>
      obtain ⟨r3, S4⟩ := q2
      rw [h1] at hm
      dsimp only at hm
      have a_S4 : Agr wX10_again_0 S S4 := Agr.tr Agr.rf (Agr.sub (frX0_roundAndRound_20_1 x S t2 t3 t4 _ _ h1) (by decide))
      cases hm
      exact a_S4
set_option maxHeartbeats 4000000 in
set_option maxRecDepth 20000 in
theorem fbX10_again_0_0 (x : XT)  (S : ST) (p1 : Int32) (p2 : Int32) (p3 : Int32) (r : Int32) (S' : ST) (hm : bfX10_again_0_0 x  S p1 p2 p3 = some (r, S')) : Agr wX10_again_0 S S' := by
    unfold bfX10_again_0_0 at hm
    cases h1 : gfX7_hasGoer_1 x S p1 with
    | none => rw [h1] at hm; cases hm
    | some q2 =>
      obtain ⟨r3, S4⟩ := q2
      rw [h1] at hm
      dsimp only at hm
      have a_S4 : Agr wX10_again_0 S S4 := Agr.tr Agr.rf (Agr.sub (frX7_hasGoer_1 x S p1 _ _ h1) (by decide))
      by_cases c5 : r3 = 0
      · rw [if_pos c5] at hm
        exact Agr.tr a_S4 (fbX10_again_0_30 x  S4 _ _ hm)
      · rw [if_neg c5] at hm
        cases h6 : gfX7_hasGate_1 x S4 p2 with
        | none => rw [h6] at hm; cases hm
        | some q7 =>
          obtain ⟨r8, S9⟩ := q7
          rw [h6] at hm
          dsimp only at hm
          have a_S9 : Agr wX10_again_0 S S9 := Agr.tr a_S4 (Agr.sub (frX7_hasGate_1 x S4 p2 _ _ h6) (by decide))
          by_cases c10 : r8 = 0
          · rw [if_pos c10] at hm
            exact Agr.tr a_S9 (fbX10_again_0_30 x  S9 _ _ hm)
          · rw [if_neg c10] at hm
            cases h11 : gfX10_within x S9 p3 2 with
            | none => rw [h11] at hm; cases hm
            | some q12 =>
              obtain ⟨r13, S14⟩ := q12
              rw [h11] at hm
              dsimp only at hm
              have a_S14 : Agr wX10_again_0 S S14 := Agr.tr a_S9 (Agr.sub (frX10_within x S9 p3 2 _ _ h11) (by decide))
              by_cases c15 : ¬ r13 = 0
              · rw [if_pos c15] at hm
                by_cases c16 : ¬ p3 = 0
                · rw [if_pos c16] at hm
                  exact Agr.tr a_S14 (fbX10_again_0_51 x  S14 p1 p2 0 _ _ hm)
                · rw [if_neg c16] at hm
                  exact Agr.tr a_S14 (fbX10_again_0_51 x  S14 p1 p2 1 _ _ hm)
              · rw [if_neg c15] at hm
                exact Agr.tr a_S14 (fbX10_again_0_30 x  S14 _ _ hm)
theorem frX10_again_0 (x : XT) (S : ST) (p1 : Int32) (p2 : Int32) (p3 : Int32) (r : Int32) (S' : ST) (hm : gfX10_again_0 x S p1 p2 p3 = some (r, S')) : Agr wX10_again_0 S S' := fbX10_again_0_0 x S p1 p2 p3 r S' hm
def wX6_tryArm_54 : List (Nat × Nat) × List Nat × List Nat × List Nat := ([], [59, 70], [], [])
set_option maxHeartbeats 4000000 in
set_option maxRecDepth 20000 in
theorem fbX6_tryArm_54_12 (x : XT) (k12 : ST → Int32 → Int32 → Option (Unit × ST)) (ak12 : ∀ (S : ST) (v1 : Int32) (v3 : Int32) (r : Unit) (S' : ST), k12 S v1 v3 = some (r, S') → Agr wX6_tryArm_54 S S') (S : ST) (v1 : Int32) (v3 : Int32) (r : Unit) (S' : ST) (hm : bfX6_tryArm_54_12 x k12 S v1 v3 = some (r, S')) : Agr wX6_tryArm_54 S S' := by
    unfold bfX6_tryArm_54_12 at hm
    by_cases c1 : 20 ≤ v3
    · rw [if_pos c1] at hm
      cases hm
      exact Agr.rf
    · rw [if_neg c1] at hm
      obtain ⟨o2, hm⟩ := oblk hm
      exact Agr.tr (Agr.i Agr.rf 70 (((v1 * 20) + v3).toNatClampNeg) (-2) (by decide)) (ak12 (S.1, (u2 S.2.1 70 (((v1 * 20) + v3).toNatClampNeg) (-2)), S.2.2.1, S.2.2.2) v1 (v3 + 1) _ _ hm)
theorem flX6_tryArm_54_12 (x : XT)  : ∀ (n : Nat) (S : ST) (v1 : Int32) (v3 : Int32) (r : Unit) (S' : ST), lfX6_tryArm_54_12 x  n S v1 v3 = some (r, S') → Agr wX6_tryArm_54 S S'
  | 0, _, _, _, _, _, hm => by cases hm
  | n + 1, S, v1, v3, r, S', hm => fbX6_tryArm_54_12 x (lfX6_tryArm_54_12 x  n) (flX6_tryArm_54_12 x  n) S v1 v3 r S' hm
set_option maxHeartbeats 4000000 in
set_option maxRecDepth 20000 in
theorem fbX6_tryArm_54_0 (x : XT)  (S : ST) (p1 : Int32) (p2 : Int32) (r : Unit) (S' : ST) (hm : bfX6_tryArm_54_0 x  S p1 p2 = some (r, S')) : Agr wX6_tryArm_54 S S' := by
    unfold bfX6_tryArm_54_0 at hm
    obtain ⟨o1, hm⟩ := oblk hm
    exact Agr.tr (Agr.i Agr.rf 59 p1.toNatClampNeg p2 (by decide)) (flX6_tryArm_54_12 x  20000 (S.1, (u2 S.2.1 59 p1.toNatClampNeg p2), S.2.2.1, S.2.2.2) p1 0 _ _ hm)
theorem frX6_tryArm_54 (x : XT) (S : ST) (p1 : Int32) (p2 : Int32) (r : Unit) (S' : ST) (hm : gfX6_tryArm_54 x S p1 p2 = some (r, S')) : Agr wX6_tryArm_54 S S' := fbX6_tryArm_54_0 x S p1 p2 r S' hm
def wX6_firstFix_54 : List (Nat × Nat) × List Nat × List Nat × List Nat := ([], [21, 22, 59, 70, 71, 72, 73, 74], [], [])
set_option maxHeartbeats 4000000 in
set_option maxRecDepth 20000 in
theorem fbX6_firstFix_54_79 (x : XT) (k15 : ST → Int32 → Int32 → Int32 → Option (Int32 × ST)) (ak15 : ∀ (S : ST) (v1 : Int32) (v2 : Int32) (v3 : Int32) (r : Int32) (S' : ST), k15 S v1 v2 v3 = some (r, S') → Agr wX6_firstFix_54 S S') (k40 : ST → Int32 → Int32 → Int32 → Int32 → Int32 → Option (Int32 × ST)) (ak40 : ∀ (S : ST) (v1 : Int32) (v2 : Int32) (v3 : Int32) (v4 : Int32) (v5 : Int32) (r : Int32) (S' : ST), k40 S v1 v2 v3 v4 v5 = some (r, S') → Agr wX6_firstFix_54 S S') (S : ST) (v1 : Int32) (v2 : Int32) (v3 : Int32) (v4 : Int32) (v5 : Int32) (r : Int32) (S' : ST) (hm : bfX6_firstFix_54_79 x k15 k40 S v1 v2 v3 v4 v5 = some (r, S')) : Agr wX6_firstFix_54 S S' := by
    unfold bfX6_firstFix_54_79 at hm
    exact Agr.tr Agr.rf (ak40 S v1 v2 v3 v4 (v5 + 1) _ _ hm)
set_option maxHeartbeats 4000000 in
set_option maxRecDepth 20000 in
theorem fbX6_firstFix_54_40 (x : XT) (k15 : ST → Int32 → Int32 → Int32 → Option (Int32 × ST)) (ak15 : ∀ (S : ST) (v1 : Int32) (v2 : Int32) (v3 : Int32) (r : Int32) (S' : ST), k15 S v1 v2 v3 = some (r, S') → Agr wX6_firstFix_54 S S') (k40 : ST → Int32 → Int32 → Int32 → Int32 → Int32 → Option (Int32 × ST)) (ak40 : ∀ (S : ST) (v1 : Int32) (v2 : Int32) (v3 : Int32) (v4 : Int32) (v5 : Int32) (r : Int32) (S' : ST), k40 S v1 v2 v3 v4 v5 = some (r, S') → Agr wX6_firstFix_54 S S') (S : ST) (v1 : Int32) (v2 : Int32) (v3 : Int32) (v4 : Int32) (v5 : Int32) (r : Int32) (S' : ST) (hm : bfX6_firstFix_54_40 x k15 k40 S v1 v2 v3 v4 v5 = some (r, S')) : Agr wX6_firstFix_54 S S' := by
    unfold bfX6_firstFix_54_40 at hm
    by_cases c1 : 10 ≤ v5
    · rw [if_pos c1] at hm
      cases h2 : gfX6_tryArm_54 x S v3 v4 with
      | none => rw [h2] at hm; cases hm
      | some q3 =>
        obtain ⟨r4, S5⟩ := q3
        rw [h2] at hm
        dsimp only at hm
        have a_S5 : Agr wX6_firstFix_54 S S5 := Agr.tr Agr.rf (Agr.sub (frX6_tryArm_54 x S v3 v4 _ _ h2) (by decide))
        exact Agr.tr a_S5 (ak15 S5 v1 v2 (v3 + 1) _ _ hm)
    · rw [if_neg c1] at hm
      cases h6 : gfX6_tryArm_54 x S v3 v5 with
      | none => rw [h6] at hm; cases hm
      | some q7 =>
        obtain ⟨r8, S9⟩ := q7
        rw [h6] at hm
        dsimp only at hm
        have a_S9 : Agr wX6_firstFix_54 S S9 := Agr.tr Agr.rf (Agr.sub (frX6_tryArm_54 x S v3 v5 _ _ h6) (by decide))
        by_cases c10 : v5 = v4
        · rw [if_pos c10] at hm
          exact Agr.tr a_S9 (fbX6_firstFix_54_79 x k15 ak15 k40 ak40 S9 v1 v2 v3 v4 v5 _ _ hm)
        · rw [if_neg c10] at hm
          cases h11 : gfX6_find_54 x S9 v1 v2 with
          | none => rw [h11] at hm; cases hm
          | some q12 =>
            obtain ⟨r13, S14⟩ := q12
            rw [h11] at hm
            dsimp only at hm
            have a_S14 : Agr wX6_firstFix_54 S S14 := Agr.tr a_S9 (Agr.sub (frX6_find_54 x S9 v1 v2 _ _ h11) (by decide))
            by_cases c15 : r13 = (-1)
            · rw [if_pos c15] at hm
              exact Agr.tr a_S14 (fbX6_firstFix_54_79 x k15 ak15 k40 ak40 S14 v1 v2 v3 v4 v5 _ _ hm)
            · rw [if_neg c15] at hm
              cases hm
              exact a_S14
theorem flX6_firstFix_54_40 (x : XT) (k15 : ST → Int32 → Int32 → Int32 → Option (Int32 × ST)) (ak15 : ∀ (S : ST) (v1 : Int32) (v2 : Int32) (v3 : Int32) (r : Int32) (S' : ST), k15 S v1 v2 v3 = some (r, S') → Agr wX6_firstFix_54 S S') : ∀ (n : Nat) (S : ST) (v1 : Int32) (v2 : Int32) (v3 : Int32) (v4 : Int32) (v5 : Int32) (r : Int32) (S' : ST), lfX6_firstFix_54_40 x k15 n S v1 v2 v3 v4 v5 = some (r, S') → Agr wX6_firstFix_54 S S'
  | 0, _, _, _, _, _, _, _, _, hm => by cases hm
  | n + 1, S, v1, v2, v3, v4, v5, r, S', hm => fbX6_firstFix_54_40 x k15 ak15 (lfX6_firstFix_54_40 x k15 n) (flX6_firstFix_54_40 x k15 ak15 n) S v1 v2 v3 v4 v5 r S' hm
set_option maxHeartbeats 4000000 in
set_option maxRecDepth 20000 in
theorem fbX6_firstFix_54_15 (x : XT) (k15 : ST → Int32 → Int32 → Int32 → Option (Int32 × ST)) (ak15 : ∀ (S : ST) (v1 : Int32) (v2 : Int32) (v3 : Int32) (r : Int32) (S' : ST), k15 S v1 v2 v3 = some (r, S') → Agr wX6_firstFix_54 S S') (S : ST) (v1 : Int32) (v2 : Int32) (v3 : Int32) (r : Int32) (S' : ST) (hm : bfX6_firstFix_54_15 x k15 S v1 v2 v3 = some (r, S')) : Agr wX6_firstFix_54 S S' := by
    unfold bfX6_firstFix_54_15 at hm
    by_cases c1 : (S.1 55 0) ≤ v3
    · rw [if_pos c1] at hm
      cases hm
      exact Agr.rf
    · rw [if_neg c1] at hm
      obtain ⟨o2, hm⟩ := oblk hm
      exact Agr.tr Agr.rf (flX6_firstFix_54_40 x k15 ak15 20000 S v1 v2 v3 (S.2.1 59 v3.toNatClampNeg) 0 _ _ hm)
theorem flX6_firstFix_54_15 (x : XT)  : ∀ (n : Nat) (S : ST) (v1 : Int32) (v2 : Int32) (v3 : Int32) (r : Int32) (S' : ST), lfX6_firstFix_54_15 x  n S v1 v2 v3 = some (r, S') → Agr wX6_firstFix_54 S S'
  | 0, _, _, _, _, _, _, hm => by cases hm
  | n + 1, S, v1, v2, v3, r, S', hm => fbX6_firstFix_54_15 x (lfX6_firstFix_54_15 x  n) (flX6_firstFix_54_15 x  n) S v1 v2 v3 r S' hm
set_option maxHeartbeats 4000000 in
set_option maxRecDepth 20000 in
theorem fbX6_firstFix_54_0 (x : XT)  (S : ST) (p1 : Int32) (p2 : Int32) (r : Int32) (S' : ST) (hm : bfX6_firstFix_54_0 x  S p1 p2 = some (r, S')) : Agr wX6_firstFix_54 S S' := by
    unfold bfX6_firstFix_54_0 at hm
    cases h1 : gfX6_find_54 x S p1 p2 with
    | none => rw [h1] at hm; cases hm
    | some q2 =>
      obtain ⟨r3, S4⟩ := q2
      rw [h1] at hm
      dsimp only at hm
      have a_S4 : Agr wX6_firstFix_54 S S4 := Agr.tr Agr.rf (Agr.sub (frX6_find_54 x S p1 p2 _ _ h1) (by decide))
      by_cases c5 : r3 = (-1)
      · rw [if_pos c5] at hm
        exact Agr.tr a_S4 (flX6_firstFix_54_15 x  20000 S4 p1 p2 0 _ _ hm)
      · rw [if_neg c5] at hm
        cases hm
        exact a_S4
theorem frX6_firstFix_54 (x : XT) (S : ST) (p1 : Int32) (p2 : Int32) (r : Int32) (S' : ST) (hm : gfX6_firstFix_54 x S p1 p2 = some (r, S')) : Agr wX6_firstFix_54 S S' := fbX6_firstFix_54_0 x S p1 p2 r S' hm
def wX10_fixed_0 : List (Nat × Nat) × List Nat × List Nat × List Nat := ([(54, 2), (55, 0), (55, 6), (55, 11), (55, 16), (55, 18)], [21, 22, 56, 57, 58, 59, 60, 61, 62, 63, 64, 65, 66, 67, 68, 70, 71, 72, 73, 74], [], [69])
set_option maxHeartbeats 4000000 in
set_option maxRecDepth 20000 in
theorem fbX10_fixed_0_0 (x : XT)  (S : ST) (p1 : Int32) (p2 : Int32) (p3 : Int32) (r : Int32) (S' : ST) (hm : bfX10_fixed_0_0 x  S p1 p2 p3 = some (r, S')) : Agr wX10_fixed_0 S S' := by
    unfold bfX10_fixed_0_0 at hm
    cases h1 : gfX10_canSeek_0 x S p1 p2 p3 with
    | none => rw [h1] at hm; cases hm
    | some q2 =>
      obtain ⟨r3, S4⟩ := q2
      rw [h1] at hm
      dsimp only at hm
      have a_S4 : Agr wX10_fixed_0 S S4 := Agr.tr Agr.rf (Agr.sub (frX10_canSeek_0 x S p1 p2 p3 _ _ h1) (by decide))
      by_cases c5 : ¬ r3 = 0
      · rw [if_pos c5] at hm
        cases h6 : gfX6_begin_54_1 x S4 p1 with
        | none => rw [h6] at hm; cases hm
        | some q7 =>
          obtain ⟨r8, S9⟩ := q7
          rw [h6] at hm
          dsimp only at hm
          have a_S9 : Agr wX10_fixed_0 S S9 := Agr.tr a_S4 (Agr.sub (frX6_begin_54_1 x S4 p1 _ _ h6) (by decide))
          cases h10 : gfX6_firstFix_54 x S9 p2 p3 with
          | none => rw [h10] at hm; cases hm
          | some q11 =>
            obtain ⟨r12, S13⟩ := q11
            rw [h10] at hm
            dsimp only at hm
            have a_S13 : Agr wX10_fixed_0 S S13 := Agr.tr a_S9 (Agr.sub (frX6_firstFix_54 x S9 p2 p3 _ _ h10) (by decide))
            cases hm
            exact a_S13
      · rw [if_neg c5] at hm
        cases hm
        exact a_S4
theorem frX10_fixed_0 (x : XT) (S : ST) (p1 : Int32) (p2 : Int32) (p3 : Int32) (r : Int32) (S' : ST) (hm : gfX10_fixed_0 x S p1 p2 p3 = some (r, S')) : Agr wX10_fixed_0 S S' := fbX10_fixed_0_0 x S p1 p2 p3 r S' hm
def wJ6_bitCount_0f7a4 : List (Nat × Nat) × List Nat × List Nat × List Nat := ([], [], [], [])
set_option maxHeartbeats 4000000 in
set_option maxRecDepth 20000 in
theorem fbJ6_bitCount_0f7a4_0 (x : XT)  (S : ST) (p0 : Int32) (r : Int32) (S' : ST) (hm : bfJ6_bitCount_0f7a4_0 x  S p0 = some (r, S')) : Agr wJ6_bitCount_0f7a4 S S' := by
    unfold bfJ6_bitCount_0f7a4_0 at hm
    cases hm
    exact Agr.rf
theorem frJ6_bitCount_0f7a4 (x : XT) (S : ST) (p0 : Int32) (r : Int32) (S' : ST) (hm : gfJ6_bitCount_0f7a4 x S p0 = some (r, S')) : Agr wJ6_bitCount_0f7a4 S S' := fbJ6_bitCount_0f7a4_0 x S p0 r S' hm
def wX6_shuts_54 : List (Nat × Nat) × List Nat × List Nat × List Nat := ([], [21, 22, 60, 70, 71, 72, 73, 74], [], [])
set_option maxHeartbeats 4000000 in
set_option maxRecDepth 20000 in
theorem fbX6_shuts_54_57 (x : XT)  (S : ST) (t0 : Int32) (r : Int32) (S' : ST) (hm : bfX6_shuts_54_57 x  S t0 = some (r, S')) : Agr wX6_shuts_54 S S' := by
    unfold bfX6_shuts_54_57 at hm
    obtain ⟨o1, hm⟩ := oblk hm
    cases hm
    exact Agr.rf
set_option maxHeartbeats 4000000 in
set_option maxRecDepth 20000 in
theorem fbX6_shuts_54_35 (x : XT) (k2 : ST → Int32 → Int32 → Int32 → Option (Int32 × ST)) (ak2 : ∀ (S : ST) (v1 : Int32) (v2 : Int32) (v3 : Int32) (r : Int32) (S' : ST), k2 S v1 v2 v3 = some (r, S') → Agr wX6_shuts_54 S S') (S : ST) (v1 : Int32) (v2 : Int32) (v3 : Int32) (t1 : Int32) (t2 : Int32) (r : Int32) (S' : ST) (hm : bfX6_shuts_54_35 x k2 S v1 v2 v3 t1 t2 = some (r, S')) : Agr wX6_shuts_54 S S' := by
    unfold bfX6_shuts_54_35 at hm
    obtain ⟨o1, hm⟩ := oblk hm
    exact Agr.tr (Agr.i Agr.rf 60 t1.toNatClampNeg (vp_nar .boolean t2) (by decide)) (ak2 (S.1, (u2 S.2.1 60 t1.toNatClampNeg (vp_nar .boolean t2)), S.2.2.1, S.2.2.2) v1 v2 (v3 + 1) _ _ hm)
set_option maxHeartbeats 4000000 in
set_option maxRecDepth 20000 in
theorem fbX6_shuts_54_2 (x : XT) (k2 : ST → Int32 → Int32 → Int32 → Option (Int32 × ST)) (ak2 : ∀ (S : ST) (v1 : Int32) (v2 : Int32) (v3 : Int32) (r : Int32) (S' : ST), k2 S v1 v2 v3 = some (r, S') → Agr wX6_shuts_54 S S') (S : ST) (v1 : Int32) (v2 : Int32) (v3 : Int32) (r : Int32) (S' : ST) (hm : bfX6_shuts_54_2 x k2 S v1 v2 v3 = some (r, S')) : Agr wX6_shuts_54 S S' := by
    unfold bfX6_shuts_54_2 at hm
    by_cases c1 : (S.1 55 0) ≤ v3
    · rw [if_pos c1] at hm
      cases h2 : gfX6_find_54 x S v2 (-1) with
      | none => rw [h2] at hm; cases hm
      | some q3 =>
        obtain ⟨r4, S5⟩ := q3
        rw [h2] at hm
        dsimp only at hm
        have a_S5 : Agr wX6_shuts_54 S S5 := Agr.tr Agr.rf (Agr.sub (frX6_find_54 x S v2 (-1) _ _ h2) (by decide))
        by_cases c6 : ¬ r4 = (-1)
        · rw [if_pos c6] at hm
          exact Agr.tr a_S5 (fbX6_shuts_54_57 x  S5 0 _ _ hm)
        · rw [if_neg c6] at hm
          exact Agr.tr a_S5 (fbX6_shuts_54_57 x  S5 1 _ _ hm)
    · rw [if_neg c1] at hm
      by_cases c7 : ¬ ((v1 >>> (v3 &&& 31)) &&& 1) = 1
      · rw [if_pos c7] at hm
        exact Agr.tr Agr.rf (fbX6_shuts_54_35 x k2 ak2 S v1 v2 v3 v3 0 _ _ hm)
      · rw [if_neg c7] at hm
        exact Agr.tr Agr.rf (fbX6_shuts_54_35 x k2 ak2 S v1 v2 v3 v3 1 _ _ hm)
theorem flX6_shuts_54_2 (x : XT)  : ∀ (n : Nat) (S : ST) (v1 : Int32) (v2 : Int32) (v3 : Int32) (r : Int32) (S' : ST), lfX6_shuts_54_2 x  n S v1 v2 v3 = some (r, S') → Agr wX6_shuts_54 S S'
  | 0, _, _, _, _, _, _, hm => by cases hm
  | n + 1, S, v1, v2, v3, r, S', hm => fbX6_shuts_54_2 x (lfX6_shuts_54_2 x  n) (flX6_shuts_54_2 x  n) S v1 v2 v3 r S' hm
set_option maxHeartbeats 4000000 in
set_option maxRecDepth 20000 in
theorem fbX6_shuts_54_0 (x : XT)  (S : ST) (p1 : Int32) (p2 : Int32) (r : Int32) (S' : ST) (hm : bfX6_shuts_54_0 x  S p1 p2 = some (r, S')) : Agr wX6_shuts_54 S S' := by
    unfold bfX6_shuts_54_0 at hm
    exact Agr.tr Agr.rf (flX6_shuts_54_2 x  20000 S p1 p2 0 _ _ hm)
theorem frX6_shuts_54 (x : XT) (S : ST) (p1 : Int32) (p2 : Int32) (r : Int32) (S' : ST) (hm : gfX6_shuts_54 x S p1 p2 = some (r, S')) : Agr wX6_shuts_54 S S' := fbX6_shuts_54_0 x S p1 p2 r S' hm
def wX6_fewestShut_54 : List (Nat × Nat) × List Nat × List Nat × List Nat := ([], [21, 22, 60, 70, 71, 72, 73, 74], [], [])
set_option maxHeartbeats 4000000 in
set_option maxRecDepth 20000 in
theorem fbX6_fewestShut_54_95 (x : XT) (k45 : ST → Int32 → Int32 → Int32 → Option (Int32 × ST)) (ak45 : ∀ (S : ST) (v1 : Int32) (v2 : Int32) (v3 : Int32) (r : Int32) (S' : ST), k45 S v1 v2 v3 = some (r, S') → Agr wX6_fewestShut_54 S S') (k54 : ST → Int32 → Int32 → Int32 → Int32 → Option (Int32 × ST)) (ak54 : ∀ (S : ST) (v1 : Int32) (v2 : Int32) (v3 : Int32) (v4 : Int32) (r : Int32) (S' : ST), k54 S v1 v2 v3 v4 = some (r, S') → Agr wX6_fewestShut_54 S S') (S : ST) (v1 : Int32) (v2 : Int32) (v3 : Int32) (v4 : Int32) (r : Int32) (S' : ST) (hm : bfX6_fewestShut_54_95 x k45 k54 S v1 v2 v3 v4 = some (r, S')) : Agr wX6_fewestShut_54 S S' := by
    unfold bfX6_fewestShut_54_95 at hm
    exact Agr.tr Agr.rf (ak54 S v1 v2 v3 (v4 + 1) _ _ hm)
set_option maxHeartbeats 4000000 in
set_option maxRecDepth 20000 in
theorem fbX6_fewestShut_54_54 (x : XT) (k45 : ST → Int32 → Int32 → Int32 → Option (Int32 × ST)) (ak45 : ∀ (S : ST) (v1 : Int32) (v2 : Int32) (v3 : Int32) (r : Int32) (S' : ST), k45 S v1 v2 v3 = some (r, S') → Agr wX6_fewestShut_54 S S') (k54 : ST → Int32 → Int32 → Int32 → Int32 → Option (Int32 × ST)) (ak54 : ∀ (S : ST) (v1 : Int32) (v2 : Int32) (v3 : Int32) (v4 : Int32) (r : Int32) (S' : ST), k54 S v1 v2 v3 v4 = some (r, S') → Agr wX6_fewestShut_54 S S') (S : ST) (v1 : Int32) (v2 : Int32) (v3 : Int32) (v4 : Int32) (r : Int32) (S' : ST) (hm : bfX6_fewestShut_54_54 x k45 k54 S v1 v2 v3 v4 = some (r, S')) : Agr wX6_fewestShut_54 S S' := by
    unfold bfX6_fewestShut_54_54 at hm
    by_cases c1 : v2 < v4
    · rw [if_pos c1] at hm
      exact Agr.tr Agr.rf (ak45 S v1 v2 (v3 + 1) _ _ hm)
    · rw [if_neg c1] at hm
      by_cases c2 : ¬ (v4 &&& v2) = v4
      · rw [if_pos c2] at hm
        exact Agr.tr Agr.rf (fbX6_fewestShut_54_95 x k45 ak45 k54 ak54 S v1 v2 v3 v4 _ _ hm)
      · rw [if_neg c2] at hm
        cases h3 : gfJ6_bitCount_0f7a4 x S v4 with
        | none => rw [h3] at hm; cases hm
        | some q4 =>
          obtain ⟨r5, S6⟩ := q4
          rw [h3] at hm
          dsimp only at hm
          have a_S6 : Agr wX6_fewestShut_54 S S6 := Agr.tr Agr.rf (Agr.sub (frJ6_bitCount_0f7a4 x S v4 _ _ h3) (by decide))
          by_cases c7 : ¬ r5 = v3
          · rw [if_pos c7] at hm
            exact Agr.tr a_S6 (fbX6_fewestShut_54_95 x k45 ak45 k54 ak54 S6 v1 v2 v3 v4 _ _ hm)
          · rw [if_neg c7] at hm
            cases h8 : gfX6_shuts_54 x S6 (v2 &&& (v4 ^^^ (-1))) v1 with
            | none => rw [h8] at hm; cases hm
            | some q9 =>
              obtain ⟨r10, S11⟩ := q9
              rw [h8] at hm
              dsimp only at hm
              have a_S11 : Agr wX6_fewestShut_54 S S11 := Agr.tr a_S6 (Agr.sub (frX6_shuts_54 x S6 (v2 &&& (v4 ^^^ (-1))) v1 _ _ h8) (by decide))
              by_cases c12 : r10 = 0
              · rw [if_pos c12] at hm
                exact Agr.tr a_S11 (fbX6_fewestShut_54_95 x k45 ak45 k54 ak54 S11 v1 v2 v3 v4 _ _ hm)
              · rw [if_neg c12] at hm
                cases hm
                exact a_S11
theorem flX6_fewestShut_54_54 (x : XT) (k45 : ST → Int32 → Int32 → Int32 → Option (Int32 × ST)) (ak45 : ∀ (S : ST) (v1 : Int32) (v2 : Int32) (v3 : Int32) (r : Int32) (S' : ST), k45 S v1 v2 v3 = some (r, S') → Agr wX6_fewestShut_54 S S') : ∀ (n : Nat) (S : ST) (v1 : Int32) (v2 : Int32) (v3 : Int32) (v4 : Int32) (r : Int32) (S' : ST), lfX6_fewestShut_54_54 x k45 n S v1 v2 v3 v4 = some (r, S') → Agr wX6_fewestShut_54 S S'
  | 0, _, _, _, _, _, _, _, hm => by cases hm
  | n + 1, S, v1, v2, v3, v4, r, S', hm => fbX6_fewestShut_54_54 x k45 ak45 (lfX6_fewestShut_54_54 x k45 n) (flX6_fewestShut_54_54 x k45 ak45 n) S v1 v2 v3 v4 r S' hm
set_option maxHeartbeats 4000000 in
set_option maxRecDepth 20000 in
theorem fbX6_fewestShut_54_45 (x : XT) (k45 : ST → Int32 → Int32 → Int32 → Option (Int32 × ST)) (ak45 : ∀ (S : ST) (v1 : Int32) (v2 : Int32) (v3 : Int32) (r : Int32) (S' : ST), k45 S v1 v2 v3 = some (r, S') → Agr wX6_fewestShut_54 S S') (S : ST) (v1 : Int32) (v2 : Int32) (v3 : Int32) (r : Int32) (S' : ST) (hm : bfX6_fewestShut_54_45 x k45 S v1 v2 v3 = some (r, S')) : Agr wX6_fewestShut_54 S S' := by
    unfold bfX6_fewestShut_54_45 at hm
    by_cases c1 : 10 ≤ v3
    · rw [if_pos c1] at hm
      cases hm
      exact Agr.rf
    · rw [if_neg c1] at hm
      exact Agr.tr Agr.rf (flX6_fewestShut_54_54 x k45 ak45 20000 S v1 v2 v3 0 _ _ hm)
theorem flX6_fewestShut_54_45 (x : XT)  : ∀ (n : Nat) (S : ST) (v1 : Int32) (v2 : Int32) (v3 : Int32) (r : Int32) (S' : ST), lfX6_fewestShut_54_45 x  n S v1 v2 v3 = some (r, S') → Agr wX6_fewestShut_54 S S'
  | 0, _, _, _, _, _, _, hm => by cases hm
  | n + 1, S, v1, v2, v3, r, S', hm => fbX6_fewestShut_54_45 x (lfX6_fewestShut_54_45 x  n) (flX6_fewestShut_54_45 x  n) S v1 v2 v3 r S' hm
set_option maxHeartbeats 4000000 in
set_option maxRecDepth 20000 in
theorem fbX6_fewestShut_54_35 (x : XT) (k4 : ST → Int32 → Int32 → Int32 → Option (Int32 × ST)) (ak4 : ∀ (S : ST) (v1 : Int32) (v2 : Int32) (v3 : Int32) (r : Int32) (S' : ST), k4 S v1 v2 v3 = some (r, S') → Agr wX6_fewestShut_54 S S') (S : ST) (v1 : Int32) (v3 : Int32) (t0 : Int32) (t1 : Int32) (r : Int32) (S' : ST) (hm : bfX6_fewestShut_54_35 x k4 S v1 v3 t0 t1 = some (r, S')) : Agr wX6_fewestShut_54 S S' := by
    unfold bfX6_fewestShut_54_35 at hm
    exact Agr.tr Agr.rf (ak4 S v1 (t0 ||| t1) (v3 + 1) _ _ hm)
set_option maxHeartbeats 4000000 in
set_option maxRecDepth 20000 in
theorem fbX6_fewestShut_54_4 (x : XT) (k4 : ST → Int32 → Int32 → Int32 → Option (Int32 × ST)) (ak4 : ∀ (S : ST) (v1 : Int32) (v2 : Int32) (v3 : Int32) (r : Int32) (S' : ST), k4 S v1 v2 v3 = some (r, S') → Agr wX6_fewestShut_54 S S') (S : ST) (v1 : Int32) (v2 : Int32) (v3 : Int32) (r : Int32) (S' : ST) (hm : bfX6_fewestShut_54_4 x k4 S v1 v2 v3 = some (r, S')) : Agr wX6_fewestShut_54 S S' := by
    unfold bfX6_fewestShut_54_4 at hm
    by_cases c1 : (S.1 55 0) ≤ v3
    · rw [if_pos c1] at hm
      exact Agr.tr Agr.rf (flX6_fewestShut_54_45 x  20000 S v1 v2 0 _ _ hm)
    · rw [if_neg c1] at hm
      obtain ⟨o2, hm⟩ := oblk hm
      by_cases c3 : (S.2.1 60 v3.toNatClampNeg) = 0
      · rw [if_pos c3] at hm
        exact Agr.tr Agr.rf (fbX6_fewestShut_54_35 x k4 ak4 S v1 v3 v2 0 _ _ hm)
      · rw [if_neg c3] at hm
        exact Agr.tr Agr.rf (fbX6_fewestShut_54_35 x k4 ak4 S v1 v3 v2 (1 <<< (v3 &&& 31)) _ _ hm)
theorem flX6_fewestShut_54_4 (x : XT)  : ∀ (n : Nat) (S : ST) (v1 : Int32) (v2 : Int32) (v3 : Int32) (r : Int32) (S' : ST), lfX6_fewestShut_54_4 x  n S v1 v2 v3 = some (r, S') → Agr wX6_fewestShut_54 S S'
  | 0, _, _, _, _, _, _, hm => by cases hm
  | n + 1, S, v1, v2, v3, r, S', hm => fbX6_fewestShut_54_4 x (lfX6_fewestShut_54_4 x  n) (flX6_fewestShut_54_4 x  n) S v1 v2 v3 r S' hm
set_option maxHeartbeats 4000000 in
set_option maxRecDepth 20000 in
theorem fbX6_fewestShut_54_0 (x : XT)  (S : ST) (p1 : Int32) (r : Int32) (S' : ST) (hm : bfX6_fewestShut_54_0 x  S p1 = some (r, S')) : Agr wX6_fewestShut_54 S S' := by
    unfold bfX6_fewestShut_54_0 at hm
    exact Agr.tr Agr.rf (flX6_fewestShut_54_4 x  20000 S p1 0 0 _ _ hm)
theorem frX6_fewestShut_54 (x : XT) (S : ST) (p1 : Int32) (r : Int32) (S' : ST) (hm : gfX6_fewestShut_54 x S p1 = some (r, S')) : Agr wX6_fewestShut_54 S S' := fbX6_fewestShut_54_0 x S p1 r S' hm
def wX10_cut_0 : List (Nat × Nat) × List Nat × List Nat × List Nat := ([(54, 2), (55, 0), (55, 6), (55, 11), (55, 16), (55, 18)], [21, 22, 56, 57, 58, 59, 60, 61, 62, 63, 64, 65, 66, 67, 68, 70, 71, 72, 73, 74], [], [69])
set_option maxHeartbeats 4000000 in
set_option maxRecDepth 20000 in
theorem fbX10_cut_0_31 (x : XT)  (S : ST)  (r : Int32) (S' : ST) (hm : bfX10_cut_0_31 x  S  = some (r, S')) : Agr wX10_cut_0 S S' := by
    unfold bfX10_cut_0_31 at hm
    cases hm
    exact Agr.rf
set_option maxHeartbeats 4000000 in
set_option maxRecDepth 20000 in
theorem fbX10_cut_0_69 (x : XT)  (S : ST) (t0 : Int32) (r : Int32) (S' : ST) (hm : bfX10_cut_0_69 x  S t0 = some (r, S')) : Agr wX10_cut_0 S S' := by
    unfold bfX10_cut_0_69 at hm
    cases hm
    exact Agr.rf
set_option maxHeartbeats 4000000 in
set_option maxRecDepth 20000 in
theorem fbX10_cut_0_0 (x : XT)  (S : ST) (p1 : Int32) (p2 : Int32) (p3 : Int32) (r : Int32) (S' : ST) (hm : bfX10_cut_0_0 x  S p1 p2 p3 = some (r, S')) : Agr wX10_cut_0 S S' := by
    unfold bfX10_cut_0_0 at hm
    cases h1 : gfX10_canSeek_0 x S p1 p2 (-1) with
    | none => rw [h1] at hm; cases hm
    | some q2 =>
      obtain ⟨r3, S4⟩ := q2
      rw [h1] at hm
      dsimp only at hm
      have a_S4 : Agr wX10_cut_0 S S4 := Agr.tr Agr.rf (Agr.sub (frX10_canSeek_0 x S p1 p2 (-1) _ _ h1) (by decide))
      by_cases c5 : r3 = 0
      · rw [if_pos c5] at hm
        exact Agr.tr a_S4 (fbX10_cut_0_31 x  S4 _ _ hm)
      · rw [if_neg c5] at hm
        cases h6 : gfX10_within x S4 p3 2 with
        | none => rw [h6] at hm; cases hm
        | some q7 =>
          obtain ⟨r8, S9⟩ := q7
          rw [h6] at hm
          dsimp only at hm
          have a_S9 : Agr wX10_cut_0 S S9 := Agr.tr a_S4 (Agr.sub (frX10_within x S4 p3 2 _ _ h6) (by decide))
          by_cases c10 : r8 = 0
          · rw [if_pos c10] at hm
            exact Agr.tr a_S9 (fbX10_cut_0_31 x  S9 _ _ hm)
          · rw [if_neg c10] at hm
            obtain ⟨o11, hm⟩ := oblk hm
            by_cases c12 : ¬ (S9.2.1 7 p1.toNatClampNeg) = p2
            · rw [if_pos c12] at hm
              cases h13 : gfX6_begin_54_1 x S9 p1 with
              | none => rw [h13] at hm; cases hm
              | some q14 =>
                obtain ⟨r15, S16⟩ := q14
                rw [h13] at hm
                dsimp only at hm
                have a_S16 : Agr wX10_cut_0 S S16 := Agr.tr a_S9 (Agr.sub (frX6_begin_54_1 x S9 p1 _ _ h13) (by decide))
                cases h17 : gfX6_fewestShut_54 x S16 p2 with
                | none => rw [h17] at hm; cases hm
                | some q18 =>
                  obtain ⟨r19, S20⟩ := q18
                  rw [h17] at hm
                  dsimp only at hm
                  have a_S20 : Agr wX10_cut_0 S S20 := Agr.tr a_S16 (Agr.sub (frX6_fewestShut_54 x S16 p2 _ _ h17) (by decide))
                  by_cases c21 : ¬ p3 = 0
                  · rw [if_pos c21] at hm
                    exact Agr.tr a_S20 (fbX10_cut_0_69 x  S20 r19 _ _ hm)
                  · rw [if_neg c21] at hm
                    cases h22 : gfJ6_bitCount_0f7a4 x S20 r19 with
                    | none => rw [h22] at hm; cases hm
                    | some q23 =>
                      obtain ⟨r24, S25⟩ := q23
                      rw [h22] at hm
                      dsimp only at hm
                      have a_S25 : Agr wX10_cut_0 S S25 := Agr.tr a_S20 (Agr.sub (frJ6_bitCount_0f7a4 x S20 r19 _ _ h22) (by decide))
                      exact Agr.tr a_S25 (fbX10_cut_0_69 x  S25 r24 _ _ hm)
            · rw [if_neg c12] at hm
              exact Agr.tr a_S9 (fbX10_cut_0_31 x  S9 _ _ hm)
theorem frX10_cut_0 (x : XT) (S : ST) (p1 : Int32) (p2 : Int32) (p3 : Int32) (r : Int32) (S' : ST) (hm : gfX10_cut_0 x S p1 p2 p3 = some (r, S')) : Agr wX10_cut_0 S S' := fbX10_cut_0_0 x S p1 p2 p3 r S' hm
def wX6_keepSteps_54 : List (Nat × Nat) × List Nat × List Nat × List Nat := ([], [21, 22, 70, 71, 72, 73, 74, 75], [], [])
set_option maxHeartbeats 4000000 in
set_option maxRecDepth 20000 in
theorem fbX6_keepSteps_54_0 (x : XT)  (S : ST)  (r : Unit) (S' : ST) (hm : bfX6_keepSteps_54_0 x  S  = some (r, S')) : Agr wX6_keepSteps_54 S S' := by
    unfold bfX6_keepSteps_54_0 at hm
    cases h1 : gfX6_findAll_54 x S with
    | none => rw [h1] at hm; cases hm
    | some q2 =>
      obtain ⟨r3, S4⟩ := q2
      rw [h1] at hm
      dsimp only at hm
      have a_S4 : Agr wX6_keepSteps_54 S S4 := Agr.tr Agr.rf (Agr.sub (frX6_findAll_54 x S _ _ h1) (by decide))
      cases hm
      exact (Agr.ic a_S4 75 _ (by decide))
theorem frX6_keepSteps_54 (x : XT) (S : ST)  (r : Unit) (S' : ST) (hm : gfX6_keepSteps_54 x S  = some (r, S')) : Agr wX6_keepSteps_54 S S' := fbX6_keepSteps_54_0 x S  r S' hm
def wX6_longerSteps_54 : List (Nat × Nat) × List Nat × List Nat × List Nat := ([], [], [], [])
set_option maxHeartbeats 4000000 in
set_option maxRecDepth 20000 in
theorem fbX6_longerSteps_54_28 (x : XT)  (S : ST) (t0 : Int32) (r : Int32) (S' : ST) (hm : bfX6_longerSteps_54_28 x  S t0 = some (r, S')) : Agr wX6_longerSteps_54 S S' := by
    unfold bfX6_longerSteps_54_28 at hm
    cases hm
    exact Agr.rf
set_option maxHeartbeats 4000000 in
set_option maxRecDepth 20000 in
theorem fbX6_longerSteps_54_0 (x : XT)  (S : ST) (p1 : Int32) (r : Int32) (S' : ST) (hm : bfX6_longerSteps_54_0 x  S p1 = some (r, S')) : Agr wX6_longerSteps_54 S S' := by
    unfold bfX6_longerSteps_54_0 at hm
    cases h1 : gfX10_within x S p1 120 with
    | none => rw [h1] at hm; cases hm
    | some q2 =>
      obtain ⟨r3, S4⟩ := q2
      rw [h1] at hm
      dsimp only at hm
      have a_S4 : Agr wX6_longerSteps_54 S S4 := Agr.tr Agr.rf (Agr.sub (frX10_within x S p1 120 _ _ h1) (by decide))
      by_cases c5 : r3 = 0
      · rw [if_pos c5] at hm
        exact Agr.tr a_S4 (fbX6_longerSteps_54_28 x  S4 (-1) _ _ hm)
      · rw [if_neg c5] at hm
        obtain ⟨o6, hm⟩ := oblk hm
        obtain ⟨o7, hm⟩ := oblk hm
        exact Agr.tr a_S4 (fbX6_longerSteps_54_28 x  S4 (if (S4.2.1 72 p1.toNatClampNeg) < (S4.2.1 75 p1.toNatClampNeg) then (S4.2.1 75 p1.toNatClampNeg) else (S4.2.1 72 p1.toNatClampNeg)) _ _ hm)
theorem frX6_longerSteps_54 (x : XT) (S : ST) (p1 : Int32) (r : Int32) (S' : ST) (hm : gfX6_longerSteps_54 x S p1 = some (r, S')) : Agr wX6_longerSteps_54 S S' := fbX6_longerSteps_54_0 x S p1 r S' hm
def wX6_meetingPlace_54 : List (Nat × Nat) × List Nat × List Nat × List Nat := ([], [21, 22, 70, 71, 72, 73, 74], [], [])
set_option maxHeartbeats 4000000 in
set_option maxRecDepth 20000 in
theorem fbX6_meetingPlace_54_54 (x : XT) (k8 : ST → Int32 → Int32 → Option (Int32 × ST)) (ak8 : ∀ (S : ST) (v1 : Int32) (v2 : Int32) (r : Int32) (S' : ST), k8 S v1 v2 = some (r, S') → Agr wX6_meetingPlace_54 S S') (S : ST) (v1 : Int32) (v2 : Int32) (r : Int32) (S' : ST) (hm : bfX6_meetingPlace_54_54 x k8 S v1 v2 = some (r, S')) : Agr wX6_meetingPlace_54 S S' := by
    unfold bfX6_meetingPlace_54_54 at hm
    exact Agr.tr Agr.rf (ak8 S v1 (v2 + 1) _ _ hm)
set_option maxHeartbeats 4000000 in
set_option maxRecDepth 20000 in
theorem fbX6_meetingPlace_54_52 (x : XT) (k8 : ST → Int32 → Int32 → Option (Int32 × ST)) (ak8 : ∀ (S : ST) (v1 : Int32) (v2 : Int32) (r : Int32) (S' : ST), k8 S v1 v2 = some (r, S') → Agr wX6_meetingPlace_54 S S') (S : ST) (v2 : Int32) (r : Int32) (S' : ST) (hm : bfX6_meetingPlace_54_52 x k8 S v2 = some (r, S')) : Agr wX6_meetingPlace_54 S S' := by
    unfold bfX6_meetingPlace_54_52 at hm
    exact Agr.tr Agr.rf (fbX6_meetingPlace_54_54 x k8 ak8 S v2 v2 _ _ hm)
set_option maxHeartbeats 4000000 in
set_option maxRecDepth 20000 in
theorem fbX6_meetingPlace_54_8 (x : XT) (k8 : ST → Int32 → Int32 → Option (Int32 × ST)) (ak8 : ∀ (S : ST) (v1 : Int32) (v2 : Int32) (r : Int32) (S' : ST), k8 S v1 v2 = some (r, S') → Agr wX6_meetingPlace_54 S S') (S : ST) (v1 : Int32) (v2 : Int32) (r : Int32) (S' : ST) (hm : bfX6_meetingPlace_54_8 x k8 S v1 v2 = some (r, S')) : Agr wX6_meetingPlace_54 S S' := by
    unfold bfX6_meetingPlace_54_8 at hm
    by_cases c1 : 120 ≤ v2
    · rw [if_pos c1] at hm
      cases hm
      exact Agr.rf
    · rw [if_neg c1] at hm
      obtain ⟨o2, hm⟩ := oblk hm
      by_cases c3 : (S.2.1 72 v2.toNatClampNeg) = (-1)
      · rw [if_pos c3] at hm
        exact Agr.tr Agr.rf (fbX6_meetingPlace_54_54 x k8 ak8 S v1 v2 _ _ hm)
      · rw [if_neg c3] at hm
        obtain ⟨o4, hm⟩ := oblk hm
        by_cases c5 : (S.2.1 75 v2.toNatClampNeg) = (-1)
        · rw [if_pos c5] at hm
          exact Agr.tr Agr.rf (fbX6_meetingPlace_54_54 x k8 ak8 S v1 v2 _ _ hm)
        · rw [if_neg c5] at hm
          by_cases c6 : v1 = (-1)
          · rw [if_pos c6] at hm
            exact Agr.tr Agr.rf (fbX6_meetingPlace_54_52 x k8 ak8 S v2 _ _ hm)
          · rw [if_neg c6] at hm
            cases h7 : gfX6_longerSteps_54 x S v2 with
            | none => rw [h7] at hm; cases hm
            | some q8 =>
              obtain ⟨r9, S10⟩ := q8
              rw [h7] at hm
              dsimp only at hm
              have a_S10 : Agr wX6_meetingPlace_54 S S10 := Agr.tr Agr.rf (Agr.sub (frX6_longerSteps_54 x S v2 _ _ h7) (by decide))
              cases h11 : gfX6_longerSteps_54 x S10 v1 with
              | none => rw [h11] at hm; cases hm
              | some q12 =>
                obtain ⟨r13, S14⟩ := q12
                rw [h11] at hm
                dsimp only at hm
                have a_S14 : Agr wX6_meetingPlace_54 S S14 := Agr.tr a_S10 (Agr.sub (frX6_longerSteps_54 x S10 v1 _ _ h11) (by decide))
                by_cases c15 : r13 ≤ r9
                · rw [if_pos c15] at hm
                  exact Agr.tr a_S14 (fbX6_meetingPlace_54_54 x k8 ak8 S14 v1 v2 _ _ hm)
                · rw [if_neg c15] at hm
                  exact Agr.tr a_S14 (fbX6_meetingPlace_54_52 x k8 ak8 S14 v2 _ _ hm)
theorem flX6_meetingPlace_54_8 (x : XT)  : ∀ (n : Nat) (S : ST) (v1 : Int32) (v2 : Int32) (r : Int32) (S' : ST), lfX6_meetingPlace_54_8 x  n S v1 v2 = some (r, S') → Agr wX6_meetingPlace_54 S S'
  | 0, _, _, _, _, _, hm => by cases hm
  | n + 1, S, v1, v2, r, S', hm => fbX6_meetingPlace_54_8 x (lfX6_meetingPlace_54_8 x  n) (flX6_meetingPlace_54_8 x  n) S v1 v2 r S' hm
set_option maxHeartbeats 4000000 in
set_option maxRecDepth 20000 in
theorem fbX6_meetingPlace_54_0 (x : XT)  (S : ST)  (r : Int32) (S' : ST) (hm : bfX6_meetingPlace_54_0 x  S  = some (r, S')) : Agr wX6_meetingPlace_54 S S' := by
    unfold bfX6_meetingPlace_54_0 at hm
    cases h1 : gfX6_findAll_54 x S with
    | none => rw [h1] at hm; cases hm
    | some q2 =>
      obtain ⟨r3, S4⟩ := q2
      rw [h1] at hm
      dsimp only at hm
      have a_S4 : Agr wX6_meetingPlace_54 S S4 := Agr.tr Agr.rf (Agr.sub (frX6_findAll_54 x S _ _ h1) (by decide))
      exact Agr.tr a_S4 (flX6_meetingPlace_54_8 x  20000 S4 (-1) 0 _ _ hm)
theorem frX6_meetingPlace_54 (x : XT) (S : ST)  (r : Int32) (S' : ST) (hm : gfX6_meetingPlace_54 x S  = some (r, S')) : Agr wX6_meetingPlace_54 S S' := fbX6_meetingPlace_54_0 x S  r S' hm
def wX10_meet_0 : List (Nat × Nat) × List Nat × List Nat × List Nat := ([(54, 2), (55, 0), (55, 6), (55, 11), (55, 16), (55, 18)], [21, 22, 56, 57, 58, 59, 60, 61, 62, 63, 64, 65, 66, 67, 68, 70, 71, 72, 73, 74, 75], [], [69])
set_option maxHeartbeats 4000000 in
set_option maxRecDepth 20000 in
theorem fbX10_meet_0_35 (x : XT)  (S : ST)  (r : Int32) (S' : ST) (hm : bfX10_meet_0_35 x  S  = some (r, S')) : Agr wX10_meet_0 S S' := by
    unfold bfX10_meet_0_35 at hm
    cases hm
    exact Agr.rf
set_option maxHeartbeats 4000000 in
set_option maxRecDepth 20000 in
theorem fbX10_meet_0_101 (x : XT)  (S : ST) (t0 : Int32) (r : Int32) (S' : ST) (hm : bfX10_meet_0_101 x  S t0 = some (r, S')) : Agr wX10_meet_0 S S' := by
    unfold bfX10_meet_0_101 at hm
    cases hm
    exact Agr.rf
set_option maxHeartbeats 4000000 in
set_option maxRecDepth 20000 in
theorem fbX10_meet_0_87 (x : XT)  (S : ST) (v4 : Int32) (r : Int32) (S' : ST) (hm : bfX10_meet_0_87 x  S v4 = some (r, S')) : Agr wX10_meet_0 S S' := by
    unfold bfX10_meet_0_87 at hm
    exact Agr.tr Agr.rf (fbX10_meet_0_101 x  S v4 _ _ hm)
set_option maxHeartbeats 4000000 in
set_option maxRecDepth 20000 in
theorem fbX10_meet_0_0 (x : XT)  (S : ST) (p1 : Int32) (p2 : Int32) (p3 : Int32) (r : Int32) (S' : ST) (hm : bfX10_meet_0_0 x  S p1 p2 p3 = some (r, S')) : Agr wX10_meet_0 S S' := by
    unfold bfX10_meet_0_0 at hm
    cases h1 : gfX7_hasGoer_1 x S p1 with
    | none => rw [h1] at hm; cases hm
    | some q2 =>
      obtain ⟨r3, S4⟩ := q2
      rw [h1] at hm
      dsimp only at hm
      have a_S4 : Agr wX10_meet_0 S S4 := Agr.tr Agr.rf (Agr.sub (frX7_hasGoer_1 x S p1 _ _ h1) (by decide))
      by_cases c5 : r3 = 0
      · rw [if_pos c5] at hm
        exact Agr.tr a_S4 (fbX10_meet_0_35 x  S4 _ _ hm)
      · rw [if_neg c5] at hm
        cases h6 : gfX7_hasGoer_1 x S4 p2 with
        | none => rw [h6] at hm; cases hm
        | some q7 =>
          obtain ⟨r8, S9⟩ := q7
          rw [h6] at hm
          dsimp only at hm
          have a_S9 : Agr wX10_meet_0 S S9 := Agr.tr a_S4 (Agr.sub (frX7_hasGoer_1 x S4 p2 _ _ h6) (by decide))
          by_cases c10 : r8 = 0
          · rw [if_pos c10] at hm
            exact Agr.tr a_S9 (fbX10_meet_0_35 x  S9 _ _ hm)
          · rw [if_neg c10] at hm
            by_cases c11 : p1 = p2
            · rw [if_pos c11] at hm
              exact Agr.tr a_S9 (fbX10_meet_0_35 x  S9 _ _ hm)
            · rw [if_neg c11] at hm
              cases h12 : gfX10_within x S9 p3 2 with
              | none => rw [h12] at hm; cases hm
              | some q13 =>
                obtain ⟨r14, S15⟩ := q13
                rw [h12] at hm
                dsimp only at hm
                have a_S15 : Agr wX10_meet_0 S S15 := Agr.tr a_S9 (Agr.sub (frX10_within x S9 p3 2 _ _ h12) (by decide))
                by_cases c16 : ¬ r14 = 0
                · rw [if_pos c16] at hm
                  cases h17 : gfX6_begin_54_1 x S15 p1 with
                  | none => rw [h17] at hm; cases hm
                  | some q18 =>
                    obtain ⟨r19, S20⟩ := q18
                    rw [h17] at hm
                    dsimp only at hm
                    have a_S20 : Agr wX10_meet_0 S S20 := Agr.tr a_S15 (Agr.sub (frX6_begin_54_1 x S15 p1 _ _ h17) (by decide))
                    cases h21 : gfX6_keepSteps_54 x S20 with
                    | none => rw [h21] at hm; cases hm
                    | some q22 =>
                      obtain ⟨r23, S24⟩ := q22
                      rw [h21] at hm
                      dsimp only at hm
                      have a_S24 : Agr wX10_meet_0 S S24 := Agr.tr a_S20 (Agr.sub (frX6_keepSteps_54 x S20 _ _ h21) (by decide))
                      cases h25 : gfX6_begin_54_1 x S24 p2 with
                      | none => rw [h25] at hm; cases hm
                      | some q26 =>
                        obtain ⟨r27, S28⟩ := q26
                        rw [h25] at hm
                        dsimp only at hm
                        have a_S28 : Agr wX10_meet_0 S S28 := Agr.tr a_S24 (Agr.sub (frX6_begin_54_1 x S24 p2 _ _ h25) (by decide))
                        cases h29 : gfX6_meetingPlace_54 x S28 with
                        | none => rw [h29] at hm; cases hm
                        | some q30 =>
                          obtain ⟨r31, S32⟩ := q30
                          rw [h29] at hm
                          dsimp only at hm
                          have a_S32 : Agr wX10_meet_0 S S32 := Agr.tr a_S28 (Agr.sub (frX6_meetingPlace_54 x S28 _ _ h29) (by decide))
                          by_cases c33 : p3 = 0
                          · rw [if_pos c33] at hm
                            exact Agr.tr a_S32 (fbX10_meet_0_87 x  S32 r31 _ _ hm)
                          · rw [if_neg c33] at hm
                            by_cases c34 : ¬ r31 = (-1)
                            · rw [if_pos c34] at hm
                              cases h35 : gfX6_longerSteps_54 x S32 r31 with
                              | none => rw [h35] at hm; cases hm
                              | some q36 =>
                                obtain ⟨r37, S38⟩ := q36
                                rw [h35] at hm
                                dsimp only at hm
                                have a_S38 : Agr wX10_meet_0 S S38 := Agr.tr a_S32 (Agr.sub (frX6_longerSteps_54 x S32 r31 _ _ h35) (by decide))
                                exact Agr.tr a_S38 (fbX10_meet_0_101 x  S38 r37 _ _ hm)
                            · rw [if_neg c34] at hm
                              exact Agr.tr a_S32 (fbX10_meet_0_87 x  S32 r31 _ _ hm)
                · rw [if_neg c16] at hm
                  exact Agr.tr a_S15 (fbX10_meet_0_35 x  S15 _ _ hm)
theorem frX10_meet_0 (x : XT) (S : ST) (p1 : Int32) (p2 : Int32) (p3 : Int32) (r : Int32) (S' : ST) (hm : gfX10_meet_0 x S p1 p2 p3 = some (r, S')) : Agr wX10_meet_0 S S' := fbX10_meet_0_0 x S p1 p2 p3 r S' hm
def wX7_addSight_1 : List (Nat × Nat) × List Nat × List Nat × List Nat := ([(1, 11)], [11, 12, 13], [], [])
set_option maxHeartbeats 4000000 in
set_option maxRecDepth 20000 in
theorem fbX7_addSight_1_27 (x : XT)  (S : ST)  (r : Int32) (S' : ST) (hm : bfX7_addSight_1_27 x  S  = some (r, S')) : Agr wX7_addSight_1 S S' := by
    unfold bfX7_addSight_1_27 at hm
    cases hm
    exact Agr.rf
set_option maxHeartbeats 4000000 in
set_option maxRecDepth 20000 in
theorem fbX7_addSight_1_0 (x : XT)  (S : ST) (p1 : Int32) (p2 : Int32) (p3 : Int32) (r : Int32) (S' : ST) (hm : bfX7_addSight_1_0 x  S p1 p2 p3 = some (r, S')) : Agr wX7_addSight_1 S S' := by
    unfold bfX7_addSight_1_0 at hm
    cases h1 : gfX10_within x S p1 10 with
    | none => rw [h1] at hm; cases hm
    | some q2 =>
      obtain ⟨r3, S4⟩ := q2
      rw [h1] at hm
      dsimp only at hm
      have a_S4 : Agr wX7_addSight_1 S S4 := Agr.tr Agr.rf (Agr.sub (frX10_within x S p1 10 _ _ h1) (by decide))
      by_cases c5 : r3 = 0
      · rw [if_pos c5] at hm
        exact Agr.tr a_S4 (fbX7_addSight_1_27 x  S4 _ _ hm)
      · rw [if_neg c5] at hm
        cases h6 : gfX10_within x S4 p2 20 with
        | none => rw [h6] at hm; cases hm
        | some q7 =>
          obtain ⟨r8, S9⟩ := q7
          rw [h6] at hm
          dsimp only at hm
          have a_S9 : Agr wX7_addSight_1 S S9 := Agr.tr a_S4 (Agr.sub (frX10_within x S4 p2 20 _ _ h6) (by decide))
          by_cases c10 : r8 = 0
          · rw [if_pos c10] at hm
            exact Agr.tr a_S9 (fbX7_addSight_1_27 x  S9 _ _ hm)
          · rw [if_neg c10] at hm
            cases h11 : gfX10_within x S9 p3 20 with
            | none => rw [h11] at hm; cases hm
            | some q12 =>
              obtain ⟨r13, S14⟩ := q12
              rw [h11] at hm
              dsimp only at hm
              have a_S14 : Agr wX7_addSight_1 S S14 := Agr.tr a_S9 (Agr.sub (frX10_within x S9 p3 20 _ _ h11) (by decide))
              by_cases c15 : ¬ r13 = 0
              · rw [if_pos c15] at hm
                by_cases c16 : (S14.1 1 11) < 6
                · rw [if_pos c16] at hm
                  obtain ⟨o17, hm⟩ := oblk hm
                  obtain ⟨o18, hm⟩ := oblk hm
                  obtain ⟨o19, hm⟩ := oblk hm
                  cases hm
                  exact (Agr.i (Agr.i (Agr.i (Agr.f a_S14 1 11 ((S14.1 1 11) + 1) (by decide)) 11 ((S14.1 1 11).toNatClampNeg) p1 (by decide)) 12 ((S14.1 1 11).toNatClampNeg) p2 (by decide)) 13 ((S14.1 1 11).toNatClampNeg) p3 (by decide))
                · rw [if_neg c16] at hm
                  cases hm
                  exact a_S14
              · rw [if_neg c15] at hm
                exact Agr.tr a_S14 (fbX7_addSight_1_27 x  S14 _ _ hm)
theorem frX7_addSight_1 (x : XT) (S : ST) (p1 : Int32) (p2 : Int32) (p3 : Int32) (r : Int32) (S' : ST) (hm : gfX7_addSight_1 x S p1 p2 p3 = some (r, S')) : Agr wX7_addSight_1 S S' := fbX7_addSight_1_0 x S p1 p2 p3 r S' hm
def wX10_seen_0 : List (Nat × Nat) × List Nat × List Nat × List Nat := ([(0, 12), (1, 11)], [11, 12, 13, 99], [], [])
set_option maxHeartbeats 4000000 in
set_option maxRecDepth 20000 in
theorem fbX10_seen_0_0 (x : XT)  (S : ST) (p1 : Int32) (p2 : Int32) (p3 : Int32) (r : Int32) (S' : ST) (hm : bfX10_seen_0_0 x  S p1 p2 p3 = some (r, S')) : Agr wX10_seen_0 S S' := by
    unfold bfX10_seen_0_0 at hm
    cases h1 : gfX7_addSight_1 x S p1 p2 p3 with
    | none => rw [h1] at hm; cases hm
    | some q2 =>
      obtain ⟨r3, S4⟩ := q2
      rw [h1] at hm
      dsimp only at hm
      have a_S4 : Agr wX10_seen_0 S S4 := Agr.tr Agr.rf (Agr.sub (frX7_addSight_1 x S p1 p2 p3 _ _ h1) (by decide))
      cases h5 : gfX10_told_0 x S4 r3 with
      | none => rw [h5] at hm; cases hm
      | some q6 =>
        obtain ⟨r7, S8⟩ := q6
        rw [h5] at hm
        dsimp only at hm
        have a_S8 : Agr wX10_seen_0 S S8 := Agr.tr a_S4 (Agr.sub (frX10_told_0 x S4 r3 _ _ h5) (by decide))
        cases hm
        exact a_S8
theorem frX10_seen_0 (x : XT) (S : ST) (p1 : Int32) (p2 : Int32) (p3 : Int32) (r : Int32) (S' : ST) (hm : gfX10_seen_0 x S p1 p2 p3 = some (r, S')) : Agr wX10_seen_0 S S' := fbX10_seen_0_0 x S p1 p2 p3 r S' hm
def wX10_forget_0 : List (Nat × Nat) × List Nat × List Nat × List Nat := ([(1, 11)], [], [], [])
set_option maxHeartbeats 4000000 in
set_option maxRecDepth 20000 in
theorem fbX10_forget_0_0 (x : XT)  (S : ST)  (r : Int32) (S' : ST) (hm : bfX10_forget_0_0 x  S  = some (r, S')) : Agr wX10_forget_0 S S' := by
    unfold bfX10_forget_0_0 at hm
    cases hm
    exact (Agr.f Agr.rf 1 11 0 (by decide))
theorem frX10_forget_0 (x : XT) (S : ST)  (r : Int32) (S' : ST) (hm : gfX10_forget_0 x S  = some (r, S')) : Agr wX10_forget_0 S S' := fbX10_forget_0_0 x S  r S' hm
def wX3_comesOut_80_1 : List (Nat × Nat) × List Nat × List Nat × List Nat := ([], [21, 22], [], [])
set_option maxHeartbeats 4000000 in
set_option maxRecDepth 20000 in
theorem fbX3_comesOut_80_1_42 (x : XT)  (S : ST) (t0 : Int32) (r : Int32) (S' : ST) (hm : bfX3_comesOut_80_1_42 x  S t0 = some (r, S')) : Agr wX3_comesOut_80_1 S S' := by
    unfold bfX3_comesOut_80_1_42 at hm
    cases hm
    exact Agr.rf
set_option maxHeartbeats 4000000 in
set_option maxRecDepth 20000 in
theorem fbX3_comesOut_80_1_0 (x : XT)  (S : ST) (p2 : Int32) (p3 : Int32) (p4 : Int32) (r : Int32) (S' : ST) (hm : bfX3_comesOut_80_1_0 x  S p2 p3 p4 = some (r, S')) : Agr wX3_comesOut_80_1 S S' := by
    unfold bfX3_comesOut_80_1_0 at hm
    cases h1 : gfX0_regardUnknown_20_1 x S p2 p3 p4 with
    | none => rw [h1] at hm; cases hm
    | some q2 =>
      obtain ⟨r3, S4⟩ := q2
      rw [h1] at hm
      dsimp only at hm
      have a_S4 : Agr wX3_comesOut_80_1 S S4 := Agr.tr Agr.rf (Agr.sub (frX0_regardUnknown_20_1 x S p2 p3 p4 _ _ h1) (by decide))
      cases h5 : gfX0_told_20_1 x S4 262 with
      | none => rw [h5] at hm; cases hm
      | some q6 =>
        obtain ⟨r7, S8⟩ := q6
        rw [h5] at hm
        dsimp only at hm
        have a_S8 : Agr wX3_comesOut_80_1 S S8 := Agr.tr a_S4 (Agr.sub (frX0_told_20_1 x S4 262 _ _ h5) (by decide))
        by_cases c9 : ¬ r7 = 1
        · rw [if_pos c9] at hm
          cases h10 : gfX0_told_20_1 x S8 260 with
          | none => rw [h10] at hm; cases hm
          | some q11 =>
            obtain ⟨r12, S13⟩ := q11
            rw [h10] at hm
            dsimp only at hm
            have a_S13 : Agr wX3_comesOut_80_1 S S13 := Agr.tr a_S8 (Agr.sub (frX0_told_20_1 x S8 260 _ _ h10) (by decide))
            exact Agr.tr a_S13 (fbX3_comesOut_80_1_42 x  S13 r12 _ _ hm)
        · rw [if_neg c9] at hm
          exact Agr.tr a_S8 (fbX3_comesOut_80_1_42 x  S8 (-1) _ _ hm)
theorem frX3_comesOut_80_1 (x : XT) (S : ST) (p2 : Int32) (p3 : Int32) (p4 : Int32) (r : Int32) (S' : ST) (hm : gfX3_comesOut_80_1 x S p2 p3 p4 = some (r, S')) : Agr wX3_comesOut_80_1 S S' := fbX3_comesOut_80_1_0 x S p2 p3 p4 r S' hm
end FRA
