section FRA
def wX10_days_0 : List (Nat × Nat) × List Nat × List Nat × List Nat := ([(0, 12), (83, 2), (84, 0), (84, 6), (84, 11), (84, 16), (84, 18)], [21, 22, 85, 86, 87, 88, 89, 90, 91, 92, 93, 94, 95, 96, 97, 99], [], [98])
set_option maxHeartbeats 4000000 in
set_option maxRecDepth 20000 in
theorem fbX10_days_0_21 (x : XT)  (S : ST)  (r : Int32) (S' : ST) (hm : bfX10_days_0_21 x  S  = some (r, S')) : Agr wX10_days_0 S S' := by
    unfold bfX10_days_0_21 at hm
    cases h1 : gfX10_told_0 x S (-1) with
    | none => rw [h1] at hm; cases hm
    | some q2 =>
      obtain ⟨r3, S4⟩ := q2
      rw [h1] at hm
      dsimp only at hm
      have a_S4 : Agr wX10_days_0 S S4 := Agr.tr Agr.rf (Agr.sub (frX10_told_0 x S (-1) _ _ h1) (by decide))
      cases hm
      exact a_S4
set_option maxHeartbeats 4000000 in
set_option maxRecDepth 20000 in
theorem fbX10_days_0_47 (x : XT)  (S : ST)  (r : Int32) (S' : ST) (hm : bfX10_days_0_47 x  S  = some (r, S')) : Agr wX10_days_0 S S' := by
    unfold bfX10_days_0_47 at hm
    cases h1 : gfX10_told_0 x S (-3) with
    | none => rw [h1] at hm; cases hm
    | some q2 =>
      obtain ⟨r3, S4⟩ := q2
      rw [h1] at hm
      dsimp only at hm
      have a_S4 : Agr wX10_days_0 S S4 := Agr.tr Agr.rf (Agr.sub (frX10_told_0 x S (-3) _ _ h1) (by decide))
      cases hm
      exact a_S4
set_option maxHeartbeats 4000000 in
set_option maxRecDepth 20000 in
theorem fbX10_days_0_0 (x : XT)  (S : ST) (p1 : Int32) (p2 : Int32) (r : Int32) (S' : ST) (hm : bfX10_days_0_0 x  S p1 p2 = some (r, S')) : Agr wX10_days_0 S S' := by
    unfold bfX10_days_0_0 at hm
    cases h1 : gfX10_within x S p1 1000001 with
    | none => rw [h1] at hm; cases hm
    | some q2 =>
      obtain ⟨r3, S4⟩ := q2
      rw [h1] at hm
      dsimp only at hm
      have a_S4 : Agr wX10_days_0 S S4 := Agr.tr Agr.rf (Agr.sub (frX10_within x S p1 1000001 _ _ h1) (by decide))
      by_cases c5 : r3 = 0
      · rw [if_pos c5] at hm
        exact Agr.tr a_S4 (fbX10_days_0_21 x  S4 _ _ hm)
      · rw [if_neg c5] at hm
        by_cases c6 : p2 < 1
        · rw [if_pos c6] at hm
          exact Agr.tr a_S4 (fbX10_days_0_21 x  S4 _ _ hm)
        · rw [if_neg c6] at hm
          by_cases c7 : p2 ≤ 60
          · rw [if_pos c7] at hm
            by_cases c8 : (S4.1 1 6) = 0
            · rw [if_pos c8] at hm
              exact Agr.tr a_S4 (fbX10_days_0_47 x  S4 _ _ hm)
            · rw [if_neg c8] at hm
              by_cases c9 : ¬ (S4.1 1 0) = 0
              · rw [if_pos c9] at hm
                cases h10 : gfX2_run_83_1 x S4 p1 p2 with
                | none => rw [h10] at hm; cases hm
                | some q11 =>
                  obtain ⟨r12, S13⟩ := q11
                  rw [h10] at hm
                  dsimp only at hm
                  have a_S13 : Agr wX10_days_0 S S13 := Agr.tr a_S4 (Agr.sub (frX2_run_83_1 x S4 p1 p2 _ _ h10) (by decide))
                  cases h14 : gfX10_told_0 x S13 r12 with
                  | none => rw [h14] at hm; cases hm
                  | some q15 =>
                    obtain ⟨r16, S17⟩ := q15
                    rw [h14] at hm
                    dsimp only at hm
                    have a_S17 : Agr wX10_days_0 S S17 := Agr.tr a_S13 (Agr.sub (frX10_told_0 x S13 r12 _ _ h14) (by decide))
                    cases hm
                    exact a_S17
              · rw [if_neg c9] at hm
                exact Agr.tr a_S4 (fbX10_days_0_47 x  S4 _ _ hm)
          · rw [if_neg c7] at hm
            exact Agr.tr a_S4 (fbX10_days_0_21 x  S4 _ _ hm)
theorem frX10_days_0 (x : XT) (S : ST) (p1 : Int32) (p2 : Int32) (r : Int32) (S' : ST) (hm : gfX10_days_0 x S p1 p2 = some (r, S')) : Agr wX10_days_0 S S' := fbX10_days_0_0 x S p1 p2 r S' hm
def wX2_behind_83 : List (Nat × Nat) × List Nat × List Nat × List Nat := ([], [], [], [])
set_option maxHeartbeats 4000000 in
set_option maxRecDepth 20000 in
theorem fbX2_behind_83_0 (x : XT)  (S : ST) (p1 : Int32) (p2 : Int32) (r : Int32) (S' : ST) (hm : bfX2_behind_83_0 x  S p1 p2 = some (r, S')) : Agr wX2_behind_83 S S' := by
    unfold bfX2_behind_83_0 at hm
    cases h1 : gfX7_hasGoer_84 x S p1 with
    | none => rw [h1] at hm; cases hm
    | some q2 =>
      obtain ⟨r3, S4⟩ := q2
      rw [h1] at hm
      dsimp only at hm
      have a_S4 : Agr wX2_behind_83 S S4 := Agr.tr Agr.rf (Agr.sub (frX7_hasGoer_84 x S p1 _ _ h1) (by decide))
      by_cases c5 : ¬ r3 = 0
      · rw [if_pos c5] at hm
        by_cases c6 : p2 = 0
        · rw [if_pos c6] at hm
          obtain ⟨o7, hm⟩ := oblk hm
          cases hm
          exact a_S4
        rw [if_neg c6] at hm
        by_cases c8 : p2 = 1
        · rw [if_pos c8] at hm
          obtain ⟨o9, hm⟩ := oblk hm
          cases hm
          exact a_S4
        rw [if_neg c8] at hm
        by_cases c10 : p2 = 2
        · rw [if_pos c10] at hm
          obtain ⟨o11, hm⟩ := oblk hm
          cases hm
          exact a_S4
        rw [if_neg c10] at hm
        cases hm
        exact a_S4
      · rw [if_neg c5] at hm
        cases hm
        exact a_S4
theorem frX2_behind_83 (x : XT) (S : ST) (p1 : Int32) (p2 : Int32) (r : Int32) (S' : ST) (hm : gfX2_behind_83 x S p1 p2 = some (r, S')) : Agr wX2_behind_83 S S' := fbX2_behind_83_0 x S p1 p2 r S' hm
def wX10_drawn_0 : List (Nat × Nat) × List Nat × List Nat × List Nat := ([], [], [], [])
set_option maxHeartbeats 4000000 in
set_option maxRecDepth 20000 in
theorem fbX10_drawn_0_0 (x : XT)  (S : ST) (p1 : Int32) (p2 : Int32) (r : Int32) (S' : ST) (hm : bfX10_drawn_0_0 x  S p1 p2 = some (r, S')) : Agr wX10_drawn_0 S S' := by
    unfold bfX10_drawn_0_0 at hm
    cases h1 : gfX2_behind_83 x S p1 p2 with
    | none => rw [h1] at hm; cases hm
    | some q2 =>
      obtain ⟨r3, S4⟩ := q2
      rw [h1] at hm
      dsimp only at hm
      have a_S4 : Agr wX10_drawn_0 S S4 := Agr.tr Agr.rf (Agr.sub (frX2_behind_83 x S p1 p2 _ _ h1) (by decide))
      cases hm
      exact a_S4
theorem frX10_drawn_0 (x : XT) (S : ST) (p1 : Int32) (p2 : Int32) (r : Int32) (S' : ST) (hm : gfX10_drawn_0 x S p1 p2 = some (r, S')) : Agr wX10_drawn_0 S S' := fbX10_drawn_0_0 x S p1 p2 r S' hm
def wX7_copyFrom_100_1 : List (Nat × Nat) × List Nat × List Nat × List Nat := ([(100, 0), (100, 6), (100, 11), (100, 16), (100, 18)], [101, 102, 103, 104, 105, 106, 107, 108, 109, 110, 111, 112, 113], [], [114])
set_option maxHeartbeats 4000000 in
set_option maxRecDepth 20000 in
theorem fbX7_copyFrom_100_1_252 (x : XT) (k252 : ST → Int32 → Option (Unit × ST)) (ak252 : ∀ (S : ST) (v2 : Int32) (r : Unit) (S' : ST), k252 S v2 = some (r, S') → Agr wX7_copyFrom_100_1 S S') (S : ST) (v2 : Int32) (r : Unit) (S' : ST) (hm : bfX7_copyFrom_100_1_252 x k252 S v2 = some (r, S')) : Agr wX7_copyFrom_100_1 S S' := by
    unfold bfX7_copyFrom_100_1_252 at hm
    by_cases c1 : 6 ≤ v2
    · rw [if_pos c1] at hm
      cases hm
      exact Agr.rf
    · rw [if_neg c1] at hm
      obtain ⟨o2, hm⟩ := oblk hm
      obtain ⟨o3, hm⟩ := oblk hm
      obtain ⟨o4, hm⟩ := oblk hm
      exact Agr.tr (Agr.q Agr.rf 114 v2.toNatClampNeg (S.2.2.2 15 v2.toNatClampNeg) (by decide)) (ak252 (S.1, S.2.1, S.2.2.1, (u2 S.2.2.2 114 v2.toNatClampNeg (S.2.2.2 15 v2.toNatClampNeg))) (v2 + 1) _ _ hm)
theorem flX7_copyFrom_100_1_252 (x : XT)  : ∀ (n : Nat) (S : ST) (v2 : Int32) (r : Unit) (S' : ST), lfX7_copyFrom_100_1_252 x  n S v2 = some (r, S') → Agr wX7_copyFrom_100_1 S S'
  | 0, _, _, _, _, hm => by cases hm
  | n + 1, S, v2, r, S', hm => fbX7_copyFrom_100_1_252 x (lfX7_copyFrom_100_1_252 x  n) (flX7_copyFrom_100_1_252 x  n) S v2 r S' hm
set_option maxHeartbeats 4000000 in
set_option maxRecDepth 20000 in
theorem fbX7_copyFrom_100_1_227 (x : XT) (k227 : ST → Int32 → Option (Unit × ST)) (ak227 : ∀ (S : ST) (v2 : Int32) (r : Unit) (S' : ST), k227 S v2 = some (r, S') → Agr wX7_copyFrom_100_1 S S') (S : ST) (v2 : Int32) (r : Unit) (S' : ST) (hm : bfX7_copyFrom_100_1_227 x k227 S v2 = some (r, S')) : Agr wX7_copyFrom_100_1 S S' := by
    unfold bfX7_copyFrom_100_1_227 at hm
    by_cases c1 : 3 ≤ v2
    · rw [if_pos c1] at hm
      exact Agr.tr Agr.rf (flX7_copyFrom_100_1_252 x  20000 S 0 _ _ hm)
    · rw [if_neg c1] at hm
      obtain ⟨o2, hm⟩ := oblk hm
      obtain ⟨o3, hm⟩ := oblk hm
      exact Agr.tr (Agr.i Agr.rf 113 v2.toNatClampNeg (S.2.1 14 v2.toNatClampNeg) (by decide)) (ak227 (S.1, (u2 S.2.1 113 v2.toNatClampNeg (S.2.1 14 v2.toNatClampNeg)), S.2.2.1, S.2.2.2) (v2 + 1) _ _ hm)
theorem flX7_copyFrom_100_1_227 (x : XT)  : ∀ (n : Nat) (S : ST) (v2 : Int32) (r : Unit) (S' : ST), lfX7_copyFrom_100_1_227 x  n S v2 = some (r, S') → Agr wX7_copyFrom_100_1 S S'
  | 0, _, _, _, _, hm => by cases hm
  | n + 1, S, v2, r, S', hm => fbX7_copyFrom_100_1_227 x (lfX7_copyFrom_100_1_227 x  n) (flX7_copyFrom_100_1_227 x  n) S v2 r S' hm
set_option maxHeartbeats 4000000 in
set_option maxRecDepth 20000 in
theorem fbX7_copyFrom_100_1_177 (x : XT) (k177 : ST → Int32 → Option (Unit × ST)) (ak177 : ∀ (S : ST) (v2 : Int32) (r : Unit) (S' : ST), k177 S v2 = some (r, S') → Agr wX7_copyFrom_100_1 S S') (S : ST) (v2 : Int32) (r : Unit) (S' : ST) (hm : bfX7_copyFrom_100_1_177 x k177 S v2 = some (r, S')) : Agr wX7_copyFrom_100_1 S S' := by
    unfold bfX7_copyFrom_100_1_177 at hm
    by_cases c1 : 6 ≤ v2
    · rw [if_pos c1] at hm
      exact Agr.tr Agr.rf (flX7_copyFrom_100_1_227 x  20000 S 0 _ _ hm)
    · rw [if_neg c1] at hm
      obtain ⟨o2, hm⟩ := oblk hm
      obtain ⟨o3, hm⟩ := oblk hm
      obtain ⟨o4, hm⟩ := oblk hm
      obtain ⟨o5, hm⟩ := oblk hm
      obtain ⟨o6, hm⟩ := oblk hm
      obtain ⟨o7, hm⟩ := oblk hm
      exact Agr.tr (Agr.i (Agr.i (Agr.i Agr.rf 110 v2.toNatClampNeg (S.2.1 11 v2.toNatClampNeg) (by decide)) 111 v2.toNatClampNeg (S.2.1 12 v2.toNatClampNeg) (by decide)) 112 v2.toNatClampNeg (S.2.1 13 v2.toNatClampNeg) (by decide)) (ak177 (S.1, (u2 (u2 (u2 S.2.1 110 v2.toNatClampNeg (S.2.1 11 v2.toNatClampNeg)) 111 v2.toNatClampNeg (S.2.1 12 v2.toNatClampNeg)) 112 v2.toNatClampNeg (S.2.1 13 v2.toNatClampNeg)), S.2.2.1, S.2.2.2) (v2 + 1) _ _ hm)
theorem flX7_copyFrom_100_1_177 (x : XT)  : ∀ (n : Nat) (S : ST) (v2 : Int32) (r : Unit) (S' : ST), lfX7_copyFrom_100_1_177 x  n S v2 = some (r, S') → Agr wX7_copyFrom_100_1 S S'
  | 0, _, _, _, _, hm => by cases hm
  | n + 1, S, v2, r, S', hm => fbX7_copyFrom_100_1_177 x (lfX7_copyFrom_100_1_177 x  n) (flX7_copyFrom_100_1_177 x  n) S v2 r S' hm
set_option maxHeartbeats 4000000 in
set_option maxRecDepth 20000 in
theorem fbX7_copyFrom_100_1_116 (x : XT) (k116 : ST → Int32 → Option (Unit × ST)) (ak116 : ∀ (S : ST) (v2 : Int32) (r : Unit) (S' : ST), k116 S v2 = some (r, S') → Agr wX7_copyFrom_100_1 S S') (S : ST) (v2 : Int32) (r : Unit) (S' : ST) (hm : bfX7_copyFrom_100_1_116 x k116 S v2 = some (r, S')) : Agr wX7_copyFrom_100_1 S S' := by
    unfold bfX7_copyFrom_100_1_116 at hm
    by_cases c1 : 5 ≤ v2
    · rw [if_pos c1] at hm
      exact Agr.tr Agr.rf (flX7_copyFrom_100_1_177 x  20000 S 0 _ _ hm)
    · rw [if_neg c1] at hm
      obtain ⟨o2, hm⟩ := oblk hm
      obtain ⟨o3, hm⟩ := oblk hm
      obtain ⟨o4, hm⟩ := oblk hm
      obtain ⟨o5, hm⟩ := oblk hm
      obtain ⟨o6, hm⟩ := oblk hm
      obtain ⟨o7, hm⟩ := oblk hm
      obtain ⟨o8, hm⟩ := oblk hm
      obtain ⟨o9, hm⟩ := oblk hm
      exact Agr.tr (Agr.i (Agr.i (Agr.i (Agr.i Agr.rf 106 v2.toNatClampNeg (S.2.1 7 v2.toNatClampNeg) (by decide)) 107 v2.toNatClampNeg (S.2.1 8 v2.toNatClampNeg) (by decide)) 108 v2.toNatClampNeg (S.2.1 9 v2.toNatClampNeg) (by decide)) 109 v2.toNatClampNeg (S.2.1 10 v2.toNatClampNeg) (by decide)) (ak116 (S.1, (u2 (u2 (u2 (u2 S.2.1 106 v2.toNatClampNeg (S.2.1 7 v2.toNatClampNeg)) 107 v2.toNatClampNeg (S.2.1 8 v2.toNatClampNeg)) 108 v2.toNatClampNeg (S.2.1 9 v2.toNatClampNeg)) 109 v2.toNatClampNeg (S.2.1 10 v2.toNatClampNeg)), S.2.2.1, S.2.2.2) (v2 + 1) _ _ hm)
theorem flX7_copyFrom_100_1_116 (x : XT)  : ∀ (n : Nat) (S : ST) (v2 : Int32) (r : Unit) (S' : ST), lfX7_copyFrom_100_1_116 x  n S v2 = some (r, S') → Agr wX7_copyFrom_100_1 S S'
  | 0, _, _, _, _, hm => by cases hm
  | n + 1, S, v2, r, S', hm => fbX7_copyFrom_100_1_116 x (lfX7_copyFrom_100_1_116 x  n) (flX7_copyFrom_100_1_116 x  n) S v2 r S' hm
set_option maxHeartbeats 4000000 in
set_option maxRecDepth 20000 in
theorem fbX7_copyFrom_100_1_42 (x : XT) (k42 : ST → Int32 → Option (Unit × ST)) (ak42 : ∀ (S : ST) (v2 : Int32) (r : Unit) (S' : ST), k42 S v2 = some (r, S') → Agr wX7_copyFrom_100_1 S S') (S : ST) (v2 : Int32) (r : Unit) (S' : ST) (hm : bfX7_copyFrom_100_1_42 x k42 S v2 = some (r, S')) : Agr wX7_copyFrom_100_1 S S' := by
    unfold bfX7_copyFrom_100_1_42 at hm
    by_cases c1 : 10 ≤ v2
    · rw [if_pos c1] at hm
      exact Agr.tr Agr.rf (flX7_copyFrom_100_1_116 x  20000 S 0 _ _ hm)
    · rw [if_neg c1] at hm
      obtain ⟨o2, hm⟩ := oblk hm
      obtain ⟨o3, hm⟩ := oblk hm
      obtain ⟨o4, hm⟩ := oblk hm
      obtain ⟨o5, hm⟩ := oblk hm
      obtain ⟨o6, hm⟩ := oblk hm
      obtain ⟨o7, hm⟩ := oblk hm
      obtain ⟨o8, hm⟩ := oblk hm
      obtain ⟨o9, hm⟩ := oblk hm
      obtain ⟨o10, hm⟩ := oblk hm
      obtain ⟨o11, hm⟩ := oblk hm
      exact Agr.tr (Agr.i (Agr.i (Agr.i (Agr.i (Agr.i Agr.rf 101 v2.toNatClampNeg (S.2.1 2 v2.toNatClampNeg) (by decide)) 102 v2.toNatClampNeg (S.2.1 3 v2.toNatClampNeg) (by decide)) 103 v2.toNatClampNeg (S.2.1 4 v2.toNatClampNeg) (by decide)) 104 v2.toNatClampNeg (S.2.1 5 v2.toNatClampNeg) (by decide)) 105 v2.toNatClampNeg (vp_nar .boolean (S.2.1 6 v2.toNatClampNeg)) (by decide)) (ak42 (S.1, (u2 (u2 (u2 (u2 (u2 S.2.1 101 v2.toNatClampNeg (S.2.1 2 v2.toNatClampNeg)) 102 v2.toNatClampNeg (S.2.1 3 v2.toNatClampNeg)) 103 v2.toNatClampNeg (S.2.1 4 v2.toNatClampNeg)) 104 v2.toNatClampNeg (S.2.1 5 v2.toNatClampNeg)) 105 v2.toNatClampNeg (vp_nar .boolean (S.2.1 6 v2.toNatClampNeg))), S.2.2.1, S.2.2.2) (v2 + 1) _ _ hm)
theorem flX7_copyFrom_100_1_42 (x : XT)  : ∀ (n : Nat) (S : ST) (v2 : Int32) (r : Unit) (S' : ST), lfX7_copyFrom_100_1_42 x  n S v2 = some (r, S') → Agr wX7_copyFrom_100_1 S S'
  | 0, _, _, _, _, hm => by cases hm
  | n + 1, S, v2, r, S', hm => fbX7_copyFrom_100_1_42 x (lfX7_copyFrom_100_1_42 x  n) (flX7_copyFrom_100_1_42 x  n) S v2 r S' hm
set_option maxHeartbeats 4000000 in
set_option maxRecDepth 20000 in
theorem fbX7_copyFrom_100_1_0 (x : XT)  (S : ST)  (r : Unit) (S' : ST) (hm : bfX7_copyFrom_100_1_0 x  S  = some (r, S')) : Agr wX7_copyFrom_100_1 S S' := by
    unfold bfX7_copyFrom_100_1_0 at hm
    exact Agr.tr (Agr.f (Agr.f (Agr.f (Agr.f (Agr.f Agr.rf 100 0 (S.1 1 0) (by decide)) 100 6 (S.1 1 6) (by decide)) 100 11 (S.1 1 11) (by decide)) 100 16 (S.1 1 16) (by decide)) 100 18 (S.1 1 18) (by decide)) (flX7_copyFrom_100_1_42 x  20000 ((u2 (u2 (u2 (u2 (u2 S.1 100 0 (S.1 1 0)) 100 6 (S.1 1 6)) 100 11 (S.1 1 11)) 100 16 (S.1 1 16)) 100 18 (S.1 1 18)), S.2.1, S.2.2.1, S.2.2.2) 0 _ _ hm)
theorem frX7_copyFrom_100_1 (x : XT) (S : ST)  (r : Unit) (S' : ST) (hm : gfX7_copyFrom_100_1 x S  = some (r, S')) : Agr wX7_copyFrom_100_1 S S' := fbX7_copyFrom_100_1_0 x S  r S' hm
def wX7_copyFrom_115_1 : List (Nat × Nat) × List Nat × List Nat × List Nat := ([(115, 0), (115, 6), (115, 11), (115, 16), (115, 18)], [116, 117, 118, 119, 120, 121, 122, 123, 124, 125, 126, 127, 128], [], [129])
set_option maxHeartbeats 4000000 in
set_option maxRecDepth 20000 in
theorem fbX7_copyFrom_115_1_252 (x : XT) (k252 : ST → Int32 → Option (Unit × ST)) (ak252 : ∀ (S : ST) (v2 : Int32) (r : Unit) (S' : ST), k252 S v2 = some (r, S') → Agr wX7_copyFrom_115_1 S S') (S : ST) (v2 : Int32) (r : Unit) (S' : ST) (hm : bfX7_copyFrom_115_1_252 x k252 S v2 = some (r, S')) : Agr wX7_copyFrom_115_1 S S' := by
    unfold bfX7_copyFrom_115_1_252 at hm
    by_cases c1 : 6 ≤ v2
    · rw [if_pos c1] at hm
      cases hm
      exact Agr.rf
    · rw [if_neg c1] at hm
      obtain ⟨o2, hm⟩ := oblk hm
      obtain ⟨o3, hm⟩ := oblk hm
      obtain ⟨o4, hm⟩ := oblk hm
      exact Agr.tr (Agr.q Agr.rf 129 v2.toNatClampNeg (S.2.2.2 15 v2.toNatClampNeg) (by decide)) (ak252 (S.1, S.2.1, S.2.2.1, (u2 S.2.2.2 129 v2.toNatClampNeg (S.2.2.2 15 v2.toNatClampNeg))) (v2 + 1) _ _ hm)
theorem flX7_copyFrom_115_1_252 (x : XT)  : ∀ (n : Nat) (S : ST) (v2 : Int32) (r : Unit) (S' : ST), lfX7_copyFrom_115_1_252 x  n S v2 = some (r, S') → Agr wX7_copyFrom_115_1 S S'
  | 0, _, _, _, _, hm => by cases hm
  | n + 1, S, v2, r, S', hm => fbX7_copyFrom_115_1_252 x (lfX7_copyFrom_115_1_252 x  n) (flX7_copyFrom_115_1_252 x  n) S v2 r S' hm
set_option maxHeartbeats 4000000 in
set_option maxRecDepth 20000 in
theorem fbX7_copyFrom_115_1_227 (x : XT) (k227 : ST → Int32 → Option (Unit × ST)) (ak227 : ∀ (S : ST) (v2 : Int32) (r : Unit) (S' : ST), k227 S v2 = some (r, S') → Agr wX7_copyFrom_115_1 S S') (S : ST) (v2 : Int32) (r : Unit) (S' : ST) (hm : bfX7_copyFrom_115_1_227 x k227 S v2 = some (r, S')) : Agr wX7_copyFrom_115_1 S S' := by
    unfold bfX7_copyFrom_115_1_227 at hm
    by_cases c1 : 3 ≤ v2
    · rw [if_pos c1] at hm
      exact Agr.tr Agr.rf (flX7_copyFrom_115_1_252 x  20000 S 0 _ _ hm)
    · rw [if_neg c1] at hm
      obtain ⟨o2, hm⟩ := oblk hm
      obtain ⟨o3, hm⟩ := oblk hm
      exact Agr.tr (Agr.i Agr.rf 128 v2.toNatClampNeg (S.2.1 14 v2.toNatClampNeg) (by decide)) (ak227 (S.1, (u2 S.2.1 128 v2.toNatClampNeg (S.2.1 14 v2.toNatClampNeg)), S.2.2.1, S.2.2.2) (v2 + 1) _ _ hm)
theorem flX7_copyFrom_115_1_227 (x : XT)  : ∀ (n : Nat) (S : ST) (v2 : Int32) (r : Unit) (S' : ST), lfX7_copyFrom_115_1_227 x  n S v2 = some (r, S') → Agr wX7_copyFrom_115_1 S S'
  | 0, _, _, _, _, hm => by cases hm
  | n + 1, S, v2, r, S', hm => fbX7_copyFrom_115_1_227 x (lfX7_copyFrom_115_1_227 x  n) (flX7_copyFrom_115_1_227 x  n) S v2 r S' hm
set_option maxHeartbeats 4000000 in
set_option maxRecDepth 20000 in
theorem fbX7_copyFrom_115_1_177 (x : XT) (k177 : ST → Int32 → Option (Unit × ST)) (ak177 : ∀ (S : ST) (v2 : Int32) (r : Unit) (S' : ST), k177 S v2 = some (r, S') → Agr wX7_copyFrom_115_1 S S') (S : ST) (v2 : Int32) (r : Unit) (S' : ST) (hm : bfX7_copyFrom_115_1_177 x k177 S v2 = some (r, S')) : Agr wX7_copyFrom_115_1 S S' := by
    unfold bfX7_copyFrom_115_1_177 at hm
    by_cases c1 : 6 ≤ v2
    · rw [if_pos c1] at hm
      exact Agr.tr Agr.rf (flX7_copyFrom_115_1_227 x  20000 S 0 _ _ hm)
    · rw [if_neg c1] at hm
      obtain ⟨o2, hm⟩ := oblk hm
      obtain ⟨o3, hm⟩ := oblk hm
      obtain ⟨o4, hm⟩ := oblk hm
      obtain ⟨o5, hm⟩ := oblk hm
      obtain ⟨o6, hm⟩ := oblk hm
      obtain ⟨o7, hm⟩ := oblk hm
      exact Agr.tr (Agr.i (Agr.i (Agr.i Agr.rf 125 v2.toNatClampNeg (S.2.1 11 v2.toNatClampNeg) (by decide)) 126 v2.toNatClampNeg (S.2.1 12 v2.toNatClampNeg) (by decide)) 127 v2.toNatClampNeg (S.2.1 13 v2.toNatClampNeg) (by decide)) (ak177 (S.1, (u2 (u2 (u2 S.2.1 125 v2.toNatClampNeg (S.2.1 11 v2.toNatClampNeg)) 126 v2.toNatClampNeg (S.2.1 12 v2.toNatClampNeg)) 127 v2.toNatClampNeg (S.2.1 13 v2.toNatClampNeg)), S.2.2.1, S.2.2.2) (v2 + 1) _ _ hm)
theorem flX7_copyFrom_115_1_177 (x : XT)  : ∀ (n : Nat) (S : ST) (v2 : Int32) (r : Unit) (S' : ST), lfX7_copyFrom_115_1_177 x  n S v2 = some (r, S') → Agr wX7_copyFrom_115_1 S S'
  | 0, _, _, _, _, hm => by cases hm
  | n + 1, S, v2, r, S', hm => fbX7_copyFrom_115_1_177 x (lfX7_copyFrom_115_1_177 x  n) (flX7_copyFrom_115_1_177 x  n) S v2 r S' hm
set_option maxHeartbeats 4000000 in
set_option maxRecDepth 20000 in
theorem fbX7_copyFrom_115_1_116 (x : XT) (k116 : ST → Int32 → Option (Unit × ST)) (ak116 : ∀ (S : ST) (v2 : Int32) (r : Unit) (S' : ST), k116 S v2 = some (r, S') → Agr wX7_copyFrom_115_1 S S') (S : ST) (v2 : Int32) (r : Unit) (S' : ST) (hm : bfX7_copyFrom_115_1_116 x k116 S v2 = some (r, S')) : Agr wX7_copyFrom_115_1 S S' := by
    unfold bfX7_copyFrom_115_1_116 at hm
    by_cases c1 : 5 ≤ v2
    · rw [if_pos c1] at hm
      exact Agr.tr Agr.rf (flX7_copyFrom_115_1_177 x  20000 S 0 _ _ hm)
    · rw [if_neg c1] at hm
      obtain ⟨o2, hm⟩ := oblk hm
      obtain ⟨o3, hm⟩ := oblk hm
      obtain ⟨o4, hm⟩ := oblk hm
      obtain ⟨o5, hm⟩ := oblk hm
      obtain ⟨o6, hm⟩ := oblk hm
      obtain ⟨o7, hm⟩ := oblk hm
      obtain ⟨o8, hm⟩ := oblk hm
      obtain ⟨o9, hm⟩ := oblk hm
      exact Agr.tr (Agr.i (Agr.i (Agr.i (Agr.i Agr.rf 121 v2.toNatClampNeg (S.2.1 7 v2.toNatClampNeg) (by decide)) 122 v2.toNatClampNeg (S.2.1 8 v2.toNatClampNeg) (by decide)) 123 v2.toNatClampNeg (S.2.1 9 v2.toNatClampNeg) (by decide)) 124 v2.toNatClampNeg (S.2.1 10 v2.toNatClampNeg) (by decide)) (ak116 (S.1, (u2 (u2 (u2 (u2 S.2.1 121 v2.toNatClampNeg (S.2.1 7 v2.toNatClampNeg)) 122 v2.toNatClampNeg (S.2.1 8 v2.toNatClampNeg)) 123 v2.toNatClampNeg (S.2.1 9 v2.toNatClampNeg)) 124 v2.toNatClampNeg (S.2.1 10 v2.toNatClampNeg)), S.2.2.1, S.2.2.2) (v2 + 1) _ _ hm)
theorem flX7_copyFrom_115_1_116 (x : XT)  : ∀ (n : Nat) (S : ST) (v2 : Int32) (r : Unit) (S' : ST), lfX7_copyFrom_115_1_116 x  n S v2 = some (r, S') → Agr wX7_copyFrom_115_1 S S'
  | 0, _, _, _, _, hm => by cases hm
  | n + 1, S, v2, r, S', hm => fbX7_copyFrom_115_1_116 x (lfX7_copyFrom_115_1_116 x  n) (flX7_copyFrom_115_1_116 x  n) S v2 r S' hm
set_option maxHeartbeats 4000000 in
set_option maxRecDepth 20000 in
theorem fbX7_copyFrom_115_1_42 (x : XT) (k42 : ST → Int32 → Option (Unit × ST)) (ak42 : ∀ (S : ST) (v2 : Int32) (r : Unit) (S' : ST), k42 S v2 = some (r, S') → Agr wX7_copyFrom_115_1 S S') (S : ST) (v2 : Int32) (r : Unit) (S' : ST) (hm : bfX7_copyFrom_115_1_42 x k42 S v2 = some (r, S')) : Agr wX7_copyFrom_115_1 S S' := by
    unfold bfX7_copyFrom_115_1_42 at hm
    by_cases c1 : 10 ≤ v2
    · rw [if_pos c1] at hm
      exact Agr.tr Agr.rf (flX7_copyFrom_115_1_116 x  20000 S 0 _ _ hm)
    · rw [if_neg c1] at hm
      obtain ⟨o2, hm⟩ := oblk hm
      obtain ⟨o3, hm⟩ := oblk hm
      obtain ⟨o4, hm⟩ := oblk hm
      obtain ⟨o5, hm⟩ := oblk hm
      obtain ⟨o6, hm⟩ := oblk hm
      obtain ⟨o7, hm⟩ := oblk hm
      obtain ⟨o8, hm⟩ := oblk hm
      obtain ⟨o9, hm⟩ := oblk hm
      obtain ⟨o10, hm⟩ := oblk hm
      obtain ⟨o11, hm⟩ := oblk hm
      exact Agr.tr (Agr.i (Agr.i (Agr.i (Agr.i (Agr.i Agr.rf 116 v2.toNatClampNeg (S.2.1 2 v2.toNatClampNeg) (by decide)) 117 v2.toNatClampNeg (S.2.1 3 v2.toNatClampNeg) (by decide)) 118 v2.toNatClampNeg (S.2.1 4 v2.toNatClampNeg) (by decide)) 119 v2.toNatClampNeg (S.2.1 5 v2.toNatClampNeg) (by decide)) 120 v2.toNatClampNeg (vp_nar .boolean (S.2.1 6 v2.toNatClampNeg)) (by decide)) (ak42 (S.1, (u2 (u2 (u2 (u2 (u2 S.2.1 116 v2.toNatClampNeg (S.2.1 2 v2.toNatClampNeg)) 117 v2.toNatClampNeg (S.2.1 3 v2.toNatClampNeg)) 118 v2.toNatClampNeg (S.2.1 4 v2.toNatClampNeg)) 119 v2.toNatClampNeg (S.2.1 5 v2.toNatClampNeg)) 120 v2.toNatClampNeg (vp_nar .boolean (S.2.1 6 v2.toNatClampNeg))), S.2.2.1, S.2.2.2) (v2 + 1) _ _ hm)
theorem flX7_copyFrom_115_1_42 (x : XT)  : ∀ (n : Nat) (S : ST) (v2 : Int32) (r : Unit) (S' : ST), lfX7_copyFrom_115_1_42 x  n S v2 = some (r, S') → Agr wX7_copyFrom_115_1 S S'
  | 0, _, _, _, _, hm => by cases hm
  | n + 1, S, v2, r, S', hm => fbX7_copyFrom_115_1_42 x (lfX7_copyFrom_115_1_42 x  n) (flX7_copyFrom_115_1_42 x  n) S v2 r S' hm
set_option maxHeartbeats 4000000 in
set_option maxRecDepth 20000 in
theorem fbX7_copyFrom_115_1_0 (x : XT)  (S : ST)  (r : Unit) (S' : ST) (hm : bfX7_copyFrom_115_1_0 x  S  = some (r, S')) : Agr wX7_copyFrom_115_1 S S' := by
    unfold bfX7_copyFrom_115_1_0 at hm
    exact Agr.tr (Agr.f (Agr.f (Agr.f (Agr.f (Agr.f Agr.rf 115 0 (S.1 1 0) (by decide)) 115 6 (S.1 1 6) (by decide)) 115 11 (S.1 1 11) (by decide)) 115 16 (S.1 1 16) (by decide)) 115 18 (S.1 1 18) (by decide)) (flX7_copyFrom_115_1_42 x  20000 ((u2 (u2 (u2 (u2 (u2 S.1 115 0 (S.1 1 0)) 115 6 (S.1 1 6)) 115 11 (S.1 1 11)) 115 16 (S.1 1 16)) 115 18 (S.1 1 18)), S.2.1, S.2.2.1, S.2.2.2) 0 _ _ hm)
theorem frX7_copyFrom_115_1 (x : XT) (S : ST)  (r : Unit) (S' : ST) (hm : gfX7_copyFrom_115_1 x S  = some (r, S')) : Agr wX7_copyFrom_115_1 S S' := fbX7_copyFrom_115_1_0 x S  r S' hm
def wX10_image_0 : List (Nat × Nat) × List Nat × List Nat × List Nat := ([(0, 12), (100, 0), (100, 6), (100, 11), (100, 16), (100, 18), (115, 0), (115, 6), (115, 11), (115, 16), (115, 18)], [17, 99, 101, 102, 103, 104, 105, 106, 107, 108, 109, 110, 111, 112, 113, 116, 117, 118, 119, 120, 121, 122, 123, 124, 125, 126, 127, 128], [], [114, 129])
set_option maxHeartbeats 4000000 in
set_option maxRecDepth 20000 in
theorem fbX10_image_0_0 (x : XT)  (S : ST) (p1 : Int32) (r : Int32) (S' : ST) (hm : bfX10_image_0_0 x  S p1 = some (r, S')) : Agr wX10_image_0 S S' := by
    unfold bfX10_image_0_0 at hm
    cases h1 : gfX10_within x S p1 2 with
    | none => rw [h1] at hm; cases hm
    | some q2 =>
      obtain ⟨r3, S4⟩ := q2
      rw [h1] at hm
      dsimp only at hm
      have a_S4 : Agr wX10_image_0 S S4 := Agr.tr Agr.rf (Agr.sub (frX10_within x S p1 2 _ _ h1) (by decide))
      by_cases c5 : ¬ r3 = 0
      · rw [if_pos c5] at hm
        obtain ⟨o6, hm⟩ := oblk hm
        by_cases c7 : (S4.2.2.2 16 p1.toNatClampNeg) = some 100
        · rw [if_pos c7] at hm
          cases h8 : gfX7_copyFrom_100_1 x S4 with
          | none => rw [h8] at hm; cases hm
          | some q9 =>
            obtain ⟨r10, S11⟩ := q9
            rw [h8] at hm
            dsimp only at hm
            have a_S11 : Agr wX10_image_0 S S11 := Agr.tr a_S4 (Agr.sub (frX7_copyFrom_100_1 x S4 _ _ h8) (by decide))
            obtain ⟨o12, hm⟩ := oblk hm
            cases h13 : gfX10_told_0 x (S11.1, (u2 S11.2.1 17 p1.toNatClampNeg (vp_nar .boolean 1)), S11.2.2.1, S11.2.2.2) 0 with
            | none => rw [h13] at hm; cases hm
            | some q14 =>
              obtain ⟨r15, S16⟩ := q14
              rw [h13] at hm
              dsimp only at hm
              have a_S16 : Agr wX10_image_0 S S16 := Agr.tr (Agr.i a_S11 17 p1.toNatClampNeg (vp_nar .boolean 1) (by decide)) (Agr.sub (frX10_told_0 x (S11.1, (u2 S11.2.1 17 p1.toNatClampNeg (vp_nar .boolean 1)), S11.2.2.1, S11.2.2.2) 0 _ _ h13) (by decide))
              cases hm
              exact a_S16
        rw [if_neg c7] at hm
        by_cases c17 : (S4.2.2.2 16 p1.toNatClampNeg) = some 115
        · rw [if_pos c17] at hm
          cases h18 : gfX7_copyFrom_115_1 x S4 with
          | none => rw [h18] at hm; cases hm
          | some q19 =>
            obtain ⟨r20, S21⟩ := q19
            rw [h18] at hm
            dsimp only at hm
            have a_S21 : Agr wX10_image_0 S S21 := Agr.tr a_S4 (Agr.sub (frX7_copyFrom_115_1 x S4 _ _ h18) (by decide))
            obtain ⟨o22, hm⟩ := oblk hm
            cases h23 : gfX10_told_0 x (S21.1, (u2 S21.2.1 17 p1.toNatClampNeg (vp_nar .boolean 1)), S21.2.2.1, S21.2.2.2) 0 with
            | none => rw [h23] at hm; cases hm
            | some q24 =>
              obtain ⟨r25, S26⟩ := q24
              rw [h23] at hm
              dsimp only at hm
              have a_S26 : Agr wX10_image_0 S S26 := Agr.tr (Agr.i a_S21 17 p1.toNatClampNeg (vp_nar .boolean 1) (by decide)) (Agr.sub (frX10_told_0 x (S21.1, (u2 S21.2.1 17 p1.toNatClampNeg (vp_nar .boolean 1)), S21.2.2.1, S21.2.2.2) 0 _ _ h23) (by decide))
              cases hm
              exact a_S26
        rw [if_neg c17] at hm
        cases hm
      · rw [if_neg c5] at hm
        cases h27 : gfX10_told_0 x S4 (-1) with
        | none => rw [h27] at hm; cases hm
        | some q28 =>
          obtain ⟨r29, S30⟩ := q28
          rw [h27] at hm
          dsimp only at hm
          have a_S30 : Agr wX10_image_0 S S30 := Agr.tr a_S4 (Agr.sub (frX10_told_0 x S4 (-1) _ _ h27) (by decide))
          cases hm
          exact a_S30
theorem frX10_image_0 (x : XT) (S : ST) (p1 : Int32) (r : Int32) (S' : ST) (hm : gfX10_image_0 x S p1 = some (r, S')) : Agr wX10_image_0 S S' := fbX10_image_0_0 x S p1 r S' hm
def wX7_copyFrom_1_100 : List (Nat × Nat) × List Nat × List Nat × List Nat := ([(1, 0), (1, 6), (1, 11), (1, 16), (1, 18)], [2, 3, 4, 5, 6, 7, 8, 9, 10, 11, 12, 13, 14], [], [15])
set_option maxHeartbeats 4000000 in
set_option maxRecDepth 20000 in
theorem fbX7_copyFrom_1_100_252 (x : XT) (k252 : ST → Int32 → Option (Unit × ST)) (ak252 : ∀ (S : ST) (v2 : Int32) (r : Unit) (S' : ST), k252 S v2 = some (r, S') → Agr wX7_copyFrom_1_100 S S') (S : ST) (v2 : Int32) (r : Unit) (S' : ST) (hm : bfX7_copyFrom_1_100_252 x k252 S v2 = some (r, S')) : Agr wX7_copyFrom_1_100 S S' := by
    unfold bfX7_copyFrom_1_100_252 at hm
    by_cases c1 : 6 ≤ v2
    · rw [if_pos c1] at hm
      cases hm
      exact Agr.rf
    · rw [if_neg c1] at hm
      obtain ⟨o2, hm⟩ := oblk hm
      obtain ⟨o3, hm⟩ := oblk hm
      obtain ⟨o4, hm⟩ := oblk hm
      exact Agr.tr (Agr.q Agr.rf 15 v2.toNatClampNeg (S.2.2.2 114 v2.toNatClampNeg) (by decide)) (ak252 (S.1, S.2.1, S.2.2.1, (u2 S.2.2.2 15 v2.toNatClampNeg (S.2.2.2 114 v2.toNatClampNeg))) (v2 + 1) _ _ hm)
theorem flX7_copyFrom_1_100_252 (x : XT)  : ∀ (n : Nat) (S : ST) (v2 : Int32) (r : Unit) (S' : ST), lfX7_copyFrom_1_100_252 x  n S v2 = some (r, S') → Agr wX7_copyFrom_1_100 S S'
  | 0, _, _, _, _, hm => by cases hm
  | n + 1, S, v2, r, S', hm => fbX7_copyFrom_1_100_252 x (lfX7_copyFrom_1_100_252 x  n) (flX7_copyFrom_1_100_252 x  n) S v2 r S' hm
set_option maxHeartbeats 4000000 in
set_option maxRecDepth 20000 in
theorem fbX7_copyFrom_1_100_227 (x : XT) (k227 : ST → Int32 → Option (Unit × ST)) (ak227 : ∀ (S : ST) (v2 : Int32) (r : Unit) (S' : ST), k227 S v2 = some (r, S') → Agr wX7_copyFrom_1_100 S S') (S : ST) (v2 : Int32) (r : Unit) (S' : ST) (hm : bfX7_copyFrom_1_100_227 x k227 S v2 = some (r, S')) : Agr wX7_copyFrom_1_100 S S' := by
    unfold bfX7_copyFrom_1_100_227 at hm
    by_cases c1 : 3 ≤ v2
    · rw [if_pos c1] at hm
      exact Agr.tr Agr.rf (flX7_copyFrom_1_100_252 x  20000 S 0 _ _ hm)
    · rw [if_neg c1] at hm
      obtain ⟨o2, hm⟩ := oblk hm
      obtain ⟨o3, hm⟩ := oblk hm
      exact Agr.tr (Agr.i Agr.rf 14 v2.toNatClampNeg (S.2.1 113 v2.toNatClampNeg) (by decide)) (ak227 (S.1, (u2 S.2.1 14 v2.toNatClampNeg (S.2.1 113 v2.toNatClampNeg)), S.2.2.1, S.2.2.2) (v2 + 1) _ _ hm)
theorem flX7_copyFrom_1_100_227 (x : XT)  : ∀ (n : Nat) (S : ST) (v2 : Int32) (r : Unit) (S' : ST), lfX7_copyFrom_1_100_227 x  n S v2 = some (r, S') → Agr wX7_copyFrom_1_100 S S'
  | 0, _, _, _, _, hm => by cases hm
  | n + 1, S, v2, r, S', hm => fbX7_copyFrom_1_100_227 x (lfX7_copyFrom_1_100_227 x  n) (flX7_copyFrom_1_100_227 x  n) S v2 r S' hm
set_option maxHeartbeats 4000000 in
set_option maxRecDepth 20000 in
theorem fbX7_copyFrom_1_100_177 (x : XT) (k177 : ST → Int32 → Option (Unit × ST)) (ak177 : ∀ (S : ST) (v2 : Int32) (r : Unit) (S' : ST), k177 S v2 = some (r, S') → Agr wX7_copyFrom_1_100 S S') (S : ST) (v2 : Int32) (r : Unit) (S' : ST) (hm : bfX7_copyFrom_1_100_177 x k177 S v2 = some (r, S')) : Agr wX7_copyFrom_1_100 S S' := by
    unfold bfX7_copyFrom_1_100_177 at hm
    by_cases c1 : 6 ≤ v2
    · rw [if_pos c1] at hm
      exact Agr.tr Agr.rf (flX7_copyFrom_1_100_227 x  20000 S 0 _ _ hm)
    · rw [if_neg c1] at hm
      obtain ⟨o2, hm⟩ := oblk hm
      obtain ⟨o3, hm⟩ := oblk hm
      obtain ⟨o4, hm⟩ := oblk hm
      obtain ⟨o5, hm⟩ := oblk hm
      obtain ⟨o6, hm⟩ := oblk hm
      obtain ⟨o7, hm⟩ := oblk hm
      exact Agr.tr (Agr.i (Agr.i (Agr.i Agr.rf 11 v2.toNatClampNeg (S.2.1 110 v2.toNatClampNeg) (by decide)) 12 v2.toNatClampNeg (S.2.1 111 v2.toNatClampNeg) (by decide)) 13 v2.toNatClampNeg (S.2.1 112 v2.toNatClampNeg) (by decide)) (ak177 (S.1, (u2 (u2 (u2 S.2.1 11 v2.toNatClampNeg (S.2.1 110 v2.toNatClampNeg)) 12 v2.toNatClampNeg (S.2.1 111 v2.toNatClampNeg)) 13 v2.toNatClampNeg (S.2.1 112 v2.toNatClampNeg)), S.2.2.1, S.2.2.2) (v2 + 1) _ _ hm)
theorem flX7_copyFrom_1_100_177 (x : XT)  : ∀ (n : Nat) (S : ST) (v2 : Int32) (r : Unit) (S' : ST), lfX7_copyFrom_1_100_177 x  n S v2 = some (r, S') → Agr wX7_copyFrom_1_100 S S'
  | 0, _, _, _, _, hm => by cases hm
  | n + 1, S, v2, r, S', hm => fbX7_copyFrom_1_100_177 x (lfX7_copyFrom_1_100_177 x  n) (flX7_copyFrom_1_100_177 x  n) S v2 r S' hm
set_option maxHeartbeats 4000000 in
set_option maxRecDepth 20000 in
theorem fbX7_copyFrom_1_100_116 (x : XT) (k116 : ST → Int32 → Option (Unit × ST)) (ak116 : ∀ (S : ST) (v2 : Int32) (r : Unit) (S' : ST), k116 S v2 = some (r, S') → Agr wX7_copyFrom_1_100 S S') (S : ST) (v2 : Int32) (r : Unit) (S' : ST) (hm : bfX7_copyFrom_1_100_116 x k116 S v2 = some (r, S')) : Agr wX7_copyFrom_1_100 S S' := by
    unfold bfX7_copyFrom_1_100_116 at hm
    by_cases c1 : 5 ≤ v2
    · rw [if_pos c1] at hm
      exact Agr.tr Agr.rf (flX7_copyFrom_1_100_177 x  20000 S 0 _ _ hm)
    · rw [if_neg c1] at hm
      obtain ⟨o2, hm⟩ := oblk hm
      obtain ⟨o3, hm⟩ := oblk hm
      obtain ⟨o4, hm⟩ := oblk hm
      obtain ⟨o5, hm⟩ := oblk hm
      obtain ⟨o6, hm⟩ := oblk hm
      obtain ⟨o7, hm⟩ := oblk hm
      obtain ⟨o8, hm⟩ := oblk hm
      obtain ⟨o9, hm⟩ := oblk hm
      exact Agr.tr (Agr.i (Agr.i (Agr.i (Agr.i Agr.rf 7 v2.toNatClampNeg (S.2.1 106 v2.toNatClampNeg) (by decide)) 8 v2.toNatClampNeg (S.2.1 107 v2.toNatClampNeg) (by decide)) 9 v2.toNatClampNeg (S.2.1 108 v2.toNatClampNeg) (by decide)) 10 v2.toNatClampNeg (S.2.1 109 v2.toNatClampNeg) (by decide)) (ak116 (S.1, (u2 (u2 (u2 (u2 S.2.1 7 v2.toNatClampNeg (S.2.1 106 v2.toNatClampNeg)) 8 v2.toNatClampNeg (S.2.1 107 v2.toNatClampNeg)) 9 v2.toNatClampNeg (S.2.1 108 v2.toNatClampNeg)) 10 v2.toNatClampNeg (S.2.1 109 v2.toNatClampNeg)), S.2.2.1, S.2.2.2) (v2 + 1) _ _ hm)
theorem flX7_copyFrom_1_100_116 (x : XT)  : ∀ (n : Nat) (S : ST) (v2 : Int32) (r : Unit) (S' : ST), lfX7_copyFrom_1_100_116 x  n S v2 = some (r, S') → Agr wX7_copyFrom_1_100 S S'
  | 0, _, _, _, _, hm => by cases hm
  | n + 1, S, v2, r, S', hm => fbX7_copyFrom_1_100_116 x (lfX7_copyFrom_1_100_116 x  n) (flX7_copyFrom_1_100_116 x  n) S v2 r S' hm
set_option maxHeartbeats 4000000 in
set_option maxRecDepth 20000 in
theorem fbX7_copyFrom_1_100_42 (x : XT) (k42 : ST → Int32 → Option (Unit × ST)) (ak42 : ∀ (S : ST) (v2 : Int32) (r : Unit) (S' : ST), k42 S v2 = some (r, S') → Agr wX7_copyFrom_1_100 S S') (S : ST) (v2 : Int32) (r : Unit) (S' : ST) (hm : bfX7_copyFrom_1_100_42 x k42 S v2 = some (r, S')) : Agr wX7_copyFrom_1_100 S S' := by
    unfold bfX7_copyFrom_1_100_42 at hm
    by_cases c1 : 10 ≤ v2
    · rw [if_pos c1] at hm
      exact Agr.tr Agr.rf (flX7_copyFrom_1_100_116 x  20000 S 0 _ _ hm)
    · rw [if_neg c1] at hm
      obtain ⟨o2, hm⟩ := oblk hm
      obtain ⟨o3, hm⟩ := oblk hm
      obtain ⟨o4, hm⟩ := oblk hm
      obtain ⟨o5, hm⟩ := oblk hm
      obtain ⟨o6, hm⟩ := oblk hm
      obtain ⟨o7, hm⟩ := oblk hm
      obtain ⟨o8, hm⟩ := oblk hm
      obtain ⟨o9, hm⟩ := oblk hm
      obtain ⟨o10, hm⟩ := oblk hm
      obtain ⟨o11, hm⟩ := oblk hm
      exact Agr.tr (Agr.i (Agr.i (Agr.i (Agr.i (Agr.i Agr.rf 2 v2.toNatClampNeg (S.2.1 101 v2.toNatClampNeg) (by decide)) 3 v2.toNatClampNeg (S.2.1 102 v2.toNatClampNeg) (by decide)) 4 v2.toNatClampNeg (S.2.1 103 v2.toNatClampNeg) (by decide)) 5 v2.toNatClampNeg (S.2.1 104 v2.toNatClampNeg) (by decide)) 6 v2.toNatClampNeg (vp_nar .boolean (S.2.1 105 v2.toNatClampNeg)) (by decide)) (ak42 (S.1, (u2 (u2 (u2 (u2 (u2 S.2.1 2 v2.toNatClampNeg (S.2.1 101 v2.toNatClampNeg)) 3 v2.toNatClampNeg (S.2.1 102 v2.toNatClampNeg)) 4 v2.toNatClampNeg (S.2.1 103 v2.toNatClampNeg)) 5 v2.toNatClampNeg (S.2.1 104 v2.toNatClampNeg)) 6 v2.toNatClampNeg (vp_nar .boolean (S.2.1 105 v2.toNatClampNeg))), S.2.2.1, S.2.2.2) (v2 + 1) _ _ hm)
theorem flX7_copyFrom_1_100_42 (x : XT)  : ∀ (n : Nat) (S : ST) (v2 : Int32) (r : Unit) (S' : ST), lfX7_copyFrom_1_100_42 x  n S v2 = some (r, S') → Agr wX7_copyFrom_1_100 S S'
  | 0, _, _, _, _, hm => by cases hm
  | n + 1, S, v2, r, S', hm => fbX7_copyFrom_1_100_42 x (lfX7_copyFrom_1_100_42 x  n) (flX7_copyFrom_1_100_42 x  n) S v2 r S' hm
set_option maxHeartbeats 4000000 in
set_option maxRecDepth 20000 in
theorem fbX7_copyFrom_1_100_0 (x : XT)  (S : ST)  (r : Unit) (S' : ST) (hm : bfX7_copyFrom_1_100_0 x  S  = some (r, S')) : Agr wX7_copyFrom_1_100 S S' := by
    unfold bfX7_copyFrom_1_100_0 at hm
    exact Agr.tr (Agr.f (Agr.f (Agr.f (Agr.f (Agr.f Agr.rf 1 0 (S.1 100 0) (by decide)) 1 6 (S.1 100 6) (by decide)) 1 11 (S.1 100 11) (by decide)) 1 16 (S.1 100 16) (by decide)) 1 18 (S.1 100 18) (by decide)) (flX7_copyFrom_1_100_42 x  20000 ((u2 (u2 (u2 (u2 (u2 S.1 1 0 (S.1 100 0)) 1 6 (S.1 100 6)) 1 11 (S.1 100 11)) 1 16 (S.1 100 16)) 1 18 (S.1 100 18)), S.2.1, S.2.2.1, S.2.2.2) 0 _ _ hm)
theorem frX7_copyFrom_1_100 (x : XT) (S : ST)  (r : Unit) (S' : ST) (hm : gfX7_copyFrom_1_100 x S  = some (r, S')) : Agr wX7_copyFrom_1_100 S S' := fbX7_copyFrom_1_100_0 x S  r S' hm
def wX7_copyFrom_1_115 : List (Nat × Nat) × List Nat × List Nat × List Nat := ([(1, 0), (1, 6), (1, 11), (1, 16), (1, 18)], [2, 3, 4, 5, 6, 7, 8, 9, 10, 11, 12, 13, 14], [], [15])
set_option maxHeartbeats 4000000 in
set_option maxRecDepth 20000 in
theorem fbX7_copyFrom_1_115_252 (x : XT) (k252 : ST → Int32 → Option (Unit × ST)) (ak252 : ∀ (S : ST) (v2 : Int32) (r : Unit) (S' : ST), k252 S v2 = some (r, S') → Agr wX7_copyFrom_1_115 S S') (S : ST) (v2 : Int32) (r : Unit) (S' : ST) (hm : bfX7_copyFrom_1_115_252 x k252 S v2 = some (r, S')) : Agr wX7_copyFrom_1_115 S S' := by
    unfold bfX7_copyFrom_1_115_252 at hm
    by_cases c1 : 6 ≤ v2
    · rw [if_pos c1] at hm
      cases hm
      exact Agr.rf
    · rw [if_neg c1] at hm
      obtain ⟨o2, hm⟩ := oblk hm
      obtain ⟨o3, hm⟩ := oblk hm
      obtain ⟨o4, hm⟩ := oblk hm
      exact Agr.tr (Agr.q Agr.rf 15 v2.toNatClampNeg (S.2.2.2 129 v2.toNatClampNeg) (by decide)) (ak252 (S.1, S.2.1, S.2.2.1, (u2 S.2.2.2 15 v2.toNatClampNeg (S.2.2.2 129 v2.toNatClampNeg))) (v2 + 1) _ _ hm)
theorem flX7_copyFrom_1_115_252 (x : XT)  : ∀ (n : Nat) (S : ST) (v2 : Int32) (r : Unit) (S' : ST), lfX7_copyFrom_1_115_252 x  n S v2 = some (r, S') → Agr wX7_copyFrom_1_115 S S'
  | 0, _, _, _, _, hm => by cases hm
  | n + 1, S, v2, r, S', hm => fbX7_copyFrom_1_115_252 x (lfX7_copyFrom_1_115_252 x  n) (flX7_copyFrom_1_115_252 x  n) S v2 r S' hm
set_option maxHeartbeats 4000000 in
set_option maxRecDepth 20000 in
theorem fbX7_copyFrom_1_115_227 (x : XT) (k227 : ST → Int32 → Option (Unit × ST)) (ak227 : ∀ (S : ST) (v2 : Int32) (r : Unit) (S' : ST), k227 S v2 = some (r, S') → Agr wX7_copyFrom_1_115 S S') (S : ST) (v2 : Int32) (r : Unit) (S' : ST) (hm : bfX7_copyFrom_1_115_227 x k227 S v2 = some (r, S')) : Agr wX7_copyFrom_1_115 S S' := by
    unfold bfX7_copyFrom_1_115_227 at hm
    by_cases c1 : 3 ≤ v2
    · rw [if_pos c1] at hm
      exact Agr.tr Agr.rf (flX7_copyFrom_1_115_252 x  20000 S 0 _ _ hm)
    · rw [if_neg c1] at hm
      obtain ⟨o2, hm⟩ := oblk hm
      obtain ⟨o3, hm⟩ := oblk hm
      exact Agr.tr (Agr.i Agr.rf 14 v2.toNatClampNeg (S.2.1 128 v2.toNatClampNeg) (by decide)) (ak227 (S.1, (u2 S.2.1 14 v2.toNatClampNeg (S.2.1 128 v2.toNatClampNeg)), S.2.2.1, S.2.2.2) (v2 + 1) _ _ hm)
theorem flX7_copyFrom_1_115_227 (x : XT)  : ∀ (n : Nat) (S : ST) (v2 : Int32) (r : Unit) (S' : ST), lfX7_copyFrom_1_115_227 x  n S v2 = some (r, S') → Agr wX7_copyFrom_1_115 S S'
  | 0, _, _, _, _, hm => by cases hm
  | n + 1, S, v2, r, S', hm => fbX7_copyFrom_1_115_227 x (lfX7_copyFrom_1_115_227 x  n) (flX7_copyFrom_1_115_227 x  n) S v2 r S' hm
set_option maxHeartbeats 4000000 in
set_option maxRecDepth 20000 in
theorem fbX7_copyFrom_1_115_177 (x : XT) (k177 : ST → Int32 → Option (Unit × ST)) (ak177 : ∀ (S : ST) (v2 : Int32) (r : Unit) (S' : ST), k177 S v2 = some (r, S') → Agr wX7_copyFrom_1_115 S S') (S : ST) (v2 : Int32) (r : Unit) (S' : ST) (hm : bfX7_copyFrom_1_115_177 x k177 S v2 = some (r, S')) : Agr wX7_copyFrom_1_115 S S' := by
    unfold bfX7_copyFrom_1_115_177 at hm
    by_cases c1 : 6 ≤ v2
    · rw [if_pos c1] at hm
      exact Agr.tr Agr.rf (flX7_copyFrom_1_115_227 x  20000 S 0 _ _ hm)
    · rw [if_neg c1] at hm
      obtain ⟨o2, hm⟩ := oblk hm
      obtain ⟨o3, hm⟩ := oblk hm
      obtain ⟨o4, hm⟩ := oblk hm
      obtain ⟨o5, hm⟩ := oblk hm
      obtain ⟨o6, hm⟩ := oblk hm
      obtain ⟨o7, hm⟩ := oblk hm
      exact Agr.tr (Agr.i (Agr.i (Agr.i Agr.rf 11 v2.toNatClampNeg (S.2.1 125 v2.toNatClampNeg) (by decide)) 12 v2.toNatClampNeg (S.2.1 126 v2.toNatClampNeg) (by decide)) 13 v2.toNatClampNeg (S.2.1 127 v2.toNatClampNeg) (by decide)) (ak177 (S.1, (u2 (u2 (u2 S.2.1 11 v2.toNatClampNeg (S.2.1 125 v2.toNatClampNeg)) 12 v2.toNatClampNeg (S.2.1 126 v2.toNatClampNeg)) 13 v2.toNatClampNeg (S.2.1 127 v2.toNatClampNeg)), S.2.2.1, S.2.2.2) (v2 + 1) _ _ hm)
theorem flX7_copyFrom_1_115_177 (x : XT)  : ∀ (n : Nat) (S : ST) (v2 : Int32) (r : Unit) (S' : ST), lfX7_copyFrom_1_115_177 x  n S v2 = some (r, S') → Agr wX7_copyFrom_1_115 S S'
  | 0, _, _, _, _, hm => by cases hm
  | n + 1, S, v2, r, S', hm => fbX7_copyFrom_1_115_177 x (lfX7_copyFrom_1_115_177 x  n) (flX7_copyFrom_1_115_177 x  n) S v2 r S' hm
set_option maxHeartbeats 4000000 in
set_option maxRecDepth 20000 in
theorem fbX7_copyFrom_1_115_116 (x : XT) (k116 : ST → Int32 → Option (Unit × ST)) (ak116 : ∀ (S : ST) (v2 : Int32) (r : Unit) (S' : ST), k116 S v2 = some (r, S') → Agr wX7_copyFrom_1_115 S S') (S : ST) (v2 : Int32) (r : Unit) (S' : ST) (hm : bfX7_copyFrom_1_115_116 x k116 S v2 = some (r, S')) : Agr wX7_copyFrom_1_115 S S' := by
    unfold bfX7_copyFrom_1_115_116 at hm
    by_cases c1 : 5 ≤ v2
    · rw [if_pos c1] at hm
      exact Agr.tr Agr.rf (flX7_copyFrom_1_115_177 x  20000 S 0 _ _ hm)
    · rw [if_neg c1] at hm
      obtain ⟨o2, hm⟩ := oblk hm
      obtain ⟨o3, hm⟩ := oblk hm
      obtain ⟨o4, hm⟩ := oblk hm
      obtain ⟨o5, hm⟩ := oblk hm
      obtain ⟨o6, hm⟩ := oblk hm
      obtain ⟨o7, hm⟩ := oblk hm
      obtain ⟨o8, hm⟩ := oblk hm
      obtain ⟨o9, hm⟩ := oblk hm
      exact Agr.tr (Agr.i (Agr.i (Agr.i (Agr.i Agr.rf 7 v2.toNatClampNeg (S.2.1 121 v2.toNatClampNeg) (by decide)) 8 v2.toNatClampNeg (S.2.1 122 v2.toNatClampNeg) (by decide)) 9 v2.toNatClampNeg (S.2.1 123 v2.toNatClampNeg) (by decide)) 10 v2.toNatClampNeg (S.2.1 124 v2.toNatClampNeg) (by decide)) (ak116 (S.1, (u2 (u2 (u2 (u2 S.2.1 7 v2.toNatClampNeg (S.2.1 121 v2.toNatClampNeg)) 8 v2.toNatClampNeg (S.2.1 122 v2.toNatClampNeg)) 9 v2.toNatClampNeg (S.2.1 123 v2.toNatClampNeg)) 10 v2.toNatClampNeg (S.2.1 124 v2.toNatClampNeg)), S.2.2.1, S.2.2.2) (v2 + 1) _ _ hm)
theorem flX7_copyFrom_1_115_116 (x : XT)  : ∀ (n : Nat) (S : ST) (v2 : Int32) (r : Unit) (S' : ST), lfX7_copyFrom_1_115_116 x  n S v2 = some (r, S') → Agr wX7_copyFrom_1_115 S S'
  | 0, _, _, _, _, hm => by cases hm
  | n + 1, S, v2, r, S', hm => fbX7_copyFrom_1_115_116 x (lfX7_copyFrom_1_115_116 x  n) (flX7_copyFrom_1_115_116 x  n) S v2 r S' hm
set_option maxHeartbeats 4000000 in
set_option maxRecDepth 20000 in
theorem fbX7_copyFrom_1_115_42 (x : XT) (k42 : ST → Int32 → Option (Unit × ST)) (ak42 : ∀ (S : ST) (v2 : Int32) (r : Unit) (S' : ST), k42 S v2 = some (r, S') → Agr wX7_copyFrom_1_115 S S') (S : ST) (v2 : Int32) (r : Unit) (S' : ST) (hm : bfX7_copyFrom_1_115_42 x k42 S v2 = some (r, S')) : Agr wX7_copyFrom_1_115 S S' := by
    unfold bfX7_copyFrom_1_115_42 at hm
    by_cases c1 : 10 ≤ v2
    · rw [if_pos c1] at hm
      exact Agr.tr Agr.rf (flX7_copyFrom_1_115_116 x  20000 S 0 _ _ hm)
    · rw [if_neg c1] at hm
      obtain ⟨o2, hm⟩ := oblk hm
      obtain ⟨o3, hm⟩ := oblk hm
      obtain ⟨o4, hm⟩ := oblk hm
      obtain ⟨o5, hm⟩ := oblk hm
      obtain ⟨o6, hm⟩ := oblk hm
      obtain ⟨o7, hm⟩ := oblk hm
      obtain ⟨o8, hm⟩ := oblk hm
      obtain ⟨o9, hm⟩ := oblk hm
      obtain ⟨o10, hm⟩ := oblk hm
      obtain ⟨o11, hm⟩ := oblk hm
      exact Agr.tr (Agr.i (Agr.i (Agr.i (Agr.i (Agr.i Agr.rf 2 v2.toNatClampNeg (S.2.1 116 v2.toNatClampNeg) (by decide)) 3 v2.toNatClampNeg (S.2.1 117 v2.toNatClampNeg) (by decide)) 4 v2.toNatClampNeg (S.2.1 118 v2.toNatClampNeg) (by decide)) 5 v2.toNatClampNeg (S.2.1 119 v2.toNatClampNeg) (by decide)) 6 v2.toNatClampNeg (vp_nar .boolean (S.2.1 120 v2.toNatClampNeg)) (by decide)) (ak42 (S.1, (u2 (u2 (u2 (u2 (u2 S.2.1 2 v2.toNatClampNeg (S.2.1 116 v2.toNatClampNeg)) 3 v2.toNatClampNeg (S.2.1 117 v2.toNatClampNeg)) 4 v2.toNatClampNeg (S.2.1 118 v2.toNatClampNeg)) 5 v2.toNatClampNeg (S.2.1 119 v2.toNatClampNeg)) 6 v2.toNatClampNeg (vp_nar .boolean (S.2.1 120 v2.toNatClampNeg))), S.2.2.1, S.2.2.2) (v2 + 1) _ _ hm)
theorem flX7_copyFrom_1_115_42 (x : XT)  : ∀ (n : Nat) (S : ST) (v2 : Int32) (r : Unit) (S' : ST), lfX7_copyFrom_1_115_42 x  n S v2 = some (r, S') → Agr wX7_copyFrom_1_115 S S'
  | 0, _, _, _, _, hm => by cases hm
  | n + 1, S, v2, r, S', hm => fbX7_copyFrom_1_115_42 x (lfX7_copyFrom_1_115_42 x  n) (flX7_copyFrom_1_115_42 x  n) S v2 r S' hm
set_option maxHeartbeats 4000000 in
set_option maxRecDepth 20000 in
theorem fbX7_copyFrom_1_115_0 (x : XT)  (S : ST)  (r : Unit) (S' : ST) (hm : bfX7_copyFrom_1_115_0 x  S  = some (r, S')) : Agr wX7_copyFrom_1_115 S S' := by
    unfold bfX7_copyFrom_1_115_0 at hm
    exact Agr.tr (Agr.f (Agr.f (Agr.f (Agr.f (Agr.f Agr.rf 1 0 (S.1 115 0) (by decide)) 1 6 (S.1 115 6) (by decide)) 1 11 (S.1 115 11) (by decide)) 1 16 (S.1 115 16) (by decide)) 1 18 (S.1 115 18) (by decide)) (flX7_copyFrom_1_115_42 x  20000 ((u2 (u2 (u2 (u2 (u2 S.1 1 0 (S.1 115 0)) 1 6 (S.1 115 6)) 1 11 (S.1 115 11)) 1 16 (S.1 115 16)) 1 18 (S.1 115 18)), S.2.1, S.2.2.1, S.2.2.2) 0 _ _ hm)
theorem frX7_copyFrom_1_115 (x : XT) (S : ST)  (r : Unit) (S' : ST) (hm : gfX7_copyFrom_1_115 x S  = some (r, S')) : Agr wX7_copyFrom_1_115 S S' := fbX7_copyFrom_1_115_0 x S  r S' hm
def wX10_back_0 : List (Nat × Nat) × List Nat × List Nat × List Nat := ([(0, 12), (1, 0), (1, 6), (1, 11), (1, 16), (1, 18), (33, 0)], [2, 3, 4, 5, 6, 7, 8, 9, 10, 11, 12, 13, 14, 99], [], [15])
set_option maxHeartbeats 4000000 in
set_option maxRecDepth 20000 in
theorem fbX10_back_0_0 (x : XT)  (S : ST) (p1 : Int32) (r : Int32) (S' : ST) (hm : bfX10_back_0_0 x  S p1 = some (r, S')) : Agr wX10_back_0 S S' := by
    unfold bfX10_back_0_0 at hm
    cases h1 : gfX10_within x S p1 2 with
    | none => rw [h1] at hm; cases hm
    | some q2 =>
      obtain ⟨r3, S4⟩ := q2
      rw [h1] at hm
      dsimp only at hm
      have a_S4 : Agr wX10_back_0 S S4 := Agr.tr Agr.rf (Agr.sub (frX10_within x S p1 2 _ _ h1) (by decide))
      by_cases c5 : ¬ r3 = 0
      · rw [if_pos c5] at hm
        obtain ⟨o6, hm⟩ := oblk hm
        by_cases c7 : ¬ (S4.2.1 17 p1.toNatClampNeg) = 0
        · rw [if_pos c7] at hm
          obtain ⟨o8, hm⟩ := oblk hm
          by_cases c9 : (S4.2.2.2 16 p1.toNatClampNeg) = some 100
          · rw [if_pos c9] at hm
            cases h10 : gfX7_copyFrom_1_100 x S4 with
            | none => rw [h10] at hm; cases hm
            | some q11 =>
              obtain ⟨r12, S13⟩ := q11
              rw [h10] at hm
              dsimp only at hm
              have a_S13 : Agr wX10_back_0 S S13 := Agr.tr a_S4 (Agr.sub (frX7_copyFrom_1_100 x S4 _ _ h10) (by decide))
              cases h14 : gfX10_toldAnew_0 x S13 0 with
              | none => rw [h14] at hm; cases hm
              | some q15 =>
                obtain ⟨r16, S17⟩ := q15
                rw [h14] at hm
                dsimp only at hm
                have a_S17 : Agr wX10_back_0 S S17 := Agr.tr a_S13 (Agr.sub (frX10_toldAnew_0 x S13 0 _ _ h14) (by decide))
                cases hm
                exact a_S17
          rw [if_neg c9] at hm
          by_cases c18 : (S4.2.2.2 16 p1.toNatClampNeg) = some 115
          · rw [if_pos c18] at hm
            cases h19 : gfX7_copyFrom_1_115 x S4 with
            | none => rw [h19] at hm; cases hm
            | some q20 =>
              obtain ⟨r21, S22⟩ := q20
              rw [h19] at hm
              dsimp only at hm
              have a_S22 : Agr wX10_back_0 S S22 := Agr.tr a_S4 (Agr.sub (frX7_copyFrom_1_115 x S4 _ _ h19) (by decide))
              cases h23 : gfX10_toldAnew_0 x S22 0 with
              | none => rw [h23] at hm; cases hm
              | some q24 =>
                obtain ⟨r25, S26⟩ := q24
                rw [h23] at hm
                dsimp only at hm
                have a_S26 : Agr wX10_back_0 S S26 := Agr.tr a_S22 (Agr.sub (frX10_toldAnew_0 x S22 0 _ _ h23) (by decide))
                cases hm
                exact a_S26
          rw [if_neg c18] at hm
          cases hm
        · rw [if_neg c7] at hm
          cases h27 : gfX10_told_0 x S4 (-2) with
          | none => rw [h27] at hm; cases hm
          | some q28 =>
            obtain ⟨r29, S30⟩ := q28
            rw [h27] at hm
            dsimp only at hm
            have a_S30 : Agr wX10_back_0 S S30 := Agr.tr a_S4 (Agr.sub (frX10_told_0 x S4 (-2) _ _ h27) (by decide))
            cases hm
            exact a_S30
      · rw [if_neg c5] at hm
        cases h31 : gfX10_told_0 x S4 (-1) with
        | none => rw [h31] at hm; cases hm
        | some q32 =>
          obtain ⟨r33, S34⟩ := q32
          rw [h31] at hm
          dsimp only at hm
          have a_S34 : Agr wX10_back_0 S S34 := Agr.tr a_S4 (Agr.sub (frX10_told_0 x S4 (-1) _ _ h31) (by decide))
          cases hm
          exact a_S34
theorem frX10_back_0 (x : XT) (S : ST) (p1 : Int32) (r : Int32) (S' : ST) (hm : gfX10_back_0 x S p1 = some (r, S')) : Agr wX10_back_0 S S' := fbX10_back_0_0 x S p1 r S' hm
def wX7_allMany_1 : List (Nat × Nat) × List Nat × List Nat × List Nat := ([], [], [], [])
set_option maxHeartbeats 4000000 in
set_option maxRecDepth 20000 in
theorem fbX7_allMany_1_4 (x : XT) (k4 : ST → Int32 → Int32 → Option (Int32 × ST)) (ak4 : ∀ (S : ST) (v1 : Int32) (v2 : Int32) (r : Int32) (S' : ST), k4 S v1 v2 = some (r, S') → Agr wX7_allMany_1 S S') (S : ST) (v1 : Int32) (v2 : Int32) (r : Int32) (S' : ST) (hm : bfX7_allMany_1_4 x k4 S v1 v2 = some (r, S')) : Agr wX7_allMany_1 S S' := by
    unfold bfX7_allMany_1_4 at hm
    by_cases c1 : (S.1 1 6) ≤ v2
    · rw [if_pos c1] at hm
      cases hm
      exact Agr.rf
    · rw [if_neg c1] at hm
      obtain ⟨o2, hm⟩ := oblk hm
      exact Agr.tr Agr.rf (ak4 S (v1 + (S.2.1 8 v2.toNatClampNeg)) (v2 + 1) _ _ hm)
theorem flX7_allMany_1_4 (x : XT)  : ∀ (n : Nat) (S : ST) (v1 : Int32) (v2 : Int32) (r : Int32) (S' : ST), lfX7_allMany_1_4 x  n S v1 v2 = some (r, S') → Agr wX7_allMany_1 S S'
  | 0, _, _, _, _, _, hm => by cases hm
  | n + 1, S, v1, v2, r, S', hm => fbX7_allMany_1_4 x (lfX7_allMany_1_4 x  n) (flX7_allMany_1_4 x  n) S v1 v2 r S' hm
set_option maxHeartbeats 4000000 in
set_option maxRecDepth 20000 in
theorem fbX7_allMany_1_0 (x : XT)  (S : ST)  (r : Int32) (S' : ST) (hm : bfX7_allMany_1_0 x  S  = some (r, S')) : Agr wX7_allMany_1 S S' := by
    unfold bfX7_allMany_1_0 at hm
    exact Agr.tr Agr.rf (flX7_allMany_1_4 x  20000 S 0 0 _ _ hm)
theorem frX7_allMany_1 (x : XT) (S : ST)  (r : Int32) (S' : ST) (hm : gfX7_allMany_1 x S  = some (r, S')) : Agr wX7_allMany_1 S S' := fbX7_allMany_1_0 x S  r S' hm
def wX10_count_0 : List (Nat × Nat) × List Nat × List Nat × List Nat := ([], [], [], [])
set_option maxHeartbeats 4000000 in
set_option maxRecDepth 20000 in
theorem fbX10_count_0_0 (x : XT)  (S : ST) (p1 : Int32) (r : Int32) (S' : ST) (hm : bfX10_count_0_0 x  S p1 = some (r, S')) : Agr wX10_count_0 S S' := by
    unfold bfX10_count_0_0 at hm
    by_cases c1 : p1 = 0
    · rw [if_pos c1] at hm
      cases hm
      exact Agr.rf
    rw [if_neg c1] at hm
    by_cases c2 : p1 = 1
    · rw [if_pos c2] at hm
      cases hm
      exact Agr.rf
    rw [if_neg c2] at hm
    by_cases c3 : p1 = 2
    · rw [if_pos c3] at hm
      cases h4 : gfX7_allMany_1 x S with
      | none => rw [h4] at hm; cases hm
      | some q5 =>
        obtain ⟨r6, S7⟩ := q5
        rw [h4] at hm
        dsimp only at hm
        have a_S7 : Agr wX10_count_0 S S7 := Agr.tr Agr.rf (Agr.sub (frX7_allMany_1 x S _ _ h4) (by decide))
        cases hm
        exact a_S7
    rw [if_neg c3] at hm
    by_cases c8 : p1 = 3
    · rw [if_pos c8] at hm
      cases hm
      exact Agr.rf
    rw [if_neg c8] at hm
    by_cases c9 : p1 = 4
    · rw [if_pos c9] at hm
      cases hm
      exact Agr.rf
    rw [if_neg c9] at hm
    by_cases c10 : p1 = 5
    · rw [if_pos c10] at hm
      cases hm
      exact Agr.rf
    rw [if_neg c10] at hm
    by_cases c11 : p1 = 6
    · rw [if_pos c11] at hm
      cases hm
      exact Agr.rf
    rw [if_neg c11] at hm
    by_cases c12 : p1 = 7
    · rw [if_pos c12] at hm
      cases hm
      exact Agr.rf
    rw [if_neg c12] at hm
    by_cases c13 : p1 = 8
    · rw [if_pos c13] at hm
      cases hm
      exact Agr.rf
    rw [if_neg c13] at hm
    by_cases c14 : p1 = 9
    · rw [if_pos c14] at hm
      cases hm
      exact Agr.rf
    rw [if_neg c14] at hm
    by_cases c15 : p1 = 10
    · rw [if_pos c15] at hm
      cases hm
      exact Agr.rf
    rw [if_neg c15] at hm
    by_cases c16 : p1 = 11
    · rw [if_pos c16] at hm
      cases hm
      exact Agr.rf
    rw [if_neg c16] at hm
    by_cases c17 : p1 = 12
    · rw [if_pos c17] at hm
      cases hm
      exact Agr.rf
    rw [if_neg c17] at hm
    by_cases c18 : p1 = 13
    · rw [if_pos c18] at hm
      cases hm
      exact Agr.rf
    rw [if_neg c18] at hm
    by_cases c19 : p1 = 14
    · rw [if_pos c19] at hm
      cases hm
      exact Agr.rf
    rw [if_neg c19] at hm
    by_cases c20 : p1 = 15
    · rw [if_pos c20] at hm
      cases hm
      exact Agr.rf
    rw [if_neg c20] at hm
    cases hm
    exact Agr.rf
theorem frX10_count_0 (x : XT) (S : ST) (p1 : Int32) (r : Int32) (S' : ST) (hm : gfX10_count_0 x S p1 = some (r, S')) : Agr wX10_count_0 S S' := fbX10_count_0_0 x S p1 r S' hm
def wX10_status_0 : List (Nat × Nat) × List Nat × List Nat × List Nat := ([], [], [], [])
set_option maxHeartbeats 4000000 in
set_option maxRecDepth 20000 in
theorem fbX10_status_0_0 (x : XT)  (S : ST)  (r : Int32) (S' : ST) (hm : bfX10_status_0_0 x  S  = some (r, S')) : Agr wX10_status_0 S S' := by
    unfold bfX10_status_0_0 at hm
    cases hm
    exact Agr.rf
theorem frX10_status_0 (x : XT) (S : ST)  (r : Int32) (S' : ST) (hm : gfX10_status_0 x S  = some (r, S')) : Agr wX10_status_0 S S' := fbX10_status_0_0 x S  r S' hm
def wX11_lies : List (Nat × Nat) × List Nat × List Nat × List Nat := ([], [], [], [])
set_option maxHeartbeats 4000000 in
set_option maxRecDepth 20000 in
theorem fbX11_lies_15 (x : XT)  (S : ST) (t0 : Int32) (r : Int32) (S' : ST) (hm : bfX11_lies_15 x  S t0 = some (r, S')) : Agr wX11_lies S S' := by
    unfold bfX11_lies_15 at hm
    obtain ⟨o1, hm⟩ := oblk hm
    cases hm
    exact Agr.rf
set_option maxHeartbeats 4000000 in
set_option maxRecDepth 20000 in
theorem fbX11_lies_14 (x : XT)  (S : ST)  (r : Int32) (S' : ST) (hm : bfX11_lies_14 x  S  = some (r, S')) : Agr wX11_lies S S' := by
    unfold bfX11_lies_14 at hm
    exact Agr.tr Agr.rf (fbX11_lies_15 x  S 0 _ _ hm)
set_option maxHeartbeats 4000000 in
set_option maxRecDepth 20000 in
theorem fbX11_lies_0 (x : XT)  (S : ST) (p0 : Int32) (p1 : Int32) (p2 : Int32) (r : Int32) (S' : ST) (hm : bfX11_lies_0 x  S p0 p1 p2 = some (r, S')) : Agr wX11_lies S S' := by
    unfold bfX11_lies_0 at hm
    by_cases c1 : p0 < p1
    · rw [if_pos c1] at hm
      exact Agr.tr Agr.rf (fbX11_lies_14 x  S _ _ hm)
    · rw [if_neg c1] at hm
      by_cases c2 : p2 < p0
      · rw [if_pos c2] at hm
        exact Agr.tr Agr.rf (fbX11_lies_14 x  S _ _ hm)
      · rw [if_neg c2] at hm
        exact Agr.tr Agr.rf (fbX11_lies_15 x  S 1 _ _ hm)
theorem frX11_lies (x : XT) (S : ST) (p0 : Int32) (p1 : Int32) (p2 : Int32) (r : Int32) (S' : ST) (hm : gfX11_lies x S p0 p1 p2 = some (r, S')) : Agr wX11_lies S S' := fbX11_lies_0 x S p0 p1 p2 r S' hm
def wX11_lesser : List (Nat × Nat) × List Nat × List Nat × List Nat := ([], [], [], [])
set_option maxHeartbeats 4000000 in
set_option maxRecDepth 20000 in
theorem fbX11_lesser_10 (x : XT)  (S : ST) (t0 : Int32) (r : Int32) (S' : ST) (hm : bfX11_lesser_10 x  S t0 = some (r, S')) : Agr wX11_lesser S S' := by
    unfold bfX11_lesser_10 at hm
    cases hm
    exact Agr.rf
set_option maxHeartbeats 4000000 in
set_option maxRecDepth 20000 in
theorem fbX11_lesser_0 (x : XT)  (S : ST) (p0 : Int32) (p1 : Int32) (r : Int32) (S' : ST) (hm : bfX11_lesser_0 x  S p0 p1 = some (r, S')) : Agr wX11_lesser S S' := by
    unfold bfX11_lesser_0 at hm
    by_cases c1 : p1 ≤ p0
    · rw [if_pos c1] at hm
      exact Agr.tr Agr.rf (fbX11_lesser_10 x  S p1 _ _ hm)
    · rw [if_neg c1] at hm
      exact Agr.tr Agr.rf (fbX11_lesser_10 x  S p0 _ _ hm)
theorem frX11_lesser (x : XT) (S : ST) (p0 : Int32) (p1 : Int32) (r : Int32) (S' : ST) (hm : gfX11_lesser x S p0 p1 = some (r, S')) : Agr wX11_lesser S S' := fbX11_lesser_0 x S p0 p1 r S' hm
def wX11_greater : List (Nat × Nat) × List Nat × List Nat × List Nat := ([], [], [], [])
set_option maxHeartbeats 4000000 in
set_option maxRecDepth 20000 in
theorem fbX11_greater_10 (x : XT)  (S : ST) (t0 : Int32) (r : Int32) (S' : ST) (hm : bfX11_greater_10 x  S t0 = some (r, S')) : Agr wX11_greater S S' := by
    unfold bfX11_greater_10 at hm
    cases hm
    exact Agr.rf
set_option maxHeartbeats 4000000 in
set_option maxRecDepth 20000 in
theorem fbX11_greater_0 (x : XT)  (S : ST) (p0 : Int32) (p1 : Int32) (r : Int32) (S' : ST) (hm : bfX11_greater_0 x  S p0 p1 = some (r, S')) : Agr wX11_greater S S' := by
    unfold bfX11_greater_0 at hm
    by_cases c1 : p0 ≤ p1
    · rw [if_pos c1] at hm
      exact Agr.tr Agr.rf (fbX11_greater_10 x  S p1 _ _ hm)
    · rw [if_neg c1] at hm
      exact Agr.tr Agr.rf (fbX11_greater_10 x  S p0 _ _ hm)
theorem frX11_greater (x : XT) (S : ST) (p0 : Int32) (p1 : Int32) (r : Int32) (S' : ST) (hm : gfX11_greater x S p0 p1 = some (r, S')) : Agr wX11_greater S S' := fbX11_greater_0 x S p0 p1 r S' hm
def wX11_refuses_130 : List (Nat × Nat) × List Nat × List Nat × List Nat := ([(130, 0)], [131], [], [])
set_option maxHeartbeats 4000000 in
set_option maxRecDepth 20000 in
theorem fbX11_refuses_130_0 (x : XT)  (S : ST) (p1 : Int32) (r : Int32) (S' : ST) (hm : bfX11_refuses_130_0 x  S p1 = some (r, S')) : Agr wX11_refuses_130 S S' := by
    unfold bfX11_refuses_130_0 at hm
    obtain ⟨o1, hm⟩ := oblk hm
    obtain ⟨o2, hm⟩ := oblk hm
    cases hm
    exact (Agr.i (Agr.f Agr.rf 130 0 p1 (by decide)) 131 ((-p1).toNatClampNeg) ((S.2.1 131 ((-p1).toNatClampNeg)) + 1) (by decide))
theorem frX11_refuses_130 (x : XT) (S : ST) (p1 : Int32) (r : Int32) (S' : ST) (hm : gfX11_refuses_130 x S p1 = some (r, S')) : Agr wX11_refuses_130 S S' := fbX11_refuses_130_0 x S p1 r S' hm
def wX11_good_130 : List (Nat × Nat) × List Nat × List Nat × List Nat := ([(130, 0)], [], [], [])
set_option maxHeartbeats 4000000 in
set_option maxRecDepth 20000 in
theorem fbX11_good_130_0 (x : XT)  (S : ST) (p1 : Int32) (r : Int32) (S' : ST) (hm : bfX11_good_130_0 x  S p1 = some (r, S')) : Agr wX11_good_130 S S' := by
    unfold bfX11_good_130_0 at hm
    cases hm
    exact (Agr.f Agr.rf 130 0 0 (by decide))
theorem frX11_good_130 (x : XT) (S : ST) (p1 : Int32) (r : Int32) (S' : ST) (hm : gfX11_good_130 x S p1 = some (r, S')) : Agr wX11_good_130 S S' := fbX11_good_130_0 x S p1 r S' hm
def wX11_settled_130 : List (Nat × Nat) × List Nat × List Nat × List Nat := ([(130, 0), (130, 31)], [], [], [])
set_option maxHeartbeats 4000000 in
set_option maxRecDepth 20000 in
theorem fbX11_settled_130_0 (x : XT)  (S : ST) (p1 : Int32) (r : Int32) (S' : ST) (hm : bfX11_settled_130_0 x  S p1 = some (r, S')) : Agr wX11_settled_130 S S' := by
    unfold bfX11_settled_130_0 at hm
    cases h1 : gfX11_good_130 x ((u2 S.1 130 31 0), S.2.1, S.2.2.1, S.2.2.2) p1 with
    | none => rw [h1] at hm; cases hm
    | some q2 =>
      obtain ⟨r3, S4⟩ := q2
      rw [h1] at hm
      dsimp only at hm
      have a_S4 : Agr wX11_settled_130 S S4 := Agr.tr (Agr.f Agr.rf 130 31 0 (by decide)) (Agr.sub (frX11_good_130 x ((u2 S.1 130 31 0), S.2.1, S.2.2.1, S.2.2.2) p1 _ _ h1) (by decide))
      cases hm
      exact a_S4
theorem frX11_settled_130 (x : XT) (S : ST) (p1 : Int32) (r : Int32) (S' : ST) (hm : gfX11_settled_130 x S p1 = some (r, S')) : Agr wX11_settled_130 S S' := fbX11_settled_130_0 x S p1 r S' hm
def wX11_isIn : List (Nat × Nat) × List Nat × List Nat × List Nat := ([], [], [], [])
set_option maxHeartbeats 4000000 in
set_option maxRecDepth 20000 in
theorem fbX11_isIn_14 (x : XT)  (S : ST) (t0 : Int32) (r : Int32) (S' : ST) (hm : bfX11_isIn_14 x  S t0 = some (r, S')) : Agr wX11_isIn S S' := by
    unfold bfX11_isIn_14 at hm
    obtain ⟨o1, hm⟩ := oblk hm
    cases hm
    exact Agr.rf
set_option maxHeartbeats 4000000 in
set_option maxRecDepth 20000 in
theorem fbX11_isIn_0 (x : XT)  (S : ST) (p0 : Int32) (p1 : Int32) (r : Int32) (S' : ST) (hm : bfX11_isIn_0 x  S p0 p1 = some (r, S')) : Agr wX11_isIn S S' := by
    unfold bfX11_isIn_0 at hm
    by_cases c1 : ¬ ((p0 >>> (p1 &&& 31)) &&& 1) = 1
    · rw [if_pos c1] at hm
      exact Agr.tr Agr.rf (fbX11_isIn_14 x  S 0 _ _ hm)
    · rw [if_neg c1] at hm
      exact Agr.tr Agr.rf (fbX11_isIn_14 x  S 1 _ _ hm)
theorem frX11_isIn (x : XT) (S : ST) (p0 : Int32) (p1 : Int32) (r : Int32) (S' : ST) (hm : gfX11_isIn x S p0 p1 = some (r, S')) : Agr wX11_isIn S S' := fbX11_isIn_0 x S p0 p1 r S' hm
def wX11_ones : List (Nat × Nat) × List Nat × List Nat × List Nat := ([], [], [], [])
set_option maxHeartbeats 4000000 in
set_option maxRecDepth 20000 in
theorem fbX11_ones_4 (x : XT) (k4 : ST → Int32 → Int32 → Int32 → Option (Int32 × ST)) (ak4 : ∀ (S : ST) (v0 : Int32) (v1 : Int32) (v2 : Int32) (r : Int32) (S' : ST), k4 S v0 v1 v2 = some (r, S') → Agr wX11_ones S S') (S : ST) (v0 : Int32) (v1 : Int32) (v2 : Int32) (r : Int32) (S' : ST) (hm : bfX11_ones_4 x k4 S v0 v1 v2 = some (r, S')) : Agr wX11_ones S S' := by
    unfold bfX11_ones_4 at hm
    by_cases c1 : 10 ≤ v2
    · rw [if_pos c1] at hm
      cases hm
      exact Agr.rf
    · rw [if_neg c1] at hm
      exact Agr.tr Agr.rf (ak4 S v0 (v1 + ((v0 >>> (v2 &&& 31)) &&& 1)) (v2 + 1) _ _ hm)
theorem flX11_ones_4 (x : XT)  : ∀ (n : Nat) (S : ST) (v0 : Int32) (v1 : Int32) (v2 : Int32) (r : Int32) (S' : ST), lfX11_ones_4 x  n S v0 v1 v2 = some (r, S') → Agr wX11_ones S S'
  | 0, _, _, _, _, _, _, hm => by cases hm
  | n + 1, S, v0, v1, v2, r, S', hm => fbX11_ones_4 x (lfX11_ones_4 x  n) (flX11_ones_4 x  n) S v0 v1 v2 r S' hm
set_option maxHeartbeats 4000000 in
set_option maxRecDepth 20000 in
theorem fbX11_ones_0 (x : XT)  (S : ST) (p0 : Int32) (r : Int32) (S' : ST) (hm : bfX11_ones_0 x  S p0 = some (r, S')) : Agr wX11_ones S S' := by
    unfold bfX11_ones_0 at hm
    exact Agr.tr Agr.rf (flX11_ones_4 x  20000 S p0 0 0 _ _ hm)
theorem frX11_ones (x : XT) (S : ST) (p0 : Int32) (r : Int32) (S' : ST) (hm : gfX11_ones x S p0 = some (r, S')) : Agr wX11_ones S S' := fbX11_ones_0 x S p0 r S' hm
def wX11_isPark : List (Nat × Nat) × List Nat × List Nat × List Nat := ([], [], [], [])
set_option maxHeartbeats 4000000 in
set_option maxRecDepth 20000 in
theorem fbX11_isPark_0 (x : XT)  (S : ST) (p0 : Int32) (r : Int32) (S' : ST) (hm : bfX11_isPark_0 x  S p0 = some (r, S')) : Agr wX11_isPark S S' := by
    unfold bfX11_isPark_0 at hm
    cases h1 : gfX11_lies x S p0 0 5 with
    | none => rw [h1] at hm; cases hm
    | some q2 =>
      obtain ⟨r3, S4⟩ := q2
      rw [h1] at hm
      dsimp only at hm
      have a_S4 : Agr wX11_isPark S S4 := Agr.tr Agr.rf (Agr.sub (frX11_lies x S p0 0 5 _ _ h1) (by decide))
      obtain ⟨o5, hm⟩ := oblk hm
      cases hm
      exact a_S4
theorem frX11_isPark (x : XT) (S : ST) (p0 : Int32) (r : Int32) (S' : ST) (hm : gfX11_isPark x S p0 = some (r, S')) : Agr wX11_isPark S S' := fbX11_isPark_0 x S p0 r S' hm
def wX11_isMany : List (Nat × Nat) × List Nat × List Nat × List Nat := ([], [], [], [])
set_option maxHeartbeats 4000000 in
set_option maxRecDepth 20000 in
theorem fbX11_isMany_0 (x : XT)  (S : ST) (p0 : Int32) (r : Int32) (S' : ST) (hm : bfX11_isMany_0 x  S p0 = some (r, S')) : Agr wX11_isMany S S' := by
    unfold bfX11_isMany_0 at hm
    cases h1 : gfX11_lies x S p0 0 19 with
    | none => rw [h1] at hm; cases hm
    | some q2 =>
      obtain ⟨r3, S4⟩ := q2
      rw [h1] at hm
      dsimp only at hm
      have a_S4 : Agr wX11_isMany S S4 := Agr.tr Agr.rf (Agr.sub (frX11_lies x S p0 0 19 _ _ h1) (by decide))
      obtain ⟨o5, hm⟩ := oblk hm
      cases hm
      exact a_S4
theorem frX11_isMany (x : XT) (S : ST) (p0 : Int32) (r : Int32) (S' : ST) (hm : gfX11_isMany x S p0 = some (r, S')) : Agr wX11_isMany S S' := fbX11_isMany_0 x S p0 r S' hm
def wX11_isArm : List (Nat × Nat) × List Nat × List Nat × List Nat := ([], [], [], [])
set_option maxHeartbeats 4000000 in
set_option maxRecDepth 20000 in
theorem fbX11_isArm_0 (x : XT)  (S : ST) (p0 : Int32) (r : Int32) (S' : ST) (hm : bfX11_isArm_0 x  S p0 = some (r, S')) : Agr wX11_isArm S S' := by
    unfold bfX11_isArm_0 at hm
    cases h1 : gfX11_lies x S p0 0 9 with
    | none => rw [h1] at hm; cases hm
    | some q2 =>
      obtain ⟨r3, S4⟩ := q2
      rw [h1] at hm
      dsimp only at hm
      have a_S4 : Agr wX11_isArm S S4 := Agr.tr Agr.rf (Agr.sub (frX11_lies x S p0 0 9 _ _ h1) (by decide))
      obtain ⟨o5, hm⟩ := oblk hm
      cases hm
      exact a_S4
theorem frX11_isArm (x : XT) (S : ST) (p0 : Int32) (r : Int32) (S' : ST) (hm : gfX11_isArm x S p0 = some (r, S')) : Agr wX11_isArm S S' := fbX11_isArm_0 x S p0 r S' hm
def wX11_laysAside_130 : List (Nat × Nat) × List Nat × List Nat × List Nat := ([], [135], [], [])
set_option maxHeartbeats 4000000 in
set_option maxRecDepth 20000 in
theorem fbX11_laysAside_130_2 (x : XT) (k2 : ST → Int32 → Int32 → Option (Unit × ST)) (ak2 : ∀ (S : ST) (v1 : Int32) (v2 : Int32) (r : Unit) (S' : ST), k2 S v1 v2 = some (r, S') → Agr wX11_laysAside_130 S S') (S : ST) (v1 : Int32) (v2 : Int32) (r : Unit) (S' : ST) (hm : bfX11_laysAside_130_2 x k2 S v1 v2 = some (r, S')) : Agr wX11_laysAside_130 S S' := by
    unfold bfX11_laysAside_130_2 at hm
    by_cases c1 : 36 ≤ v2
    · rw [if_pos c1] at hm
      cases hm
      exact Agr.rf
    · rw [if_neg c1] at hm
      obtain ⟨o2, hm⟩ := oblk hm
      obtain ⟨o3, hm⟩ := oblk hm
      exact Agr.tr (Agr.i Agr.rf 135 (((36 * v1) + v2).toNatClampNeg) (S.2.1 132 v2.toNatClampNeg) (by decide)) (ak2 (S.1, (u2 S.2.1 135 (((36 * v1) + v2).toNatClampNeg) (S.2.1 132 v2.toNatClampNeg)), S.2.2.1, S.2.2.2) v1 (v2 + 1) _ _ hm)
theorem flX11_laysAside_130_2 (x : XT)  : ∀ (n : Nat) (S : ST) (v1 : Int32) (v2 : Int32) (r : Unit) (S' : ST), lfX11_laysAside_130_2 x  n S v1 v2 = some (r, S') → Agr wX11_laysAside_130 S S'
  | 0, _, _, _, _, _, hm => by cases hm
  | n + 1, S, v1, v2, r, S', hm => fbX11_laysAside_130_2 x (lfX11_laysAside_130_2 x  n) (flX11_laysAside_130_2 x  n) S v1 v2 r S' hm
set_option maxHeartbeats 4000000 in
set_option maxRecDepth 20000 in
theorem fbX11_laysAside_130_0 (x : XT)  (S : ST) (p1 : Int32) (r : Unit) (S' : ST) (hm : bfX11_laysAside_130_0 x  S p1 = some (r, S')) : Agr wX11_laysAside_130 S S' := by
    unfold bfX11_laysAside_130_0 at hm
    exact Agr.tr Agr.rf (flX11_laysAside_130_2 x  20000 S p1 0 _ _ hm)
theorem frX11_laysAside_130 (x : XT) (S : ST) (p1 : Int32) (r : Unit) (S' : ST) (hm : gfX11_laysAside_130 x S p1 = some (r, S')) : Agr wX11_laysAside_130 S S' := fbX11_laysAside_130_0 x S p1 r S' hm
def wX11_takesBack_130 : List (Nat × Nat) × List Nat × List Nat × List Nat := ([], [132], [], [])
set_option maxHeartbeats 4000000 in
set_option maxRecDepth 20000 in
theorem fbX11_takesBack_130_2 (x : XT) (k2 : ST → Int32 → Int32 → Option (Unit × ST)) (ak2 : ∀ (S : ST) (v1 : Int32) (v2 : Int32) (r : Unit) (S' : ST), k2 S v1 v2 = some (r, S') → Agr wX11_takesBack_130 S S') (S : ST) (v1 : Int32) (v2 : Int32) (r : Unit) (S' : ST) (hm : bfX11_takesBack_130_2 x k2 S v1 v2 = some (r, S')) : Agr wX11_takesBack_130 S S' := by
    unfold bfX11_takesBack_130_2 at hm
    by_cases c1 : 36 ≤ v2
    · rw [if_pos c1] at hm
      cases hm
      exact Agr.rf
    · rw [if_neg c1] at hm
      obtain ⟨o2, hm⟩ := oblk hm
      obtain ⟨o3, hm⟩ := oblk hm
      exact Agr.tr (Agr.i Agr.rf 132 v2.toNatClampNeg (S.2.1 135 (((36 * v1) + v2).toNatClampNeg)) (by decide)) (ak2 (S.1, (u2 S.2.1 132 v2.toNatClampNeg (S.2.1 135 (((36 * v1) + v2).toNatClampNeg))), S.2.2.1, S.2.2.2) v1 (v2 + 1) _ _ hm)
theorem flX11_takesBack_130_2 (x : XT)  : ∀ (n : Nat) (S : ST) (v1 : Int32) (v2 : Int32) (r : Unit) (S' : ST), lfX11_takesBack_130_2 x  n S v1 v2 = some (r, S') → Agr wX11_takesBack_130 S S'
  | 0, _, _, _, _, _, hm => by cases hm
  | n + 1, S, v1, v2, r, S', hm => fbX11_takesBack_130_2 x (lfX11_takesBack_130_2 x  n) (flX11_takesBack_130_2 x  n) S v1 v2 r S' hm
set_option maxHeartbeats 4000000 in
set_option maxRecDepth 20000 in
theorem fbX11_takesBack_130_0 (x : XT)  (S : ST) (p1 : Int32) (r : Unit) (S' : ST) (hm : bfX11_takesBack_130_0 x  S p1 = some (r, S')) : Agr wX11_takesBack_130 S S' := by
    unfold bfX11_takesBack_130_0 at hm
    exact Agr.tr Agr.rf (flX11_takesBack_130_2 x  20000 S p1 0 _ _ hm)
theorem frX11_takesBack_130 (x : XT) (S : ST) (p1 : Int32) (r : Unit) (S' : ST) (hm : gfX11_takesBack_130 x S p1 = some (r, S')) : Agr wX11_takesBack_130 S S' := fbX11_takesBack_130_0 x S p1 r S' hm
def wX11_image_130 : List (Nat × Nat) × List Nat × List Nat × List Nat := ([(130, 0)], [131, 133, 134], [], [])
set_option maxHeartbeats 4000000 in
set_option maxRecDepth 20000 in
theorem fbX11_image_130_17 (x : XT) (k17 : ST → Int32 → Int32 → Option (Int32 × ST)) (ak17 : ∀ (S : ST) (v1 : Int32) (v2 : Int32) (r : Int32) (S' : ST), k17 S v1 v2 = some (r, S') → Agr wX11_image_130 S S') (S : ST) (v1 : Int32) (v2 : Int32) (r : Int32) (S' : ST) (hm : bfX11_image_130_17 x k17 S v1 v2 = some (r, S')) : Agr wX11_image_130 S S' := by
    unfold bfX11_image_130_17 at hm
    by_cases c1 : 5703 ≤ v2
    · rw [if_pos c1] at hm
      obtain ⟨o2, hm⟩ := oblk hm
      cases h3 : gfX11_good_130 x (S.1, (u2 S.2.1 134 v1.toNatClampNeg (vp_nar .boolean 1)), S.2.2.1, S.2.2.2) 0 with
      | none => rw [h3] at hm; cases hm
      | some q4 =>
        obtain ⟨r5, S6⟩ := q4
        rw [h3] at hm
        dsimp only at hm
        have a_S6 : Agr wX11_image_130 S S6 := Agr.tr (Agr.i Agr.rf 134 v1.toNatClampNeg (vp_nar .boolean 1) (by decide)) (Agr.sub (frX11_good_130 x (S.1, (u2 S.2.1 134 v1.toNatClampNeg (vp_nar .boolean 1)), S.2.2.1, S.2.2.2) 0 _ _ h3) (by decide))
        cases hm
        exact a_S6
    · rw [if_neg c1] at hm
      obtain ⟨o7, hm⟩ := oblk hm
      obtain ⟨o8, hm⟩ := oblk hm
      exact Agr.tr (Agr.i Agr.rf 133 (((5703 * v1) + v2).toNatClampNeg) (S.2.1 132 v2.toNatClampNeg) (by decide)) (ak17 (S.1, (u2 S.2.1 133 (((5703 * v1) + v2).toNatClampNeg) (S.2.1 132 v2.toNatClampNeg)), S.2.2.1, S.2.2.2) v1 (v2 + 1) _ _ hm)
theorem flX11_image_130_17 (x : XT)  : ∀ (n : Nat) (S : ST) (v1 : Int32) (v2 : Int32) (r : Int32) (S' : ST), lfX11_image_130_17 x  n S v1 v2 = some (r, S') → Agr wX11_image_130 S S'
  | 0, _, _, _, _, _, hm => by cases hm
  | n + 1, S, v1, v2, r, S', hm => fbX11_image_130_17 x (lfX11_image_130_17 x  n) (flX11_image_130_17 x  n) S v1 v2 r S' hm
set_option maxHeartbeats 4000000 in
set_option maxRecDepth 20000 in
theorem fbX11_image_130_0 (x : XT)  (S : ST) (p1 : Int32) (r : Int32) (S' : ST) (hm : bfX11_image_130_0 x  S p1 = some (r, S')) : Agr wX11_image_130 S S' := by
    unfold bfX11_image_130_0 at hm
    cases h1 : gfX11_lies x S p1 0 1 with
    | none => rw [h1] at hm; cases hm
    | some q2 =>
      obtain ⟨r3, S4⟩ := q2
      rw [h1] at hm
      dsimp only at hm
      have a_S4 : Agr wX11_image_130 S S4 := Agr.tr Agr.rf (Agr.sub (frX11_lies x S p1 0 1 _ _ h1) (by decide))
      by_cases c5 : ¬ r3 = 0
      · rw [if_pos c5] at hm
        exact Agr.tr a_S4 (flX11_image_130_17 x  20000 S4 p1 0 _ _ hm)
      · rw [if_neg c5] at hm
        cases h6 : gfX11_refuses_130 x S4 (-1) with
        | none => rw [h6] at hm; cases hm
        | some q7 =>
          obtain ⟨r8, S9⟩ := q7
          rw [h6] at hm
          dsimp only at hm
          have a_S9 : Agr wX11_image_130 S S9 := Agr.tr a_S4 (Agr.sub (frX11_refuses_130 x S4 (-1) _ _ h6) (by decide))
          cases hm
          exact a_S9
theorem frX11_image_130 (x : XT) (S : ST) (p1 : Int32) (r : Int32) (S' : ST) (hm : gfX11_image_130 x S p1 = some (r, S')) : Agr wX11_image_130 S S' := fbX11_image_130_0 x S p1 r S' hm
end FRA
