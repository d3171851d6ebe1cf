section FRA
def wX11_seen_130 : List (Nat × Nat) × List Nat × List Nat × List Nat := ([(130, 0)], [131, 132], [], [])
set_option maxHeartbeats 4000000 in
set_option maxRecDepth 20000 in
theorem fbX11_seen_130_21 (x : XT)  (S : ST)  (r : Int32) (S' : ST) (hm : bfX11_seen_130_21 x  S  = some (r, S')) : Agr wX11_seen_130 S S' := by
    unfold bfX11_seen_130_21 at hm
    cases h1 : gfX11_refuses_130 x S (-1) with
    | none => rw [h1] at hm; cases hm
    | some q2 =>
      obtain ⟨r3, S4⟩ := q2
      rw [h1] at hm
      dsimp only at hm
      have a_S4 : Agr wX11_seen_130 S S4 := Agr.tr Agr.rf (Agr.sub (frX11_refuses_130 x S (-1) _ _ h1) (by decide))
      cases hm
      exact a_S4
set_option maxHeartbeats 4000000 in
set_option maxRecDepth 20000 in
theorem fbX11_seen_130_0 (x : XT)  (S : ST) (p1 : Int32) (p2 : Int32) (p3 : Int32) (r : Int32) (S' : ST) (hm : bfX11_seen_130_0 x  S p1 p2 p3 = some (r, S')) : Agr wX11_seen_130 S S' := by
    unfold bfX11_seen_130_0 at hm
    cases h1 : gfX11_isArm x S p1 with
    | none => rw [h1] at hm; cases hm
    | some q2 =>
      obtain ⟨r3, S4⟩ := q2
      rw [h1] at hm
      dsimp only at hm
      have a_S4 : Agr wX11_seen_130 S S4 := Agr.tr Agr.rf (Agr.sub (frX11_isArm x S p1 _ _ h1) (by decide))
      by_cases c5 : r3 = 0
      · rw [if_pos c5] at hm
        exact Agr.tr a_S4 (fbX11_seen_130_21 x  S4 _ _ hm)
      · rw [if_neg c5] at hm
        cases h6 : gfX11_isMany x S4 p2 with
        | none => rw [h6] at hm; cases hm
        | some q7 =>
          obtain ⟨r8, S9⟩ := q7
          rw [h6] at hm
          dsimp only at hm
          have a_S9 : Agr wX11_seen_130 S S9 := Agr.tr a_S4 (Agr.sub (frX11_isMany x S4 p2 _ _ h6) (by decide))
          by_cases c10 : r8 = 0
          · rw [if_pos c10] at hm
            exact Agr.tr a_S9 (fbX11_seen_130_21 x  S9 _ _ hm)
          · rw [if_neg c10] at hm
            cases h11 : gfX11_isMany x S9 p3 with
            | none => rw [h11] at hm; cases hm
            | some q12 =>
              obtain ⟨r13, S14⟩ := q12
              rw [h11] at hm
              dsimp only at hm
              have a_S14 : Agr wX11_seen_130 S S14 := Agr.tr a_S9 (Agr.sub (frX11_isMany x S9 p3 _ _ h11) (by decide))
              by_cases c15 : ¬ r13 = 0
              · rw [if_pos c15] at hm
                by_cases c16 : ¬ (S14.2.1 132 93) = 6
                · rw [if_pos c16] at hm
                  obtain ⟨o17, hm⟩ := oblk hm
                  obtain ⟨o18, hm⟩ := oblk hm
                  obtain ⟨o19, hm⟩ := oblk hm
                  cases h20 : gfX11_good_130 x (S14.1, (u2 (u2 (u2 (u2 S14.2.1 132 ((71 + (3 * (S14.2.1 132 93))).toNatClampNeg) p1) 132 (((71 + (3 * (S14.2.1 132 93))) + 1).toNatClampNeg) p2) 132 (((71 + (3 * (S14.2.1 132 93))) + 2).toNatClampNeg) p3) 132 93 (((u2 (u2 (u2 S14.2.1 132 ((71 + (3 * (S14.2.1 132 93))).toNatClampNeg) p1) 132 (((71 + (3 * (S14.2.1 132 93))) + 1).toNatClampNeg) p2) 132 (((71 + (3 * (S14.2.1 132 93))) + 2).toNatClampNeg) p3) 132 93) + 1)), S14.2.2.1, S14.2.2.2) (((u2 (u2 (u2 S14.2.1 132 ((71 + (3 * (S14.2.1 132 93))).toNatClampNeg) p1) 132 (((71 + (3 * (S14.2.1 132 93))) + 1).toNatClampNeg) p2) 132 (((71 + (3 * (S14.2.1 132 93))) + 2).toNatClampNeg) p3) 132 93) + 1) with
                  | none => rw [h20] at hm; cases hm
                  | some q21 =>
                    obtain ⟨r22, S23⟩ := q21
                    rw [h20] at hm
                    dsimp only at hm
                    have a_S23 : Agr wX11_seen_130 S S23 := Agr.tr (Agr.i (Agr.i (Agr.i (Agr.i a_S14 132 ((71 + (3 * (S14.2.1 132 93))).toNatClampNeg) p1 (by decide)) 132 (((71 + (3 * (S14.2.1 132 93))) + 1).toNatClampNeg) p2 (by decide)) 132 (((71 + (3 * (S14.2.1 132 93))) + 2).toNatClampNeg) p3 (by decide)) 132 93 (((u2 (u2 (u2 S14.2.1 132 ((71 + (3 * (S14.2.1 132 93))).toNatClampNeg) p1) 132 (((71 + (3 * (S14.2.1 132 93))) + 1).toNatClampNeg) p2) 132 (((71 + (3 * (S14.2.1 132 93))) + 2).toNatClampNeg) p3) 132 93) + 1) (by decide)) (Agr.sub (frX11_good_130 x (S14.1, (u2 (u2 (u2 (u2 S14.2.1 132 ((71 + (3 * (S14.2.1 132 93))).toNatClampNeg) p1) 132 (((71 + (3 * (S14.2.1 132 93))) + 1).toNatClampNeg) p2) 132 (((71 + (3 * (S14.2.1 132 93))) + 2).toNatClampNeg) p3) 132 93 (((u2 (u2 (u2 S14.2.1 132 ((71 + (3 * (S14.2.1 132 93))).toNatClampNeg) p1) 132 (((71 + (3 * (S14.2.1 132 93))) + 1).toNatClampNeg) p2) 132 (((71 + (3 * (S14.2.1 132 93))) + 2).toNatClampNeg) p3) 132 93) + 1)), S14.2.2.1, S14.2.2.2) (((u2 (u2 (u2 S14.2.1 132 ((71 + (3 * (S14.2.1 132 93))).toNatClampNeg) p1) 132 (((71 + (3 * (S14.2.1 132 93))) + 1).toNatClampNeg) p2) 132 (((71 + (3 * (S14.2.1 132 93))) + 2).toNatClampNeg) p3) 132 93) + 1) _ _ h20) (by decide))
                    cases hm
                    exact a_S23
                · rw [if_neg c16] at hm
                  cases h24 : gfX11_refuses_130 x S14 (-5) with
                  | none => rw [h24] at hm; cases hm
                  | some q25 =>
                    obtain ⟨r26, S27⟩ := q25
                    rw [h24] at hm
                    dsimp only at hm
                    have a_S27 : Agr wX11_seen_130 S S27 := Agr.tr a_S14 (Agr.sub (frX11_refuses_130 x S14 (-5) _ _ h24) (by decide))
                    cases hm
                    exact a_S27
              · rw [if_neg c15] at hm
                exact Agr.tr a_S14 (fbX11_seen_130_21 x  S14 _ _ hm)
theorem frX11_seen_130 (x : XT) (S : ST) (p1 : Int32) (p2 : Int32) (p3 : Int32) (r : Int32) (S' : ST) (hm : gfX11_seen_130 x S p1 p2 p3 = some (r, S')) : Agr wX11_seen_130 S S' := fbX11_seen_130_0 x S p1 p2 p3 r S' hm
def wX11_forget_130 : List (Nat × Nat) × List Nat × List Nat × List Nat := ([], [132], [], [])
set_option maxHeartbeats 4000000 in
set_option maxRecDepth 20000 in
theorem fbX11_forget_130_0 (x : XT)  (S : ST)  (r : Int32) (S' : ST) (hm : bfX11_forget_130_0 x  S  = some (r, S')) : Agr wX11_forget_130 S S' := by
    unfold bfX11_forget_130_0 at hm
    cases hm
    exact (Agr.i Agr.rf 132 93 0 (by decide))
theorem frX11_forget_130 (x : XT) (S : ST)  (r : Int32) (S' : ST) (hm : gfX11_forget_130 x S  = some (r, S')) : Agr wX11_forget_130 S S' := fbX11_forget_130_0 x S  r S' hm
def wX11_outOf_130 : List (Nat × Nat) × List Nat × List Nat × List Nat := ([(130, 22), (130, 23), (130, 24), (130, 25)], [142], [], [])
set_option maxHeartbeats 4000000 in
set_option maxRecDepth 20000 in
theorem fbX11_outOf_130_25 (x : XT)  (S : ST) (t0 : Int32) (r : Int32) (S' : ST) (hm : bfX11_outOf_130_25 x  S t0 = some (r, S')) : Agr wX11_outOf_130 S S' := by
    unfold bfX11_outOf_130_25 at hm
    cases hm
    exact Agr.rf
set_option maxHeartbeats 4000000 in
set_option maxRecDepth 20000 in
theorem fbX11_outOf_130_0 (x : XT)  (S : ST) (p1 : Int32) (p2 : Int32) (p3 : Int32) (r : Int32) (S' : ST) (hm : bfX11_outOf_130_0 x  S p1 p2 p3 = some (r, S')) : Agr wX11_outOf_130 S S' := by
    unfold bfX11_outOf_130_0 at hm
    cases h1 : gfX11_setsAsked_130 x S p1 p2 p3 0 (-1) (-1) with
    | none => rw [h1] at hm; cases hm
    | some q2 =>
      obtain ⟨r3, S4⟩ := q2
      rw [h1] at hm
      dsimp only at hm
      have a_S4 : Agr wX11_outOf_130 S S4 := Agr.tr Agr.rf (Agr.sub (frX11_setsAsked_130 x S p1 p2 p3 0 (-1) (-1) _ _ h1) (by decide))
      cases h5 : gfX11_isBarredNow_130 x S4 with
      | none => rw [h5] at hm; cases hm
      | some q6 =>
        obtain ⟨r7, S8⟩ := q6
        rw [h5] at hm
        dsimp only at hm
        have a_S8 : Agr wX11_outOf_130 S S8 := Agr.tr a_S4 (Agr.sub (frX11_isBarredNow_130 x S4 _ _ h5) (by decide))
        by_cases c9 : r7 = 0
        · rw [if_pos c9] at hm
          cases h10 : gfX11_turnsNow_130 x S8 with
          | none => rw [h10] at hm; cases hm
          | some q11 =>
            obtain ⟨r12, S13⟩ := q11
            rw [h10] at hm
            dsimp only at hm
            have a_S13 : Agr wX11_outOf_130 S S13 := Agr.tr a_S8 (Agr.sub (frX11_turnsNow_130 x S8 _ _ h10) (by decide))
            exact Agr.tr a_S13 (fbX11_outOf_130_25 x  S13 r12 _ _ hm)
        · rw [if_neg c9] at hm
          exact Agr.tr a_S8 (fbX11_outOf_130_25 x  S8 (-1) _ _ hm)
theorem frX11_outOf_130 (x : XT) (S : ST) (p1 : Int32) (p2 : Int32) (p3 : Int32) (r : Int32) (S' : ST) (hm : gfX11_outOf_130 x S p1 p2 p3 = some (r, S')) : Agr wX11_outOf_130 S S' := fbX11_outOf_130_0 x S p1 p2 p3 r S' hm
def wX11_canBeKind_130 : List (Nat × Nat) × List Nat × List Nat × List Nat := ([(130, 22), (130, 23), (130, 24), (130, 25)], [142], [], [])
set_option maxHeartbeats 4000000 in
set_option maxRecDepth 20000 in
theorem fbX11_canBeKind_130_76 (x : XT)  (S : ST) (v2 : Int32) (r : Int32) (S' : ST) (hm : bfX11_canBeKind_130_76 x  S v2 = some (r, S')) : Agr wX11_canBeKind_130 S S' := by
    unfold bfX11_canBeKind_130_76 at hm
    obtain ⟨o1, hm⟩ := oblk hm
    cases hm
    exact Agr.rf
set_option maxHeartbeats 4000000 in
set_option maxRecDepth 20000 in
theorem fbX11_canBeKind_130_69 (x : XT) (k4 : ST → Int32 → Int32 → Int32 → Option (Int32 × ST)) (ak4 : ∀ (S : ST) (v1 : Int32) (v2 : Int32) (v3 : Int32) (r : Int32) (S' : ST), k4 S v1 v2 v3 = some (r, S') → Agr wX11_canBeKind_130 S S') (S : ST) (v1 : Int32) (v3 : Int32) (t0 : Int32) (r : Int32) (S' : ST) (hm : bfX11_canBeKind_130_69 x k4 S v1 v3 t0 = some (r, S')) : Agr wX11_canBeKind_130 S S' := by
    unfold bfX11_canBeKind_130_69 at hm
    exact Agr.tr Agr.rf (ak4 S v1 t0 (v3 + 1) _ _ hm)
set_option maxHeartbeats 4000000 in
set_option maxRecDepth 20000 in
theorem fbX11_canBeKind_130_4 (x : XT) (k4 : ST → Int32 → Int32 → Int32 → Option (Int32 × ST)) (ak4 : ∀ (S : ST) (v1 : Int32) (v2 : Int32) (v3 : Int32) (r : Int32) (S' : ST), k4 S v1 v2 v3 = some (r, S') → Agr wX11_canBeKind_130 S S') (S : ST) (v1 : Int32) (v2 : Int32) (v3 : Int32) (r : Int32) (S' : ST) (hm : bfX11_canBeKind_130_4 x k4 S v1 v2 v3 = some (r, S')) : Agr wX11_canBeKind_130 S S' := by
    unfold bfX11_canBeKind_130_4 at hm
    by_cases c1 : (S.2.1 132 93) ≤ v3
    · rw [if_pos c1] at hm
      exact Agr.tr Agr.rf (fbX11_canBeKind_130_76 x  S v2 _ _ hm)
    · rw [if_neg c1] at hm
      by_cases c2 : v2 = 0
      · rw [if_pos c2] at hm
        exact Agr.tr Agr.rf (fbX11_canBeKind_130_76 x  S v2 _ _ hm)
      · rw [if_neg c2] at hm
        obtain ⟨o3, hm⟩ := oblk hm
        obtain ⟨o4, hm⟩ := oblk hm
        cases h5 : gfX11_outOf_130 x S v1 (S.2.1 132 ((71 + (3 * v3)).toNatClampNeg)) (S.2.1 132 (((71 + (3 * v3)) + 1).toNatClampNeg)) with
        | none => rw [h5] at hm; cases hm
        | some q6 =>
          obtain ⟨r7, S8⟩ := q6
          rw [h5] at hm
          dsimp only at hm
          have a_S8 : Agr wX11_canBeKind_130 S S8 := Agr.tr Agr.rf (Agr.sub (frX11_outOf_130 x S v1 (S.2.1 132 ((71 + (3 * v3)).toNatClampNeg)) (S.2.1 132 (((71 + (3 * v3)) + 1).toNatClampNeg)) _ _ h5) (by decide))
          obtain ⟨o9, hm⟩ := oblk hm
          by_cases c10 : ¬ r7 = (S8.2.1 132 (((71 + (3 * v3)) + 2).toNatClampNeg))
          · rw [if_pos c10] at hm
            exact Agr.tr a_S8 (fbX11_canBeKind_130_69 x k4 ak4 S8 v1 v3 0 _ _ hm)
          · rw [if_neg c10] at hm
            exact Agr.tr a_S8 (fbX11_canBeKind_130_69 x k4 ak4 S8 v1 v3 1 _ _ hm)
theorem flX11_canBeKind_130_4 (x : XT)  : ∀ (n : Nat) (S : ST) (v1 : Int32) (v2 : Int32) (v3 : Int32) (r : Int32) (S' : ST), lfX11_canBeKind_130_4 x  n S v1 v2 v3 = some (r, S') → Agr wX11_canBeKind_130 S S'
  | 0, _, _, _, _, _, _, hm => by cases hm
  | n + 1, S, v1, v2, v3, r, S', hm => fbX11_canBeKind_130_4 x (lfX11_canBeKind_130_4 x  n) (flX11_canBeKind_130_4 x  n) S v1 v2 v3 r S' hm
set_option maxHeartbeats 4000000 in
set_option maxRecDepth 20000 in
theorem fbX11_canBeKind_130_0 (x : XT)  (S : ST) (p1 : Int32) (r : Int32) (S' : ST) (hm : bfX11_canBeKind_130_0 x  S p1 = some (r, S')) : Agr wX11_canBeKind_130 S S' := by
    unfold bfX11_canBeKind_130_0 at hm
    exact Agr.tr Agr.rf (flX11_canBeKind_130_4 x  20000 S p1 1 0 _ _ hm)
theorem frX11_canBeKind_130 (x : XT) (S : ST) (p1 : Int32) (r : Int32) (S' : ST) (hm : gfX11_canBeKind_130 x S p1 = some (r, S')) : Agr wX11_canBeKind_130 S S' := fbX11_canBeKind_130_0 x S p1 r S' hm
def wX11_kinds_130 : List (Nat × Nat) × List Nat × List Nat × List Nat := ([(130, 22), (130, 23), (130, 24), (130, 25)], [142], [], [])
set_option maxHeartbeats 4000000 in
set_option maxRecDepth 20000 in
theorem fbX11_kinds_130_26 (x : XT) (k4 : ST → Int32 → Int32 → Option (Int32 × ST)) (ak4 : ∀ (S : ST) (v1 : Int32) (v2 : Int32) (r : Int32) (S' : ST), k4 S v1 v2 = some (r, S') → Agr wX11_kinds_130 S S') (S : ST) (v2 : Int32) (t0 : Int32) (t1 : Int32) (r : Int32) (S' : ST) (hm : bfX11_kinds_130_26 x k4 S v2 t0 t1 = some (r, S')) : Agr wX11_kinds_130 S S' := by
    unfold bfX11_kinds_130_26 at hm
    exact Agr.tr Agr.rf (ak4 S (t0 ||| t1) (v2 + 1) _ _ hm)
set_option maxHeartbeats 4000000 in
set_option maxRecDepth 20000 in
theorem fbX11_kinds_130_4 (x : XT) (k4 : ST → Int32 → Int32 → Option (Int32 × ST)) (ak4 : ∀ (S : ST) (v1 : Int32) (v2 : Int32) (r : Int32) (S' : ST), k4 S v1 v2 = some (r, S') → Agr wX11_kinds_130 S S') (S : ST) (v1 : Int32) (v2 : Int32) (r : Int32) (S' : ST) (hm : bfX11_kinds_130_4 x k4 S v1 v2 = some (r, S')) : Agr wX11_kinds_130 S S' := by
    unfold bfX11_kinds_130_4 at hm
    by_cases c1 : 8 ≤ v2
    · rw [if_pos c1] at hm
      cases hm
      exact Agr.rf
    · rw [if_neg c1] at hm
      cases h2 : gfX11_canBeKind_130 x S v2 with
      | none => rw [h2] at hm; cases hm
      | some q3 =>
        obtain ⟨r4, S5⟩ := q3
        rw [h2] at hm
        dsimp only at hm
        have a_S5 : Agr wX11_kinds_130 S S5 := Agr.tr Agr.rf (Agr.sub (frX11_canBeKind_130 x S v2 _ _ h2) (by decide))
        by_cases c6 : r4 = 0
        · rw [if_pos c6] at hm
          exact Agr.tr a_S5 (fbX11_kinds_130_26 x k4 ak4 S5 v2 v1 0 _ _ hm)
        · rw [if_neg c6] at hm
          exact Agr.tr a_S5 (fbX11_kinds_130_26 x k4 ak4 S5 v2 v1 (1 <<< (v2 &&& 31)) _ _ hm)
theorem flX11_kinds_130_4 (x : XT)  : ∀ (n : Nat) (S : ST) (v1 : Int32) (v2 : Int32) (r : Int32) (S' : ST), lfX11_kinds_130_4 x  n S v1 v2 = some (r, S') → Agr wX11_kinds_130 S S'
  | 0, _, _, _, _, _, hm => by cases hm
  | n + 1, S, v1, v2, r, S', hm => fbX11_kinds_130_4 x (lfX11_kinds_130_4 x  n) (flX11_kinds_130_4 x  n) S v1 v2 r S' hm
set_option maxHeartbeats 4000000 in
set_option maxRecDepth 20000 in
theorem fbX11_kinds_130_0 (x : XT)  (S : ST)  (r : Int32) (S' : ST) (hm : bfX11_kinds_130_0 x  S  = some (r, S')) : Agr wX11_kinds_130 S S' := by
    unfold bfX11_kinds_130_0 at hm
    exact Agr.tr Agr.rf (flX11_kinds_130_4 x  20000 S 0 0 _ _ hm)
theorem frX11_kinds_130 (x : XT) (S : ST)  (r : Int32) (S' : ST) (hm : gfX11_kinds_130 x S  = some (r, S')) : Agr wX11_kinds_130 S S' := fbX11_kinds_130_0 x S  r S' hm
def wX11_mostAlike_130 : List (Nat × Nat) × List Nat × List Nat × List Nat := ([(130, 22), (130, 23), (130, 24), (130, 25)], [142, 154], [], [])
set_option maxHeartbeats 4000000 in
set_option maxRecDepth 20000 in
theorem fbX11_mostAlike_130_86 (x : XT) (k30 : ST → Int32 → Int32 → Int32 → Int32 → Int32 → Option (Int32 × ST)) (ak30 : ∀ (S : ST) (v1 : Int32) (v2 : Int32) (v3 : Int32) (v4 : Int32) (v5 : Int32) (r : Int32) (S' : ST), k30 S v1 v2 v3 v4 v5 = some (r, S') → Agr wX11_mostAlike_130 S S') (S : ST) (v1 : Int32) (v2 : Int32) (v3 : Int32) (v4 : Int32) (v5 : Int32) (r : Int32) (S' : ST) (hm : bfX11_mostAlike_130_86 x k30 S v1 v2 v3 v4 v5 = some (r, S')) : Agr wX11_mostAlike_130 S S' := by
    unfold bfX11_mostAlike_130_86 at hm
    exact Agr.tr Agr.rf (ak30 S v1 v2 v3 v4 (v5 + 1) _ _ hm)
set_option maxHeartbeats 4000000 in
set_option maxRecDepth 20000 in
theorem fbX11_mostAlike_130_30 (x : XT) (k30 : ST → Int32 → Int32 → Int32 → Int32 → Int32 → Option (Int32 × ST)) (ak30 : ∀ (S : ST) (v1 : Int32) (v2 : Int32) (v3 : Int32) (v4 : Int32) (v5 : Int32) (r : Int32) (S' : ST), k30 S v1 v2 v3 v4 v5 = some (r, S') → Agr wX11_mostAlike_130 S S') (S : ST) (v1 : Int32) (v2 : Int32) (v3 : Int32) (v4 : Int32) (v5 : Int32) (r : Int32) (S' : ST) (hm : bfX11_mostAlike_130_30 x k30 S v1 v2 v3 v4 v5 = some (r, S')) : Agr wX11_mostAlike_130 S S' := by
    unfold bfX11_mostAlike_130_30 at hm
    by_cases c1 : 8 ≤ v5
    · rw [if_pos c1] at hm
      cases hm
      exact Agr.rf
    · rw [if_neg c1] at hm
      cases h2 : gfX11_isIn x S v1 v5 with
      | none => rw [h2] at hm; cases hm
      | some q3 =>
        obtain ⟨r4, S5⟩ := q3
        rw [h2] at hm
        dsimp only at hm
        have a_S5 : Agr wX11_mostAlike_130 S S5 := Agr.tr Agr.rf (Agr.sub (frX11_isIn x S v1 v5 _ _ h2) (by decide))
        by_cases c6 : ¬ r4 = 0
        · rw [if_pos c6] at hm
          cases h7 : gfX11_outOf_130 x S5 v5 v2 v3 with
          | none => rw [h7] at hm; cases hm
          | some q8 =>
            obtain ⟨r9, S10⟩ := q8
            rw [h7] at hm
            dsimp only at hm
            have a_S10 : Agr wX11_mostAlike_130 S S10 := Agr.tr a_S5 (Agr.sub (frX11_outOf_130 x S5 v5 v2 v3 _ _ h7) (by decide))
            obtain ⟨o11, hm⟩ := oblk hm
            obtain ⟨o12, hm⟩ := oblk hm
            obtain ⟨o13, hm⟩ := oblk hm
            cases h14 : gfX11_greater x (S10.1, (u2 S10.2.1 154 ((r9 + 1).toNatClampNeg) ((S10.2.1 154 ((r9 + 1).toNatClampNeg)) + 1)), S10.2.2.1, S10.2.2.2) v4 ((u2 S10.2.1 154 ((r9 + 1).toNatClampNeg) ((S10.2.1 154 ((r9 + 1).toNatClampNeg)) + 1)) 154 ((r9 + 1).toNatClampNeg)) with
            | none => rw [h14] at hm; cases hm
            | some q15 =>
              obtain ⟨r16, S17⟩ := q15
              rw [h14] at hm
              dsimp only at hm
              have a_S17 : Agr wX11_mostAlike_130 S S17 := Agr.tr (Agr.i a_S10 154 ((r9 + 1).toNatClampNeg) ((S10.2.1 154 ((r9 + 1).toNatClampNeg)) + 1) (by decide)) (Agr.sub (frX11_greater x (S10.1, (u2 S10.2.1 154 ((r9 + 1).toNatClampNeg) ((S10.2.1 154 ((r9 + 1).toNatClampNeg)) + 1)), S10.2.2.1, S10.2.2.2) v4 ((u2 S10.2.1 154 ((r9 + 1).toNatClampNeg) ((S10.2.1 154 ((r9 + 1).toNatClampNeg)) + 1)) 154 ((r9 + 1).toNatClampNeg)) _ _ h14) (by decide))
              exact Agr.tr a_S17 (fbX11_mostAlike_130_86 x k30 ak30 S17 v1 v2 v3 r16 v5 _ _ hm)
        · rw [if_neg c6] at hm
          exact Agr.tr a_S5 (fbX11_mostAlike_130_86 x k30 ak30 S5 v1 v2 v3 v4 v5 _ _ hm)
theorem flX11_mostAlike_130_30 (x : XT)  : ∀ (n : Nat) (S : ST) (v1 : Int32) (v2 : Int32) (v3 : Int32) (v4 : Int32) (v5 : Int32) (r : Int32) (S' : ST), lfX11_mostAlike_130_30 x  n S v1 v2 v3 v4 v5 = some (r, S') → Agr wX11_mostAlike_130 S S'
  | 0, _, _, _, _, _, _, _, _, hm => by cases hm
  | n + 1, S, v1, v2, v3, v4, v5, r, S', hm => fbX11_mostAlike_130_30 x (lfX11_mostAlike_130_30 x  n) (flX11_mostAlike_130_30 x  n) S v1 v2 v3 v4 v5 r S' hm
set_option maxHeartbeats 4000000 in
set_option maxRecDepth 20000 in
theorem fbX11_mostAlike_130_3 (x : XT) (k3 : ST → Int32 → Int32 → Int32 → Int32 → Option (Int32 × ST)) (ak3 : ∀ (S : ST) (v1 : Int32) (v2 : Int32) (v3 : Int32) (v4 : Int32) (r : Int32) (S' : ST), k3 S v1 v2 v3 v4 = some (r, S') → Agr wX11_mostAlike_130 S S') (S : ST) (v1 : Int32) (v2 : Int32) (v3 : Int32) (v4 : Int32) (r : Int32) (S' : ST) (hm : bfX11_mostAlike_130_3 x k3 S v1 v2 v3 v4 = some (r, S')) : Agr wX11_mostAlike_130 S S' := by
    unfold bfX11_mostAlike_130_3 at hm
    by_cases c1 : 20 < v4
    · rw [if_pos c1] at hm
      exact Agr.tr Agr.rf (flX11_mostAlike_130_30 x  20000 S v1 v2 v3 0 0 _ _ hm)
    · rw [if_neg c1] at hm
      obtain ⟨o2, hm⟩ := oblk hm
      exact Agr.tr (Agr.i Agr.rf 154 v4.toNatClampNeg 0 (by decide)) (ak3 (S.1, (u2 S.2.1 154 v4.toNatClampNeg 0), S.2.2.1, S.2.2.2) v1 v2 v3 (v4 + 1) _ _ hm)
theorem flX11_mostAlike_130_3 (x : XT)  : ∀ (n : Nat) (S : ST) (v1 : Int32) (v2 : Int32) (v3 : Int32) (v4 : Int32) (r : Int32) (S' : ST), lfX11_mostAlike_130_3 x  n S v1 v2 v3 v4 = some (r, S') → Agr wX11_mostAlike_130 S S'
  | 0, _, _, _, _, _, _, _, hm => by cases hm
  | n + 1, S, v1, v2, v3, v4, r, S', hm => fbX11_mostAlike_130_3 x (lfX11_mostAlike_130_3 x  n) (flX11_mostAlike_130_3 x  n) S v1 v2 v3 v4 r S' hm
set_option maxHeartbeats 4000000 in
set_option maxRecDepth 20000 in
theorem fbX11_mostAlike_130_0 (x : XT)  (S : ST) (p1 : Int32) (p2 : Int32) (p3 : Int32) (r : Int32) (S' : ST) (hm : bfX11_mostAlike_130_0 x  S p1 p2 p3 = some (r, S')) : Agr wX11_mostAlike_130 S S' := by
    unfold bfX11_mostAlike_130_0 at hm
    exact Agr.tr Agr.rf (flX11_mostAlike_130_3 x  20000 S p1 p2 p3 0 _ _ hm)
theorem frX11_mostAlike_130 (x : XT) (S : ST) (p1 : Int32) (p2 : Int32) (p3 : Int32) (r : Int32) (S' : ST) (hm : gfX11_mostAlike_130 x S p1 p2 p3 = some (r, S')) : Agr wX11_mostAlike_130 S S' := fbX11_mostAlike_130_0 x S p1 p2 p3 r S' hm
def wX11_ask_130 : List (Nat × Nat) × List Nat × List Nat × List Nat := ([(130, 22), (130, 23), (130, 24), (130, 25)], [142, 154], [], [])
set_option maxHeartbeats 4000000 in
set_option maxRecDepth 20000 in
theorem fbX11_ask_130_16 (x : XT)  (S : ST)  (r : Int32) (S' : ST) (hm : bfX11_ask_130_16 x  S  = some (r, S')) : Agr wX11_ask_130 S S' := by
    unfold bfX11_ask_130_16 at hm
    cases hm
    exact Agr.rf
set_option maxHeartbeats 4000000 in
set_option maxRecDepth 20000 in
theorem fbX11_ask_130_95 (x : XT)  (S : ST) (t0 : Int32) (r : Int32) (S' : ST) (hm : bfX11_ask_130_95 x  S t0 = some (r, S')) : Agr wX11_ask_130 S S' := by
    unfold bfX11_ask_130_95 at hm
    cases hm
    exact Agr.rf
set_option maxHeartbeats 4000000 in
set_option maxRecDepth 20000 in
theorem fbX11_ask_130_88 (x : XT)  (S : ST) (v4 : Int32) (r : Int32) (S' : ST) (hm : bfX11_ask_130_88 x  S v4 = some (r, S')) : Agr wX11_ask_130 S S' := by
    unfold bfX11_ask_130_88 at hm
    exact Agr.tr Agr.rf (fbX11_ask_130_95 x  S v4 _ _ hm)
set_option maxHeartbeats 4000000 in
set_option maxRecDepth 20000 in
theorem fbX11_ask_130_78 (x : XT)  (S : ST) (v2 : Int32) (v4 : Int32) (v5 : Int32) (r : Int32) (S' : ST) (hm : bfX11_ask_130_78 x  S v2 v4 v5 = some (r, S')) : Agr wX11_ask_130 S S' := by
    unfold bfX11_ask_130_78 at hm
    by_cases c1 : v4 = (-1)
    · rw [if_pos c1] at hm
      exact Agr.tr Agr.rf (fbX11_ask_130_88 x  S v4 _ _ hm)
    · rw [if_neg c1] at hm
      by_cases c2 : ¬ v2 = 0
      · rw [if_pos c2] at hm
        exact Agr.tr Agr.rf (fbX11_ask_130_95 x  S v5 _ _ hm)
      · rw [if_neg c2] at hm
        exact Agr.tr Agr.rf (fbX11_ask_130_88 x  S v4 _ _ hm)
set_option maxHeartbeats 4000000 in
set_option maxRecDepth 20000 in
theorem fbX11_ask_130_72 (x : XT) (k33 : ST → Int32 → Int32 → Int32 → Int32 → Int32 → Int32 → Option (Int32 × ST)) (ak33 : ∀ (S : ST) (v1 : Int32) (v2 : Int32) (v3 : Int32) (v4 : Int32) (v5 : Int32) (v6 : Int32) (r : Int32) (S' : ST), k33 S v1 v2 v3 v4 v5 v6 = some (r, S') → Agr wX11_ask_130 S S') (S : ST) (v1 : Int32) (v2 : Int32) (v3 : Int32) (v4 : Int32) (v5 : Int32) (v6 : Int32) (r : Int32) (S' : ST) (hm : bfX11_ask_130_72 x k33 S v1 v2 v3 v4 v5 v6 = some (r, S')) : Agr wX11_ask_130 S S' := by
    unfold bfX11_ask_130_72 at hm
    exact Agr.tr Agr.rf (ak33 S v1 v2 v3 v4 v5 (v6 + 1) _ _ hm)
set_option maxHeartbeats 4000000 in
set_option maxRecDepth 20000 in
theorem fbX11_ask_130_33 (x : XT) (k33 : ST → Int32 → Int32 → Int32 → Int32 → Int32 → Int32 → Option (Int32 × ST)) (ak33 : ∀ (S : ST) (v1 : Int32) (v2 : Int32) (v3 : Int32) (v4 : Int32) (v5 : Int32) (v6 : Int32) (r : Int32) (S' : ST), k33 S v1 v2 v3 v4 v5 v6 = some (r, S') → Agr wX11_ask_130 S S') (S : ST) (v1 : Int32) (v2 : Int32) (v3 : Int32) (v4 : Int32) (v5 : Int32) (v6 : Int32) (r : Int32) (S' : ST) (hm : bfX11_ask_130_33 x k33 S v1 v2 v3 v4 v5 v6 = some (r, S')) : Agr wX11_ask_130 S S' := by
    unfold bfX11_ask_130_33 at hm
    by_cases c1 : 20 ≤ v6
    · rw [if_pos c1] at hm
      exact Agr.tr Agr.rf (fbX11_ask_130_78 x  S v2 v4 v5 _ _ hm)
    · rw [if_neg c1] at hm
      by_cases c2 : v3 = 0
      · rw [if_pos c2] at hm
        exact Agr.tr Agr.rf (fbX11_ask_130_78 x  S v2 v4 v5 _ _ hm)
      · rw [if_neg c2] at hm
        cases h3 : gfX11_mostAlike_130 x S v3 v1 v6 with
        | none => rw [h3] at hm; cases hm
        | some q4 =>
          obtain ⟨r5, S6⟩ := q4
          rw [h3] at hm
          dsimp only at hm
          have a_S6 : Agr wX11_ask_130 S S6 := Agr.tr Agr.rf (Agr.sub (frX11_mostAlike_130 x S v3 v1 v6 _ _ h3) (by decide))
          by_cases c7 : r5 < v5
          · rw [if_pos c7] at hm
            exact Agr.tr a_S6 (fbX11_ask_130_72 x k33 ak33 S6 v1 v2 v3 v6 r5 v6 _ _ hm)
          · rw [if_neg c7] at hm
            exact Agr.tr a_S6 (fbX11_ask_130_72 x k33 ak33 S6 v1 v2 v3 v4 v5 v6 _ _ hm)
theorem flX11_ask_130_33 (x : XT)  : ∀ (n : Nat) (S : ST) (v1 : Int32) (v2 : Int32) (v3 : Int32) (v4 : Int32) (v5 : Int32) (v6 : Int32) (r : Int32) (S' : ST), lfX11_ask_130_33 x  n S v1 v2 v3 v4 v5 v6 = some (r, S') → Agr wX11_ask_130 S S'
  | 0, _, _, _, _, _, _, _, _, _, hm => by cases hm
  | n + 1, S, v1, v2, v3, v4, v5, v6, r, S', hm => fbX11_ask_130_33 x (lfX11_ask_130_33 x  n) (flX11_ask_130_33 x  n) S v1 v2 v3 v4 v5 v6 r S' hm
set_option maxHeartbeats 4000000 in
set_option maxRecDepth 20000 in
theorem fbX11_ask_130_0 (x : XT)  (S : ST) (p1 : Int32) (p2 : Int32) (r : Int32) (S' : ST) (hm : bfX11_ask_130_0 x  S p1 p2 = some (r, S')) : Agr wX11_ask_130 S S' := by
    unfold bfX11_ask_130_0 at hm
    cases h1 : gfX11_isArm x S p1 with
    | none => rw [h1] at hm; cases hm
    | some q2 =>
      obtain ⟨r3, S4⟩ := q2
      rw [h1] at hm
      dsimp only at hm
      have a_S4 : Agr wX11_ask_130 S S4 := Agr.tr Agr.rf (Agr.sub (frX11_isArm x S p1 _ _ h1) (by decide))
      by_cases c5 : r3 = 0
      · rw [if_pos c5] at hm
        exact Agr.tr a_S4 (fbX11_ask_130_16 x  S4 _ _ hm)
      · rw [if_neg c5] at hm
        cases h6 : gfX11_lies x S4 p2 0 1 with
        | none => rw [h6] at hm; cases hm
        | some q7 =>
          obtain ⟨r8, S9⟩ := q7
          rw [h6] at hm
          dsimp only at hm
          have a_S9 : Agr wX11_ask_130 S S9 := Agr.tr a_S4 (Agr.sub (frX11_lies x S4 p2 0 1 _ _ h6) (by decide))
          by_cases c10 : ¬ r8 = 0
          · rw [if_pos c10] at hm
            cases h11 : gfX11_kinds_130 x S9 with
            | none => rw [h11] at hm; cases hm
            | some q12 =>
              obtain ⟨r13, S14⟩ := q12
              rw [h11] at hm
              dsimp only at hm
              have a_S14 : Agr wX11_ask_130 S S14 := Agr.tr a_S9 (Agr.sub (frX11_kinds_130 x S9 _ _ h11) (by decide))
              exact Agr.tr a_S14 (flX11_ask_130_33 x  20000 S14 p1 p2 r13 (-1) 1000000 0 _ _ hm)
          · rw [if_neg c10] at hm
            exact Agr.tr a_S9 (fbX11_ask_130_16 x  S9 _ _ hm)
theorem frX11_ask_130 (x : XT) (S : ST) (p1 : Int32) (p2 : Int32) (r : Int32) (S' : ST) (hm : gfX11_ask_130 x S p1 p2 = some (r, S')) : Agr wX11_ask_130 S S' := fbX11_ask_130_0 x S p1 p2 r S' hm
def wX11_few_130 : List (Nat × Nat) × List Nat × List Nat × List Nat := ([], [], [155], [])
set_option maxHeartbeats 4000000 in
set_option maxRecDepth 20000 in
theorem fbX11_few_130_20 (x : XT)  (S : ST)  (r : Int64) (S' : ST) (hm : bfX11_few_130_20 x  S  = some (r, S')) : Agr wX11_few_130 S S' := by
    unfold bfX11_few_130_20 at hm
    cases hm
    exact Agr.rf
set_option maxHeartbeats 4000000 in
set_option maxRecDepth 20000 in
theorem fbX11_few_130_151 (x : XT) (k151 : ST → Int32 → Int64 → Int32 → Option (Int64 × ST)) (ak151 : ∀ (S : ST) (v1 : Int32) (v3 : Int64) (v5 : Int32) (r : Int64) (S' : ST), k151 S v1 v3 v5 = some (r, S') → Agr wX11_few_130 S S') (S : ST) (v1 : Int32) (v3 : Int64) (v5 : Int32) (r : Int64) (S' : ST) (hm : bfX11_few_130_151 x k151 S v1 v3 v5 = some (r, S')) : Agr wX11_few_130 S S' := by
    unfold bfX11_few_130_151 at hm
    by_cases c1 : v1 ≤ v5
    · rw [if_pos c1] at hm
      cases hm
      exact Agr.rf
    · rw [if_neg c1] at hm
      obtain ⟨o2, hm⟩ := oblk hm
      exact Agr.tr Agr.rf (ak151 S v1 (v3 + (S.2.2.1 155 v5.toNatClampNeg)) (v5 + 1) _ _ hm)
theorem flX11_few_130_151 (x : XT)  : ∀ (n : Nat) (S : ST) (v1 : Int32) (v3 : Int64) (v5 : Int32) (r : Int64) (S' : ST), lfX11_few_130_151 x  n S v1 v3 v5 = some (r, S') → Agr wX11_few_130 S S'
  | 0, _, _, _, _, _, _, hm => by cases hm
  | n + 1, S, v1, v3, v5, r, S', hm => fbX11_few_130_151 x (lfX11_few_130_151 x  n) (flX11_few_130_151 x  n) S v1 v3 v5 r S' hm
set_option maxHeartbeats 4000000 in
set_option maxRecDepth 20000 in
theorem fbX11_few_130_67 (x : XT) (k57 : ST → Int32 → Int32 → Int32 → Option (Int64 × ST)) (ak57 : ∀ (S : ST) (v1 : Int32) (v2 : Int32) (v3 : Int32) (r : Int64) (S' : ST), k57 S v1 v2 v3 = some (r, S') → Agr wX11_few_130 S S') (k67 : ST → Int32 → Int32 → Int32 → Int32 → Option (Int64 × ST)) (ak67 : ∀ (S : ST) (v1 : Int32) (v2 : Int32) (v3 : Int32) (v4 : Int32) (r : Int64) (S' : ST), k67 S v1 v2 v3 v4 = some (r, S') → Agr wX11_few_130 S S') (S : ST) (v1 : Int32) (v2 : Int32) (v3 : Int32) (v4 : Int32) (r : Int64) (S' : ST) (hm : bfX11_few_130_67 x k57 k67 S v1 v2 v3 v4 = some (r, S')) : Agr wX11_few_130 S S' := by
    unfold bfX11_few_130_67 at hm
    by_cases c1 : v4 < 0
    · rw [if_pos c1] at hm
      exact Agr.tr Agr.rf (ak57 S v1 v2 (v3 + 1) _ _ hm)
    · rw [if_neg c1] at hm
      obtain ⟨o2, hm⟩ := oblk hm
      obtain ⟨o3, hm⟩ := oblk hm
      obtain ⟨o4, hm⟩ := oblk hm
      obtain ⟨o5, hm⟩ := oblk hm
      obtain ⟨o6, hm⟩ := oblk hm
      exact Agr.tr (Agr.j (Agr.j Agr.rf 155 ((v4 + 1).toNatClampNeg) ((S.2.2.1 155 ((v4 + 1).toNatClampNeg)) + (((S.2.2.1 155 v4.toNatClampNeg) * ((S.2.1 132 89).toInt64)) / 10)) (by decide)) 155 v4.toNatClampNeg ((((u2 S.2.2.1 155 ((v4 + 1).toNatClampNeg) ((S.2.2.1 155 ((v4 + 1).toNatClampNeg)) + (((S.2.2.1 155 v4.toNatClampNeg) * ((S.2.1 132 89).toInt64)) / 10))) 155 v4.toNatClampNeg) * ((10 - (S.2.1 132 89)).toInt64)) / 10) (by decide)) (ak67 (S.1, S.2.1, (u2 (u2 S.2.2.1 155 ((v4 + 1).toNatClampNeg) ((S.2.2.1 155 ((v4 + 1).toNatClampNeg)) + (((S.2.2.1 155 v4.toNatClampNeg) * ((S.2.1 132 89).toInt64)) / 10))) 155 v4.toNatClampNeg ((((u2 S.2.2.1 155 ((v4 + 1).toNatClampNeg) ((S.2.2.1 155 ((v4 + 1).toNatClampNeg)) + (((S.2.2.1 155 v4.toNatClampNeg) * ((S.2.1 132 89).toInt64)) / 10))) 155 v4.toNatClampNeg) * ((10 - (S.2.1 132 89)).toInt64)) / 10)), S.2.2.2) v1 v2 v3 (v4 + (-1)) _ _ hm)
theorem flX11_few_130_67 (x : XT) (k57 : ST → Int32 → Int32 → Int32 → Option (Int64 × ST)) (ak57 : ∀ (S : ST) (v1 : Int32) (v2 : Int32) (v3 : Int32) (r : Int64) (S' : ST), k57 S v1 v2 v3 = some (r, S') → Agr wX11_few_130 S S') : ∀ (n : Nat) (S : ST) (v1 : Int32) (v2 : Int32) (v3 : Int32) (v4 : Int32) (r : Int64) (S' : ST), lfX11_few_130_67 x k57 n S v1 v2 v3 v4 = some (r, S') → Agr wX11_few_130 S S'
  | 0, _, _, _, _, _, _, _, hm => by cases hm
  | n + 1, S, v1, v2, v3, v4, r, S', hm => fbX11_few_130_67 x k57 ak57 (lfX11_few_130_67 x k57 n) (flX11_few_130_67 x k57 ak57 n) S v1 v2 v3 v4 r S' hm
set_option maxHeartbeats 4000000 in
set_option maxRecDepth 20000 in
theorem fbX11_few_130_57 (x : XT) (k57 : ST → Int32 → Int32 → Int32 → Option (Int64 × ST)) (ak57 : ∀ (S : ST) (v1 : Int32) (v2 : Int32) (v3 : Int32) (r : Int64) (S' : ST), k57 S v1 v2 v3 = some (r, S') → Agr wX11_few_130 S S') (S : ST) (v1 : Int32) (v2 : Int32) (v3 : Int32) (r : Int64) (S' : ST) (hm : bfX11_few_130_57 x k57 S v1 v2 v3 = some (r, S')) : Agr wX11_few_130 S S' := by
    unfold bfX11_few_130_57 at hm
    by_cases c1 : v2 ≤ v3
    · rw [if_pos c1] at hm
      exact Agr.tr Agr.rf (flX11_few_130_151 x  20000 S v1 0 0 _ _ hm)
    · rw [if_neg c1] at hm
      exact Agr.tr Agr.rf (flX11_few_130_67 x k57 ak57 20000 S v1 v2 v3 (v1 - 1) _ _ hm)
theorem flX11_few_130_57 (x : XT)  : ∀ (n : Nat) (S : ST) (v1 : Int32) (v2 : Int32) (v3 : Int32) (r : Int64) (S' : ST), lfX11_few_130_57 x  n S v1 v2 v3 = some (r, S') → Agr wX11_few_130 S S'
  | 0, _, _, _, _, _, _, hm => by cases hm
  | n + 1, S, v1, v2, v3, r, S', hm => fbX11_few_130_57 x (lfX11_few_130_57 x  n) (flX11_few_130_57 x  n) S v1 v2 v3 r S' hm
set_option maxHeartbeats 4000000 in
set_option maxRecDepth 20000 in
theorem fbX11_few_130_48 (x : XT) (k26 : ST → Int32 → Int32 → Int32 → Option (Int64 × ST)) (ak26 : ∀ (S : ST) (v1 : Int32) (v2 : Int32) (v3 : Int32) (r : Int64) (S' : ST), k26 S v1 v2 v3 = some (r, S') → Agr wX11_few_130 S S') (S : ST) (v1 : Int32) (v2 : Int32) (v3 : Int32) (t1 : Int32) (t2 : Int64) (r : Int64) (S' : ST) (hm : bfX11_few_130_48 x k26 S v1 v2 v3 t1 t2 = some (r, S')) : Agr wX11_few_130 S S' := by
    unfold bfX11_few_130_48 at hm
    obtain ⟨o1, hm⟩ := oblk hm
    exact Agr.tr (Agr.j Agr.rf 155 t1.toNatClampNeg t2 (by decide)) (ak26 (S.1, S.2.1, (u2 S.2.2.1 155 t1.toNatClampNeg t2), S.2.2.2) v1 v2 (v3 + 1) _ _ hm)
set_option maxHeartbeats 4000000 in
set_option maxRecDepth 20000 in
theorem fbX11_few_130_26 (x : XT) (k26 : ST → Int32 → Int32 → Int32 → Option (Int64 × ST)) (ak26 : ∀ (S : ST) (v1 : Int32) (v2 : Int32) (v3 : Int32) (r : Int64) (S' : ST), k26 S v1 v2 v3 = some (r, S') → Agr wX11_few_130 S S') (S : ST) (v1 : Int32) (v2 : Int32) (v3 : Int32) (r : Int64) (S' : ST) (hm : bfX11_few_130_26 x k26 S v1 v2 v3 = some (r, S')) : Agr wX11_few_130 S S' := by
    unfold bfX11_few_130_26 at hm
    by_cases c1 : 20 < v3
    · rw [if_pos c1] at hm
      exact Agr.tr Agr.rf (flX11_few_130_57 x  20000 S v1 v2 0 _ _ hm)
    · rw [if_neg c1] at hm
      by_cases c2 : ¬ v3 = 0
      · rw [if_pos c2] at hm
        exact Agr.tr Agr.rf (fbX11_few_130_48 x k26 ak26 S v1 v2 v3 v3 0 _ _ hm)
      · rw [if_neg c2] at hm
        exact Agr.tr Agr.rf (fbX11_few_130_48 x k26 ak26 S v1 v2 v3 v3 1000000000000 _ _ hm)
theorem flX11_few_130_26 (x : XT)  : ∀ (n : Nat) (S : ST) (v1 : Int32) (v2 : Int32) (v3 : Int32) (r : Int64) (S' : ST), lfX11_few_130_26 x  n S v1 v2 v3 = some (r, S') → Agr wX11_few_130 S S'
  | 0, _, _, _, _, _, _, hm => by cases hm
  | n + 1, S, v1, v2, v3, r, S', hm => fbX11_few_130_26 x (lfX11_few_130_26 x  n) (flX11_few_130_26 x  n) S v1 v2 v3 r S' hm
set_option maxHeartbeats 4000000 in
set_option maxRecDepth 20000 in
theorem fbX11_few_130_0 (x : XT)  (S : ST) (p1 : Int32) (p2 : Int32) (r : Int64) (S' : ST) (hm : bfX11_few_130_0 x  S p1 p2 = some (r, S')) : Agr wX11_few_130 S S' := by
    unfold bfX11_few_130_0 at hm
    cases h1 : gfX11_lies x S p1 1 20 with
    | none => rw [h1] at hm; cases hm
    | some q2 =>
      obtain ⟨r3, S4⟩ := q2
      rw [h1] at hm
      dsimp only at hm
      have a_S4 : Agr wX11_few_130 S S4 := Agr.tr Agr.rf (Agr.sub (frX11_lies x S p1 1 20 _ _ h1) (by decide))
      by_cases c5 : r3 = 0
      · rw [if_pos c5] at hm
        exact Agr.tr a_S4 (fbX11_few_130_20 x  S4 _ _ hm)
      · rw [if_neg c5] at hm
        cases h6 : gfX11_lies x S4 p2 0 99 with
        | none => rw [h6] at hm; cases hm
        | some q7 =>
          obtain ⟨r8, S9⟩ := q7
          rw [h6] at hm
          dsimp only at hm
          have a_S9 : Agr wX11_few_130 S S9 := Agr.tr a_S4 (Agr.sub (frX11_lies x S4 p2 0 99 _ _ h6) (by decide))
          by_cases c10 : ¬ r8 = 0
          · rw [if_pos c10] at hm
            exact Agr.tr a_S9 (flX11_few_130_26 x  20000 S9 p1 p2 0 _ _ hm)
          · rw [if_neg c10] at hm
            exact Agr.tr a_S9 (fbX11_few_130_20 x  S9 _ _ hm)
theorem frX11_few_130 (x : XT) (S : ST) (p1 : Int32) (p2 : Int32) (r : Int64) (S' : ST) (hm : gfX11_few_130 x S p1 p2 = some (r, S')) : Agr wX11_few_130 S S' := fbX11_few_130_0 x S p1 p2 r S' hm
def wX11_stopped_130 : List (Nat × Nat) × List Nat × List Nat × List Nat := ([], [], [], [])
set_option maxHeartbeats 4000000 in
set_option maxRecDepth 20000 in
theorem fbX11_stopped_130_0 (x : XT)  (S : ST)  (r : Int32) (S' : ST) (hm : bfX11_stopped_130_0 x  S  = some (r, S')) : Agr wX11_stopped_130 S S' := by
    unfold bfX11_stopped_130_0 at hm
    cases hm
    exact Agr.rf
theorem frX11_stopped_130 (x : XT) (S : ST)  (r : Int32) (S' : ST) (hm : gfX11_stopped_130 x S  = some (r, S')) : Agr wX11_stopped_130 S S' := fbX11_stopped_130_0 x S  r S' hm
def wX11_goesAlong_130 : List (Nat × Nat) × List Nat × List Nat × List Nat := ([(130, 22), (130, 23), (130, 24), (130, 25), (130, 45), (130, 46), (130, 47), (130, 48)], [], [156], [])
set_option maxHeartbeats 4000000 in
set_option maxRecDepth 20000 in
theorem fbX11_goesAlong_130_234 (x : XT)  (S : ST) (t1 : Int32) (r : Unit) (S' : ST) (hm : bfX11_goesAlong_130_234 x  S t1 = some (r, S')) : Agr wX11_goesAlong_130 S S' := by
    unfold bfX11_goesAlong_130_234 at hm
    obtain ⟨o1, hm⟩ := oblk hm
    cases hm
    exact (Agr.f (Agr.f Agr.rf 130 48 t1 (by decide)) 130 22 ((S.1 130 22) + 1) (by decide))
set_option maxHeartbeats 4000000 in
set_option maxRecDepth 20000 in
theorem fbX11_goesAlong_130_233 (x : XT)  (S : ST)  (r : Unit) (S' : ST) (hm : bfX11_goesAlong_130_233 x  S  = some (r, S')) : Agr wX11_goesAlong_130 S S' := by
    unfold bfX11_goesAlong_130_233 at hm
    exact Agr.tr Agr.rf (fbX11_goesAlong_130_234 x  S 0 _ _ hm)
set_option maxHeartbeats 4000000 in
set_option maxRecDepth 20000 in
theorem fbX11_goesAlong_130_211 (x : XT)  (S : ST) (t1 : Int32) (r : Unit) (S' : ST) (hm : bfX11_goesAlong_130_211 x  S t1 = some (r, S')) : Agr wX11_goesAlong_130 S S' := by
    unfold bfX11_goesAlong_130_211 at hm
    obtain ⟨o1, hm⟩ := oblk hm
    by_cases c2 : t1 = 0
    · rw [if_pos c2] at hm
      exact Agr.tr (Agr.f Agr.rf 130 48 t1 (by decide)) (fbX11_goesAlong_130_233 x  ((u2 S.1 130 48 t1), S.2.1, S.2.2.1, S.2.2.2) _ _ hm)
    · rw [if_neg c2] at hm
      by_cases c3 : ¬ (S.1 130 24) = 0
      · rw [if_pos c3] at hm
        exact Agr.tr (Agr.f Agr.rf 130 48 t1 (by decide)) (fbX11_goesAlong_130_233 x  ((u2 S.1 130 48 t1), S.2.1, S.2.2.1, S.2.2.2) _ _ hm)
      · rw [if_neg c3] at hm
        exact Agr.tr (Agr.f Agr.rf 130 48 t1 (by decide)) (fbX11_goesAlong_130_234 x  ((u2 S.1 130 48 t1), S.2.1, S.2.2.1, S.2.2.2) 1 _ _ hm)
set_option maxHeartbeats 4000000 in
set_option maxRecDepth 20000 in
theorem fbX11_goesAlong_130_206 (x : XT)  (S : ST)  (r : Unit) (S' : ST) (hm : bfX11_goesAlong_130_206 x  S  = some (r, S')) : Agr wX11_goesAlong_130 S S' := by
    unfold bfX11_goesAlong_130_206 at hm
    exact Agr.tr Agr.rf (fbX11_goesAlong_130_211 x  S 1 _ _ hm)
set_option maxHeartbeats 4000000 in
set_option maxRecDepth 20000 in
theorem fbX11_goesAlong_130_184 (x : XT)  (S : ST) (v2 : Int32) (r : Unit) (S' : ST) (hm : bfX11_goesAlong_130_184 x  S v2 = some (r, S')) : Agr wX11_goesAlong_130 S S' := by
    unfold bfX11_goesAlong_130_184 at hm
    cases h1 : gfX11_passes0_130 x ((u2 S.1 130 24 0), S.2.1, S.2.2.1, S.2.2.2) 4 with
    | none => rw [h1] at hm; cases hm
    | some q2 =>
      obtain ⟨r3, S4⟩ := q2
      rw [h1] at hm
      dsimp only at hm
      have a_S4 : Agr wX11_goesAlong_130 S S4 := Agr.tr (Agr.f Agr.rf 130 24 0 (by decide)) (Agr.sub (frX11_passes0_130 x ((u2 S.1 130 24 0), S.2.1, S.2.2.1, S.2.2.2) 4 _ _ h1) (by decide))
      by_cases c5 : r3 = 0
      · rw [if_pos c5] at hm
        exact Agr.tr a_S4 (fbX11_goesAlong_130_206 x  S4 _ _ hm)
      · rw [if_neg c5] at hm
        cases h6 : gfX11_testOf_130 x S4 v2 with
        | none => rw [h6] at hm; cases hm
        | some q7 =>
          obtain ⟨r8, S9⟩ := q7
          rw [h6] at hm
          dsimp only at hm
          have a_S9 : Agr wX11_goesAlong_130 S S9 := Agr.tr a_S4 (Agr.sub (frX11_testOf_130 x S4 v2 _ _ h6) (by decide))
          by_cases c10 : r8 = 0
          · rw [if_pos c10] at hm
            exact Agr.tr a_S9 (fbX11_goesAlong_130_211 x  S9 0 _ _ hm)
          · rw [if_neg c10] at hm
            exact Agr.tr a_S9 (fbX11_goesAlong_130_206 x  S9 _ _ hm)
set_option maxHeartbeats 4000000 in
set_option maxRecDepth 20000 in
theorem fbX11_goesAlong_130_134 (x : XT) (k76 : ST → Int32 → Int32 → Int32 → Option (Unit × ST)) (ak76 : ∀ (S : ST) (v2 : Int32) (v3 : Int32) (v4 : Int32) (r : Unit) (S' : ST), k76 S v2 v3 v4 = some (r, S') → Agr wX11_goesAlong_130 S S') (S : ST) (v2 : Int32) (v3 : Int32) (v4 : Int32) (t1 : Int32) (r : Unit) (S' : ST) (hm : bfX11_goesAlong_130_134 x k76 S v2 v3 v4 t1 = some (r, S')) : Agr wX11_goesAlong_130 S S' := by
    unfold bfX11_goesAlong_130_134 at hm
    obtain ⟨o1, hm⟩ := oblk hm
    exact Agr.tr (Agr.f Agr.rf 130 47 t1 (by decide)) (ak76 ((u2 S.1 130 47 t1), S.2.1, S.2.2.1, S.2.2.2) v2 v3 (v4 + 1) _ _ hm)
set_option maxHeartbeats 4000000 in
set_option maxRecDepth 20000 in
theorem fbX11_goesAlong_130_133 (x : XT) (k76 : ST → Int32 → Int32 → Int32 → Option (Unit × ST)) (ak76 : ∀ (S : ST) (v2 : Int32) (v3 : Int32) (v4 : Int32) (r : Unit) (S' : ST), k76 S v2 v3 v4 = some (r, S') → Agr wX11_goesAlong_130 S S') (S : ST) (v2 : Int32) (v3 : Int32) (v4 : Int32) (r : Unit) (S' : ST) (hm : bfX11_goesAlong_130_133 x k76 S v2 v3 v4 = some (r, S')) : Agr wX11_goesAlong_130 S S' := by
    unfold bfX11_goesAlong_130_133 at hm
    exact Agr.tr Agr.rf (fbX11_goesAlong_130_134 x k76 ak76 S v2 v3 v4 0 _ _ hm)
set_option maxHeartbeats 4000000 in
set_option maxRecDepth 20000 in
theorem fbX11_goesAlong_130_97 (x : XT) (k76 : ST → Int32 → Int32 → Int32 → Option (Unit × ST)) (ak76 : ∀ (S : ST) (v2 : Int32) (v3 : Int32) (v4 : Int32) (r : Unit) (S' : ST), k76 S v2 v3 v4 = some (r, S') → Agr wX11_goesAlong_130 S S') (S : ST) (v2 : Int32) (v3 : Int32) (v4 : Int32) (r : Unit) (S' : ST) (hm : bfX11_goesAlong_130_97 x k76 S v2 v3 v4 = some (r, S')) : Agr wX11_goesAlong_130 S S' := by
    unfold bfX11_goesAlong_130_97 at hm
    cases h1 : gfX11_sumOf_130 x ((u2 S.1 130 24 0), S.2.1, S.2.2.1, S.2.2.2) v2 with
    | none => rw [h1] at hm; cases hm
    | some q2 =>
      obtain ⟨r3, S4⟩ := q2
      rw [h1] at hm
      dsimp only at hm
      have a_S4 : Agr wX11_goesAlong_130 S S4 := Agr.tr (Agr.f Agr.rf 130 24 0 (by decide)) (Agr.sub (frX11_sumOf_130 x ((u2 S.1 130 24 0), S.2.1, S.2.2.1, S.2.2.2) v2 _ _ h1) (by decide))
      obtain ⟨o5, hm⟩ := oblk hm
      by_cases c6 : (S4.1 130 47) = 0
      · rw [if_pos c6] at hm
        exact Agr.tr (Agr.j a_S4 156 v4.toNatClampNeg r3 (by decide)) (fbX11_goesAlong_130_133 x k76 ak76 (S4.1, S4.2.1, (u2 S4.2.2.1 156 v4.toNatClampNeg r3), S4.2.2.2) v2 v3 v4 _ _ hm)
      · rw [if_neg c6] at hm
        by_cases c7 : ¬ (S4.1 130 24) = 0
        · rw [if_pos c7] at hm
          exact Agr.tr (Agr.j a_S4 156 v4.toNatClampNeg r3 (by decide)) (fbX11_goesAlong_130_133 x k76 ak76 (S4.1, S4.2.1, (u2 S4.2.2.1 156 v4.toNatClampNeg r3), S4.2.2.2) v2 v3 v4 _ _ hm)
        · rw [if_neg c7] at hm
          exact Agr.tr (Agr.j a_S4 156 v4.toNatClampNeg r3 (by decide)) (fbX11_goesAlong_130_134 x k76 ak76 (S4.1, S4.2.1, (u2 S4.2.2.1 156 v4.toNatClampNeg r3), S4.2.2.2) v2 v3 v4 1 _ _ hm)
set_option maxHeartbeats 4000000 in
set_option maxRecDepth 20000 in
theorem fbX11_goesAlong_130_76 (x : XT) (k76 : ST → Int32 → Int32 → Int32 → Option (Unit × ST)) (ak76 : ∀ (S : ST) (v2 : Int32) (v3 : Int32) (v4 : Int32) (r : Unit) (S' : ST), k76 S v2 v3 v4 = some (r, S') → Agr wX11_goesAlong_130 S S') (S : ST) (v2 : Int32) (v3 : Int32) (v4 : Int32) (r : Unit) (S' : ST) (hm : bfX11_goesAlong_130_76 x k76 S v2 v3 v4 = some (r, S')) : Agr wX11_goesAlong_130 S S' := by
    unfold bfX11_goesAlong_130_76 at hm
    by_cases c1 : v3 ≤ v4
    · rw [if_pos c1] at hm
      cases h2 : gfX11_passes0_130 x ((u2 S.1 130 45 1), S.2.1, S.2.2.1, S.2.2.2) 26 with
      | none => rw [h2] at hm; cases hm
      | some q3 =>
        obtain ⟨r4, S5⟩ := q3
        rw [h2] at hm
        dsimp only at hm
        have a_S5 : Agr wX11_goesAlong_130 S S5 := Agr.tr (Agr.f Agr.rf 130 45 1 (by decide)) (Agr.sub (frX11_passes0_130 x ((u2 S.1 130 45 1), S.2.1, S.2.2.1, S.2.2.2) 26 _ _ h2) (by decide))
        by_cases c6 : r4 = 0
        · rw [if_pos c6] at hm
          exact Agr.tr a_S5 (fbX11_goesAlong_130_184 x  S5 v2 _ _ hm)
        · rw [if_neg c6] at hm
          obtain ⟨o7, hm⟩ := oblk hm
          exact Agr.tr (Agr.f (Agr.f a_S5 130 45 (S5.2.1 132 ((2903 + (S5.1 130 22)).toNatClampNeg)) (by decide)) 130 22 ((S5.1 130 22) + 1) (by decide)) (fbX11_goesAlong_130_184 x  ((u2 (u2 S5.1 130 45 (S5.2.1 132 ((2903 + (S5.1 130 22)).toNatClampNeg))) 130 22 ((S5.1 130 22) + 1)), S5.2.1, S5.2.2.1, S5.2.2.2) v2 _ _ hm)
    · rw [if_neg c1] at hm
      by_cases c8 : v4 ≤ 0
      · rw [if_pos c8] at hm
        exact Agr.tr Agr.rf (fbX11_goesAlong_130_97 x k76 ak76 S v2 v3 v4 _ _ hm)
      · rw [if_neg c8] at hm
        exact Agr.tr (Agr.f Agr.rf 130 22 ((S.1 130 22) + 1) (by decide)) (fbX11_goesAlong_130_97 x k76 ak76 ((u2 S.1 130 22 ((S.1 130 22) + 1)), S.2.1, S.2.2.1, S.2.2.2) v2 v3 v4 _ _ hm)
theorem flX11_goesAlong_130_76 (x : XT)  : ∀ (n : Nat) (S : ST) (v2 : Int32) (v3 : Int32) (v4 : Int32) (r : Unit) (S' : ST), lfX11_goesAlong_130_76 x  n S v2 v3 v4 = some (r, S') → Agr wX11_goesAlong_130 S S'
  | 0, _, _, _, _, _, _, hm => by cases hm
  | n + 1, S, v2, v3, v4, r, S', hm => fbX11_goesAlong_130_76 x (lfX11_goesAlong_130_76 x  n) (flX11_goesAlong_130_76 x  n) S v2 v3 v4 r S' hm
set_option maxHeartbeats 4000000 in
set_option maxRecDepth 20000 in
theorem fbX11_goesAlong_130_72 (x : XT)  (S : ST) (v2 : Int32) (t0 : Int32) (r : Unit) (S' : ST) (hm : bfX11_goesAlong_130_72 x  S v2 t0 = some (r, S')) : Agr wX11_goesAlong_130 S S' := by
    unfold bfX11_goesAlong_130_72 at hm
    exact Agr.tr Agr.rf (flX11_goesAlong_130_76 x  20000 S v2 t0 0 _ _ hm)
set_option maxHeartbeats 4000000 in
set_option maxRecDepth 20000 in
theorem fbX11_goesAlong_130_0 (x : XT)  (S : ST) (p1 : Int32) (p2 : Int32) (r : Unit) (S' : ST) (hm : bfX11_goesAlong_130_0 x  S p1 p2 = some (r, S')) : Agr wX11_goesAlong_130 S S' := by
    unfold bfX11_goesAlong_130_0 at hm
    cases h1 : gfX11_codeAt_130 x ((u2 (u2 (u2 S.1 130 25 1) 130 23 p1) 130 22 (S.1 130 44)), S.2.1, S.2.2.1, S.2.2.2) (S.1 130 44) with
    | none => rw [h1] at hm; cases hm
    | some q2 =>
      obtain ⟨r3, S4⟩ := q2
      rw [h1] at hm
      dsimp only at hm
      have a_S4 : Agr wX11_goesAlong_130 S S4 := Agr.tr (Agr.f (Agr.f (Agr.f Agr.rf 130 25 1 (by decide)) 130 23 p1 (by decide)) 130 22 (S.1 130 44) (by decide)) (Agr.sub (frX11_codeAt_130 x ((u2 (u2 (u2 S.1 130 25 1) 130 23 p1) 130 22 (S.1 130 44)), S.2.1, S.2.2.1, S.2.2.2) (S.1 130 44) _ _ h1) (by decide))
      by_cases c5 : ¬ r3 = 25
      · rw [if_pos c5] at hm
        by_cases c6 : ¬ r3 = 22
        · rw [if_pos c6] at hm
          exact Agr.tr (Agr.f (Agr.f (Agr.f a_S4 130 46 r3 (by decide)) 130 22 ((S4.1 130 22) + 1) (by decide)) 130 47 1 (by decide)) (fbX11_goesAlong_130_72 x  ((u2 (u2 (u2 S4.1 130 46 r3) 130 22 ((S4.1 130 22) + 1)) 130 47 1), S4.2.1, S4.2.2.1, S4.2.2.2) p2 2 _ _ hm)
        · rw [if_neg c6] at hm
          exact Agr.tr (Agr.f (Agr.f (Agr.f a_S4 130 46 r3 (by decide)) 130 22 ((S4.1 130 22) + 1) (by decide)) 130 47 1 (by decide)) (fbX11_goesAlong_130_72 x  ((u2 (u2 (u2 S4.1 130 46 r3) 130 22 ((S4.1 130 22) + 1)) 130 47 1), S4.2.1, S4.2.2.1, S4.2.2.2) p2 1 _ _ hm)
      · rw [if_neg c5] at hm
        exact Agr.tr (Agr.f (Agr.f (Agr.f a_S4 130 46 r3 (by decide)) 130 22 ((S4.1 130 22) + 1) (by decide)) 130 47 1 (by decide)) (fbX11_goesAlong_130_72 x  ((u2 (u2 (u2 S4.1 130 46 r3) 130 22 ((S4.1 130 22) + 1)) 130 47 1), S4.2.1, S4.2.2.1, S4.2.2.2) p2 0 _ _ hm)
theorem frX11_goesAlong_130 (x : XT) (S : ST) (p1 : Int32) (p2 : Int32) (r : Unit) (S' : ST) (hm : gfX11_goesAlong_130 x S p1 p2 = some (r, S')) : Agr wX11_goesAlong_130 S S' := fbX11_goesAlong_130_0 x S p1 p2 r S' hm
def wX11_small : List (Nat × Nat) × List Nat × List Nat × List Nat := ([], [], [], [])
set_option maxHeartbeats 4000000 in
set_option maxRecDepth 20000 in
theorem fbX11_small_20 (x : XT)  (S : ST) (t0 : Int32) (r : Int32) (S' : ST) (hm : bfX11_small_20 x  S t0 = some (r, S')) : Agr wX11_small S S' := by
    unfold bfX11_small_20 at hm
    cases hm
    exact Agr.rf
set_option maxHeartbeats 4000000 in
set_option maxRecDepth 20000 in
theorem fbX11_small_14 (x : XT)  (S : ST)  (r : Int32) (S' : ST) (hm : bfX11_small_14 x  S  = some (r, S')) : Agr wX11_small S S' := by
    unfold bfX11_small_14 at hm
    exact Agr.tr Agr.rf (fbX11_small_20 x  S (-1) _ _ hm)
set_option maxHeartbeats 4000000 in
set_option maxRecDepth 20000 in
theorem fbX11_small_0 (x : XT)  (S : ST) (p0 : Int64) (r : Int32) (S' : ST) (hm : bfX11_small_0 x  S p0 = some (r, S')) : Agr wX11_small S S' := by
    unfold bfX11_small_0 at hm
    by_cases c1 : (lg_cmp p0 0) < 0
    · rw [if_pos c1] at hm
      exact Agr.tr Agr.rf (fbX11_small_14 x  S _ _ hm)
    · rw [if_neg c1] at hm
      by_cases c2 : (lg_cmp p0 1000000) ≤ 0
      · rw [if_pos c2] at hm
        exact Agr.tr Agr.rf (fbX11_small_20 x  S p0.toInt32 _ _ hm)
      · rw [if_neg c2] at hm
        exact Agr.tr Agr.rf (fbX11_small_14 x  S _ _ hm)
theorem frX11_small (x : XT) (S : ST) (p0 : Int64) (r : Int32) (S' : ST) (hm : gfX11_small x S p0 = some (r, S')) : Agr wX11_small S S' := fbX11_small_0 x S p0 r S' hm
def wX11_obeys_130 : List (Nat × Nat) × List Nat × List Nat × List Nat := ([(130, 22), (130, 23), (130, 24), (130, 25), (130, 28), (130, 31)], [132, 142, 143], [], [])
set_option maxHeartbeats 4000000 in
set_option maxRecDepth 20000 in
theorem fbX11_obeys_130_98 (x : XT)  (S : ST) (v2 : Int32) (t1 : Int32) (r : Int32) (S' : ST) (hm : bfX11_obeys_130_98 x  S v2 t1 = some (r, S')) : Agr wX11_obeys_130 S S' := by
    unfold bfX11_obeys_130_98 at hm
    cases hm
    exact (Agr.f Agr.rf 130 28 t1 (by decide))
set_option maxHeartbeats 4000000 in
set_option maxRecDepth 20000 in
theorem fbX11_obeys_130_0 (x : XT)  (S : ST)  (r : Int32) (S' : ST) (hm : bfX11_obeys_130_0 x  S  = some (r, S')) : Agr wX11_obeys_130 S S' := by
    unfold bfX11_obeys_130_0 at hm
    cases h1 : gfX11_small x S (S.2.2.1 156 0) with
    | none => rw [h1] at hm; cases hm
    | some q2 =>
      obtain ⟨r3, S4⟩ := q2
      rw [h1] at hm
      dsimp only at hm
      have a_S4 : Agr wX11_obeys_130 S S4 := Agr.tr Agr.rf (Agr.sub (frX11_small x S (S.2.2.1 156 0) _ _ h1) (by decide))
      by_cases c5 : (S4.1 130 46) = 22
      · rw [if_pos c5] at hm
        cases h6 : gfX11_latchesKept_130 x S4 r3 with
        | none => rw [h6] at hm; cases hm
        | some q7 =>
          obtain ⟨r8, S9⟩ := q7
          rw [h6] at hm
          dsimp only at hm
          have a_S9 : Agr wX11_obeys_130 S S9 := Agr.tr a_S4 (Agr.sub (frX11_latchesKept_130 x S4 r3 _ _ h6) (by decide))
          cases hm
          exact a_S9
      rw [if_neg c5] at hm
      by_cases c10 : (S4.1 130 46) = 23
      · rw [if_pos c10] at hm
        cases h11 : gfX11_small x S4 (S4.2.2.1 156 1) with
        | none => rw [h11] at hm; cases hm
        | some q12 =>
          obtain ⟨r13, S14⟩ := q12
          rw [h11] at hm
          dsimp only at hm
          have a_S14 : Agr wX11_obeys_130 S S14 := Agr.tr a_S4 (Agr.sub (frX11_small x S4 (S4.2.2.1 156 1) _ _ h11) (by decide))
          cases h15 : gfX11_setsKept_130 x S14 r3 r13 with
          | none => rw [h15] at hm; cases hm
          | some q16 =>
            obtain ⟨r17, S18⟩ := q16
            rw [h15] at hm
            dsimp only at hm
            have a_S18 : Agr wX11_obeys_130 S S18 := Agr.tr a_S14 (Agr.sub (frX11_setsKept_130 x S14 r3 r13 _ _ h15) (by decide))
            cases hm
            exact a_S18
      rw [if_neg c10] at hm
      by_cases c19 : (S4.1 130 46) = 24
      · rw [if_pos c19] at hm
        cases h20 : gfX11_small x S4 (S4.2.2.1 156 1) with
        | none => rw [h20] at hm; cases hm
        | some q21 =>
          obtain ⟨r22, S23⟩ := q21
          rw [h20] at hm
          dsimp only at hm
          have a_S23 : Agr wX11_obeys_130 S S23 := Agr.tr a_S4 (Agr.sub (frX11_small x S4 (S4.2.2.1 156 1) _ _ h20) (by decide))
          cases h24 : gfX11_goesKept_130 x S23 r3 r22 with
          | none => rw [h24] at hm; cases hm
          | some q25 =>
            obtain ⟨r26, S27⟩ := q25
            rw [h24] at hm
            dsimp only at hm
            have a_S27 : Agr wX11_obeys_130 S S27 := Agr.tr a_S23 (Agr.sub (frX11_goesKept_130 x S23 r3 r22 _ _ h24) (by decide))
            by_cases c28 : 0 ≤ r26
            · rw [if_pos c28] at hm
              exact Agr.tr a_S27 (fbX11_obeys_130_98 x  S27 r26 r26 _ _ hm)
            · rw [if_neg c28] at hm
              exact Agr.tr a_S27 (fbX11_obeys_130_98 x  S27 r26 (S27.1 130 28) _ _ hm)
      rw [if_neg c19] at hm
      by_cases c29 : (S4.1 130 46) = 25
      · rw [if_pos c29] at hm
        cases h30 : gfX11_passesKept_130 x S4 with
        | none => rw [h30] at hm; cases hm
        | some q31 =>
          obtain ⟨r32, S33⟩ := q31
          rw [h30] at hm
          dsimp only at hm
          have a_S33 : Agr wX11_obeys_130 S S33 := Agr.tr a_S4 (Agr.sub (frX11_passesKept_130 x S4 _ _ h30) (by decide))
          cases hm
          exact a_S33
      rw [if_neg c29] at hm
      cases h34 : gfX11_small x S4 (S4.2.2.1 156 1) with
      | none => rw [h34] at hm; cases hm
      | some q35 =>
        obtain ⟨r36, S37⟩ := q35
        rw [h34] at hm
        dsimp only at hm
        have a_S37 : Agr wX11_obeys_130 S S37 := Agr.tr a_S4 (Agr.sub (frX11_small x S4 (S4.2.2.1 156 1) _ _ h34) (by decide))
        cases h38 : gfX11_goesKept_130 x S37 r3 r36 with
        | none => rw [h38] at hm; cases hm
        | some q39 =>
          obtain ⟨r40, S41⟩ := q39
          rw [h38] at hm
          dsimp only at hm
          have a_S41 : Agr wX11_obeys_130 S S41 := Agr.tr a_S37 (Agr.sub (frX11_goesKept_130 x S37 r3 r36 _ _ h38) (by decide))
          by_cases c42 : 0 ≤ r40
          · rw [if_pos c42] at hm
            exact Agr.tr a_S41 (fbX11_obeys_130_98 x  S41 r40 r40 _ _ hm)
          · rw [if_neg c42] at hm
            exact Agr.tr a_S41 (fbX11_obeys_130_98 x  S41 r40 (S41.1 130 28) _ _ hm)
theorem frX11_obeys_130 (x : XT) (S : ST)  (r : Int32) (S' : ST) (hm : gfX11_obeys_130 x S  = some (r, S')) : Agr wX11_obeys_130 S S' := fbX11_obeys_130_0 x S  r S' hm
def wX11_runs_130 : List (Nat × Nat) × List Nat × List Nat × List Nat := ([(130, 22), (130, 23), (130, 24), (130, 25), (130, 27), (130, 28), (130, 31), (130, 44), (130, 45), (130, 46), (130, 47), (130, 48)], [132, 142, 143], [156], [])
set_option maxHeartbeats 4000000 in
set_option maxRecDepth 20000 in
theorem fbX11_runs_130_55 (x : XT)  (S : ST)  (r : Int32) (S' : ST) (hm : bfX11_runs_130_55 x  S  = some (r, S')) : Agr wX11_runs_130 S S' := by
    unfold bfX11_runs_130_55 at hm
    cases hm
    exact Agr.rf
set_option maxHeartbeats 4000000 in
set_option maxRecDepth 20000 in
theorem fbX11_runs_130_67 (x : XT) (k19 : ST → Int32 → Int32 → Int32 → Int32 → Option (Int32 × ST)) (ak19 : ∀ (S : ST) (v1 : Int32) (v2 : Int32) (v3 : Int32) (v4 : Int32) (r : Int32) (S' : ST), k19 S v1 v2 v3 v4 = some (r, S') → Agr wX11_runs_130 S S') (S : ST) (v1 : Int32) (v2 : Int32) (v3 : Int32) (v4 : Int32) (r : Int32) (S' : ST) (hm : bfX11_runs_130_67 x k19 S v1 v2 v3 v4 = some (r, S')) : Agr wX11_runs_130 S S' := by
    unfold bfX11_runs_130_67 at hm
    exact Agr.tr Agr.rf (ak19 S v1 v2 v3 (v4 + 1) _ _ hm)
set_option maxHeartbeats 4000000 in
set_option maxRecDepth 20000 in
theorem fbX11_runs_130_19 (x : XT) (k19 : ST → Int32 → Int32 → Int32 → Int32 → Option (Int32 × ST)) (ak19 : ∀ (S : ST) (v1 : Int32) (v2 : Int32) (v3 : Int32) (v4 : Int32) (r : Int32) (S' : ST), k19 S v1 v2 v3 v4 = some (r, S') → Agr wX11_runs_130 S S') (S : ST) (v1 : Int32) (v2 : Int32) (v3 : Int32) (v4 : Int32) (r : Int32) (S' : ST) (hm : bfX11_runs_130_19 x k19 S v1 v2 v3 v4 = some (r, S')) : Agr wX11_runs_130 S S' := by
    unfold bfX11_runs_130_19 at hm
    by_cases c1 : v2 ≤ v4
    · rw [if_pos c1] at hm
      cases hm
      exact (Agr.f Agr.rf 130 44 v3 (by decide))
    · rw [if_neg c1] at hm
      cases h2 : gfX11_goesAlong_130 x S v1 1 with
      | none => rw [h2] at hm; cases hm
      | some q3 =>
        obtain ⟨r4, S5⟩ := q3
        rw [h2] at hm
        dsimp only at hm
        have a_S5 : Agr wX11_runs_130 S S5 := Agr.tr Agr.rf (Agr.sub (frX11_goesAlong_130 x S v1 1 _ _ h2) (by decide))
        by_cases c6 : ¬ (S5.1 130 48) = 0
        · rw [if_pos c6] at hm
          by_cases c7 : (S5.1 130 47) = 0
          · rw [if_pos c7] at hm
            exact Agr.tr a_S5 (fbX11_runs_130_55 x  S5 _ _ hm)
          · rw [if_neg c7] at hm
            cases h8 : gfX11_obeys_130 x S5 with
            | none => rw [h8] at hm; cases hm
            | some q9 =>
              obtain ⟨r10, S11⟩ := q9
              rw [h8] at hm
              dsimp only at hm
              have a_S11 : Agr wX11_runs_130 S S11 := Agr.tr a_S5 (Agr.sub (frX11_obeys_130 x S5 _ _ h8) (by decide))
              by_cases c12 : 0 ≤ r10
              · rw [if_pos c12] at hm
                exact Agr.tr (Agr.f a_S11 130 27 ((S11.1 130 27) + 1) (by decide)) (fbX11_runs_130_67 x k19 ak19 ((u2 S11.1 130 27 ((S11.1 130 27) + 1)), S11.2.1, S11.2.2.1, S11.2.2.2) v1 v2 v3 v4 _ _ hm)
              · rw [if_neg c12] at hm
                exact Agr.tr a_S11 (fbX11_runs_130_55 x  S11 _ _ hm)
        · rw [if_neg c6] at hm
          exact Agr.tr a_S5 (fbX11_runs_130_67 x k19 ak19 S5 v1 v2 v3 v4 _ _ hm)
theorem flX11_runs_130_19 (x : XT)  : ∀ (n : Nat) (S : ST) (v1 : Int32) (v2 : Int32) (v3 : Int32) (v4 : Int32) (r : Int32) (S' : ST), lfX11_runs_130_19 x  n S v1 v2 v3 v4 = some (r, S') → Agr wX11_runs_130 S S'
  | 0, _, _, _, _, _, _, _, hm => by cases hm
  | n + 1, S, v1, v2, v3, v4, r, S', hm => fbX11_runs_130_19 x (lfX11_runs_130_19 x  n) (flX11_runs_130_19 x  n) S v1 v2 v3 v4 r S' hm
set_option maxHeartbeats 4000000 in
set_option maxRecDepth 20000 in
theorem fbX11_runs_130_0 (x : XT)  (S : ST) (p1 : Int32) (r : Int32) (S' : ST) (hm : bfX11_runs_130_0 x  S p1 = some (r, S')) : Agr wX11_runs_130 S S' := by
    unfold bfX11_runs_130_0 at hm
    cases h1 : gfX11_goesAlong_130 x S p1 0 with
    | none => rw [h1] at hm; cases hm
    | some q2 =>
      obtain ⟨r3, S4⟩ := q2
      rw [h1] at hm
      dsimp only at hm
      have a_S4 : Agr wX11_runs_130 S S4 := Agr.tr Agr.rf (Agr.sub (frX11_goesAlong_130 x S p1 0 _ _ h1) (by decide))
      exact Agr.tr a_S4 (flX11_runs_130_19 x  20000 S4 p1 (S4.1 130 45) (S4.1 130 22) 0 _ _ hm)
theorem frX11_runs_130 (x : XT) (S : ST) (p1 : Int32) (r : Int32) (S' : ST) (hm : gfX11_runs_130 x S p1 = some (r, S')) : Agr wX11_runs_130 S S' := fbX11_runs_130_0 x S p1 r S' hm
def wX11_orders_130 : List (Nat × Nat) × List Nat × List Nat × List Nat := ([(130, 0), (130, 8), (130, 9), (130, 10), (130, 13), (130, 14), (130, 18), (130, 19), (130, 20), (130, 21), (130, 22), (130, 23), (130, 24), (130, 25), (130, 27), (130, 28), (130, 31), (130, 43), (130, 44), (130, 45), (130, 46), (130, 47), (130, 48)], [131, 132, 135, 139, 140, 141, 142, 143, 144], [156], [])
set_option maxHeartbeats 4000000 in
set_option maxRecDepth 20000 in
theorem fbX11_orders_130_122 (x : XT) (k122 : ST → Int32 → Int32 → Int32 → Option (Int32 × ST)) (ak122 : ∀ (S : ST) (v1 : Int32) (v3 : Int32) (v4 : Int32) (r : Int32) (S' : ST), k122 S v1 v3 v4 = some (r, S') → Agr wX11_orders_130 S S') (S : ST) (v1 : Int32) (v3 : Int32) (v4 : Int32) (r : Int32) (S' : ST) (hm : bfX11_orders_130_122 x k122 S v1 v3 v4 = some (r, S')) : Agr wX11_orders_130 S S' := by
    unfold bfX11_orders_130_122 at hm
    by_cases c1 : 592 ≤ v4
    · rw [if_pos c1] at hm
      cases h2 : gfX11_refuses_130 x ((u2 (u2 S.1 130 31 v1) 130 43 v3), S.2.1, S.2.2.1, S.2.2.2) (-3) with
      | none => rw [h2] at hm; cases hm
      | some q3 =>
        obtain ⟨r4, S5⟩ := q3
        rw [h2] at hm
        dsimp only at hm
        have a_S5 : Agr wX11_orders_130 S S5 := Agr.tr (Agr.f (Agr.f Agr.rf 130 31 v1 (by decide)) 130 43 v3 (by decide)) (Agr.sub (frX11_refuses_130 x ((u2 (u2 S.1 130 31 v1) 130 43 v3), S.2.1, S.2.2.1, S.2.2.2) (-3) _ _ h2) (by decide))
        cases hm
        exact a_S5
    · rw [if_neg c1] at hm
      obtain ⟨o6, hm⟩ := oblk hm
      obtain ⟨o7, hm⟩ := oblk hm
      exact Agr.tr (Agr.i Agr.rf 143 v4.toNatClampNeg (S.2.1 144 v4.toNatClampNeg) (by decide)) (ak122 (S.1, (u2 S.2.1 143 v4.toNatClampNeg (S.2.1 144 v4.toNatClampNeg)), S.2.2.1, S.2.2.2) v1 v3 (v4 + 1) _ _ hm)
theorem flX11_orders_130_122 (x : XT)  : ∀ (n : Nat) (S : ST) (v1 : Int32) (v3 : Int32) (v4 : Int32) (r : Int32) (S' : ST), lfX11_orders_130_122 x  n S v1 v3 v4 = some (r, S') → Agr wX11_orders_130 S S'
  | 0, _, _, _, _, _, _, hm => by cases hm
  | n + 1, S, v1, v3, v4, r, S', hm => fbX11_orders_130_122 x (lfX11_orders_130_122 x  n) (flX11_orders_130_122 x  n) S v1 v3 v4 r S' hm
set_option maxHeartbeats 4000000 in
set_option maxRecDepth 20000 in
theorem fbX11_orders_130_95 (x : XT) (k95 : ST → Int32 → Int32 → Int32 → Option (Int32 × ST)) (ak95 : ∀ (S : ST) (v1 : Int32) (v2 : Int32) (v3 : Int32) (r : Int32) (S' : ST), k95 S v1 v2 v3 = some (r, S') → Agr wX11_orders_130 S S') (S : ST) (v1 : Int32) (v2 : Int32) (v3 : Int32) (r : Int32) (S' : ST) (hm : bfX11_orders_130_95 x k95 S v1 v2 v3 = some (r, S')) : Agr wX11_orders_130 S S' := by
    unfold bfX11_orders_130_95 at hm
    by_cases c1 : v2 ≤ (S.1 130 44)
    · rw [if_pos c1] at hm
      cases h2 : gfX11_good_130 x S (S.1 130 27) with
      | none => rw [h2] at hm; cases hm
      | some q3 =>
        obtain ⟨r4, S5⟩ := q3
        rw [h2] at hm
        dsimp only at hm
        have a_S5 : Agr wX11_orders_130 S S5 := Agr.tr Agr.rf (Agr.sub (frX11_good_130 x S (S.1 130 27) _ _ h2) (by decide))
        cases hm
        exact a_S5
    · rw [if_neg c1] at hm
      cases h6 : gfX11_runs_130 x S v2 with
      | none => rw [h6] at hm; cases hm
      | some q7 =>
        obtain ⟨r8, S9⟩ := q7
        rw [h6] at hm
        dsimp only at hm
        have a_S9 : Agr wX11_orders_130 S S9 := Agr.tr Agr.rf (Agr.sub (frX11_runs_130 x S v2 _ _ h6) (by decide))
        by_cases c10 : r8 = 0
        · rw [if_pos c10] at hm
          cases h11 : gfX11_takesBack_130 x S9 1 with
          | none => rw [h11] at hm; cases hm
          | some q12 =>
            obtain ⟨r13, S14⟩ := q12
            rw [h11] at hm
            dsimp only at hm
            have a_S14 : Agr wX11_orders_130 S S14 := Agr.tr a_S9 (Agr.sub (frX11_takesBack_130 x S9 1 _ _ h11) (by decide))
            exact Agr.tr a_S14 (flX11_orders_130_122 x  20000 S14 v1 v3 0 _ _ hm)
        · rw [if_neg c10] at hm
          exact Agr.tr a_S9 (ak95 S9 v1 v2 (v3 + 1) _ _ hm)
theorem flX11_orders_130_95 (x : XT)  : ∀ (n : Nat) (S : ST) (v1 : Int32) (v2 : Int32) (v3 : Int32) (r : Int32) (S' : ST), lfX11_orders_130_95 x  n S v1 v2 v3 = some (r, S') → Agr wX11_orders_130 S S'
  | 0, _, _, _, _, _, _, hm => by cases hm
  | n + 1, S, v1, v2, v3, r, S', hm => fbX11_orders_130_95 x (lfX11_orders_130_95 x  n) (flX11_orders_130_95 x  n) S v1 v2 v3 r S' hm
set_option maxHeartbeats 4000000 in
set_option maxRecDepth 20000 in
theorem fbX11_orders_130_27 (x : XT) (k27 : ST → Int32 → Option (Int32 × ST)) (ak27 : ∀ (S : ST) (v1 : Int32) (r : Int32) (S' : ST), k27 S v1 = some (r, S') → Agr wX11_orders_130 S S') (S : ST) (v1 : Int32) (r : Int32) (S' : ST) (hm : bfX11_orders_130_27 x k27 S v1 = some (r, S')) : Agr wX11_orders_130 S S' := by
    unfold bfX11_orders_130_27 at hm
    by_cases c1 : 592 ≤ v1
    · rw [if_pos c1] at hm
      cases h2 : gfX11_lays_130 x S 6 with
      | none => rw [h2] at hm; cases hm
      | some q3 =>
        obtain ⟨r4, S5⟩ := q3
        rw [h2] at hm
        dsimp only at hm
        have a_S5 : Agr wX11_orders_130 S S5 := Agr.tr Agr.rf (Agr.sub (frX11_lays_130 x S 6 _ _ h2) (by decide))
        exact Agr.tr (Agr.f (Agr.f (Agr.f a_S5 130 27 0 (by decide)) 130 28 (-1) (by decide)) 130 44 2400 (by decide)) (flX11_orders_130_95 x  20000 ((u2 (u2 (u2 S5.1 130 27 0) 130 28 (-1)) 130 44 2400), S5.2.1, S5.2.2.1, S5.2.2.2) (S.1 130 31) (2400 + (S5.2.1 132 102)) 0 _ _ hm)
    · rw [if_neg c1] at hm
      obtain ⟨o6, hm⟩ := oblk hm
      obtain ⟨o7, hm⟩ := oblk hm
      exact Agr.tr (Agr.i Agr.rf 144 v1.toNatClampNeg (S.2.1 143 v1.toNatClampNeg) (by decide)) (ak27 (S.1, (u2 S.2.1 144 v1.toNatClampNeg (S.2.1 143 v1.toNatClampNeg)), S.2.2.1, S.2.2.2) (v1 + 1) _ _ hm)
theorem flX11_orders_130_27 (x : XT)  : ∀ (n : Nat) (S : ST) (v1 : Int32) (r : Int32) (S' : ST), lfX11_orders_130_27 x  n S v1 = some (r, S') → Agr wX11_orders_130 S S'
  | 0, _, _, _, _, hm => by cases hm
  | n + 1, S, v1, r, S', hm => fbX11_orders_130_27 x (lfX11_orders_130_27 x  n) (flX11_orders_130_27 x  n) S v1 r S' hm
set_option maxHeartbeats 4000000 in
set_option maxRecDepth 20000 in
theorem fbX11_orders_130_0 (x : XT)  (S : ST)  (r : Int32) (S' : ST) (hm : bfX11_orders_130_0 x  S  = some (r, S')) : Agr wX11_orders_130 S S' := by
    unfold bfX11_orders_130_0 at hm
    cases h1 : gfX11_readsAs_130 x ((u2 S.1 130 43 (-1)), S.2.1, S.2.2.1, S.2.2.2) 1 with
    | none => rw [h1] at hm; cases hm
    | some q2 =>
      obtain ⟨r3, S4⟩ := q2
      rw [h1] at hm
      dsimp only at hm
      have a_S4 : Agr wX11_orders_130 S S4 := Agr.tr (Agr.f Agr.rf 130 43 (-1) (by decide)) (Agr.sub (frX11_readsAs_130 x ((u2 S.1 130 43 (-1)), S.2.1, S.2.2.1, S.2.2.2) 1 _ _ h1) (by decide))
      by_cases c5 : ¬ r3 = 0
      · rw [if_pos c5] at hm
        cases h6 : gfX11_laysAside_130 x S4 1 with
        | none => rw [h6] at hm; cases hm
        | some q7 =>
          obtain ⟨r8, S9⟩ := q7
          rw [h6] at hm
          dsimp only at hm
          have a_S9 : Agr wX11_orders_130 S S9 := Agr.tr a_S4 (Agr.sub (frX11_laysAside_130 x S4 1 _ _ h6) (by decide))
          exact Agr.tr a_S9 (flX11_orders_130_27 x  20000 S9 0 _ _ hm)
      · rw [if_neg c5] at hm
        cases h10 : gfX11_refuses_130 x S4 (-6) with
        | none => rw [h10] at hm; cases hm
        | some q11 =>
          obtain ⟨r12, S13⟩ := q11
          rw [h10] at hm
          dsimp only at hm
          have a_S13 : Agr wX11_orders_130 S S13 := Agr.tr a_S4 (Agr.sub (frX11_refuses_130 x S4 (-6) _ _ h10) (by decide))
          cases hm
          exact a_S13
theorem frX11_orders_130 (x : XT) (S : ST)  (r : Int32) (S' : ST) (hm : gfX11_orders_130 x S  = some (r, S')) : Agr wX11_orders_130 S S' := fbX11_orders_130_0 x S  r S' hm
def wX11_draws_130 : List (Nat × Nat) × List Nat × List Nat × List Nat := ([(130, 52)], [], [], [])
set_option maxHeartbeats 4000000 in
set_option maxRecDepth 20000 in
theorem fbX11_draws_130_0 (x : XT)  (S : ST) (p1 : Int32) (r : Int32) (S' : ST) (hm : bfX11_draws_130_0 x  S p1 = some (r, S')) : Agr wX11_draws_130 S S' := by
    unfold bfX11_draws_130_0 at hm
    obtain ⟨o1, hm⟩ := oblk hm
    obtain ⟨rfl, rfl⟩ := Prod.mk.inj (Option.some.inj hm)
    exact (Agr.f Agr.rf 130 52 ((((1103 * ((S.1 130 52).toInt64)) + 12345) - ((1103 * ((S.1 130 52).toInt64)) + 12345) / 1000003 * 1000003).toInt32) (by decide))
theorem frX11_draws_130 (x : XT) (S : ST) (p1 : Int32) (r : Int32) (S' : ST) (hm : gfX11_draws_130 x S p1 = some (r, S')) : Agr wX11_draws_130 S S' := fbX11_draws_130_0 x S p1 r S' hm
def wX11_days_130 : List (Nat × Nat) × List Nat × List Nat × List Nat := ([(130, 0), (130, 22), (130, 23), (130, 24), (130, 25), (130, 51), (130, 52)], [131, 132, 135, 142, 157], [], [])
set_option maxHeartbeats 4000000 in
set_option maxRecDepth 20000 in
theorem fbX11_days_130_20 (x : XT)  (S : ST)  (r : Int32) (S' : ST) (hm : bfX11_days_130_20 x  S  = some (r, S')) : Agr wX11_days_130 S S' := by
    unfold bfX11_days_130_20 at hm
    cases h1 : gfX11_refuses_130 x S (-1) with
    | none => rw [h1] at hm; cases hm
    | some q2 =>
      obtain ⟨r3, S4⟩ := q2
      rw [h1] at hm
      dsimp only at hm
      have a_S4 : Agr wX11_days_130 S S4 := Agr.tr Agr.rf (Agr.sub (frX11_refuses_130 x S (-1) _ _ h1) (by decide))
      cases hm
      exact a_S4
set_option maxHeartbeats 4000000 in
set_option maxRecDepth 20000 in
theorem fbX11_days_130_43 (x : XT)  (S : ST)  (r : Int32) (S' : ST) (hm : bfX11_days_130_43 x  S  = some (r, S')) : Agr wX11_days_130 S S' := by
    unfold bfX11_days_130_43 at hm
    cases h1 : gfX11_refuses_130 x S (-3) with
    | none => rw [h1] at hm; cases hm
    | some q2 =>
      obtain ⟨r3, S4⟩ := q2
      rw [h1] at hm
      dsimp only at hm
      have a_S4 : Agr wX11_days_130 S S4 := Agr.tr Agr.rf (Agr.sub (frX11_refuses_130 x S (-3) _ _ h1) (by decide))
      cases hm
      exact a_S4
set_option maxHeartbeats 4000000 in
set_option maxRecDepth 20000 in
theorem fbX11_days_130_161 (x : XT) (k161 : ST → Int32 → Int32 → Option (Int32 × ST)) (ak161 : ∀ (S : ST) (v3 : Int32) (v4 : Int32) (r : Int32) (S' : ST), k161 S v3 v4 = some (r, S') → Agr wX11_days_130 S S') (S : ST) (v3 : Int32) (v4 : Int32) (r : Int32) (S' : ST) (hm : bfX11_days_130_161 x k161 S v3 v4 = some (r, S')) : Agr wX11_days_130 S S' := by
    unfold bfX11_days_130_161 at hm
    by_cases c1 : 36 ≤ v4
    · rw [if_pos c1] at hm
      cases h2 : gfX11_takesBack_130 x S 0 with
      | none => rw [h2] at hm; cases hm
      | some q3 =>
        obtain ⟨r4, S5⟩ := q3
        rw [h2] at hm
        dsimp only at hm
        have a_S5 : Agr wX11_days_130 S S5 := Agr.tr Agr.rf (Agr.sub (frX11_takesBack_130 x S 0 _ _ h2) (by decide))
        cases h6 : gfX11_good_130 x S5 v3 with
        | none => rw [h6] at hm; cases hm
        | some q7 =>
          obtain ⟨r8, S9⟩ := q7
          rw [h6] at hm
          dsimp only at hm
          have a_S9 : Agr wX11_days_130 S S9 := Agr.tr a_S5 (Agr.sub (frX11_good_130 x S5 v3 _ _ h6) (by decide))
          cases hm
          exact a_S9
    · rw [if_neg c1] at hm
      obtain ⟨o10, hm⟩ := oblk hm
      obtain ⟨o11, hm⟩ := oblk hm
      exact Agr.tr (Agr.i Agr.rf 157 v4.toNatClampNeg (S.2.1 132 v4.toNatClampNeg) (by decide)) (ak161 (S.1, (u2 S.2.1 157 v4.toNatClampNeg (S.2.1 132 v4.toNatClampNeg)), S.2.2.1, S.2.2.2) v3 (v4 + 1) _ _ hm)
theorem flX11_days_130_161 (x : XT)  : ∀ (n : Nat) (S : ST) (v3 : Int32) (v4 : Int32) (r : Int32) (S' : ST), lfX11_days_130_161 x  n S v3 v4 = some (r, S') → Agr wX11_days_130 S S'
  | 0, _, _, _, _, _, hm => by cases hm
  | n + 1, S, v3, v4, r, S', hm => fbX11_days_130_161 x (lfX11_days_130_161 x  n) (flX11_days_130_161 x  n) S v3 v4 r S' hm
set_option maxHeartbeats 4000000 in
set_option maxRecDepth 20000 in
theorem fbX11_days_130_158 (x : XT)  (S : ST) (v3 : Int32) (r : Int32) (S' : ST) (hm : bfX11_days_130_158 x  S v3 = some (r, S')) : Agr wX11_days_130 S S' := by
    unfold bfX11_days_130_158 at hm
    exact Agr.tr Agr.rf (flX11_days_130_161 x  20000 S v3 0 _ _ hm)
set_option maxHeartbeats 4000000 in
set_option maxRecDepth 20000 in
theorem fbX11_days_130_141 (x : XT) (k76 : ST → Int32 → Int32 → Int32 → Option (Int32 × ST)) (ak76 : ∀ (S : ST) (v2 : Int32) (v3 : Int32) (v4 : Int32) (r : Int32) (S' : ST), k76 S v2 v3 v4 = some (r, S') → Agr wX11_days_130 S S') (S : ST) (v2 : Int32) (v3 : Int32) (v4 : Int32) (r : Int32) (S' : ST) (hm : bfX11_days_130_141 x k76 S v2 v3 v4 = some (r, S')) : Agr wX11_days_130 S S' := by
    unfold bfX11_days_130_141 at hm
    exact Agr.tr (Agr.i Agr.rf 132 35 ((S.2.1 132 35) + 1) (by decide)) (ak76 (S.1, (u2 S.2.1 132 35 ((S.2.1 132 35) + 1)), S.2.2.1, S.2.2.2) v2 v3 (v4 + 1) _ _ hm)
set_option maxHeartbeats 4000000 in
set_option maxRecDepth 20000 in
theorem fbX11_days_130_76 (x : XT) (k76 : ST → Int32 → Int32 → Int32 → Option (Int32 × ST)) (ak76 : ∀ (S : ST) (v2 : Int32) (v3 : Int32) (v4 : Int32) (r : Int32) (S' : ST), k76 S v2 v3 v4 = some (r, S') → Agr wX11_days_130 S S') (S : ST) (v2 : Int32) (v3 : Int32) (v4 : Int32) (r : Int32) (S' : ST) (hm : bfX11_days_130_76 x k76 S v2 v3 v4 = some (r, S')) : Agr wX11_days_130 S S' := by
    unfold bfX11_days_130_76 at hm
    by_cases c1 : v2 ≤ v4
    · rw [if_pos c1] at hm
      exact Agr.tr Agr.rf (fbX11_days_130_158 x  S v3 _ _ hm)
    · rw [if_neg c1] at hm
      by_cases c2 : 999 ≤ (S.2.1 132 35)
      · rw [if_pos c2] at hm
        exact Agr.tr Agr.rf (fbX11_days_130_158 x  S v3 _ _ hm)
      · rw [if_neg c2] at hm
        cases h3 : gfX11_draws_130 x S (S.2.1 132 92) with
        | none => rw [h3] at hm; cases hm
        | some q4 =>
          obtain ⟨r5, S6⟩ := q4
          rw [h3] at hm
          dsimp only at hm
          have a_S6 : Agr wX11_days_130 S S6 := Agr.tr Agr.rf (Agr.sub (frX11_draws_130 x S (S.2.1 132 92) _ _ h3) (by decide))
          cases h7 : gfX11_gateMany_130 x S6 with
          | none => rw [h7] at hm; cases hm
          | some q8 =>
            obtain ⟨r9, S10⟩ := q8
            rw [h7] at hm
            dsimp only at hm
            have a_S10 : Agr wX11_days_130 S S10 := Agr.tr a_S6 (Agr.sub (frX11_gateMany_130 x S6 _ _ h7) (by decide))
            cases h11 : gfX11_draws_130 x S10 r9 with
            | none => rw [h11] at hm; cases hm
            | some q12 =>
              obtain ⟨r13, S14⟩ := q12
              rw [h11] at hm
              dsimp only at hm
              have a_S14 : Agr wX11_days_130 S S14 := Agr.tr a_S10 (Agr.sub (frX11_draws_130 x S10 r9 _ _ h11) (by decide))
              cases h15 : gfX11_canGo_130 x S14 r5 r13 with
              | none => rw [h15] at hm; cases hm
              | some q16 =>
                obtain ⟨r17, S18⟩ := q16
                rw [h15] at hm
                dsimp only at hm
                have a_S18 : Agr wX11_days_130 S S18 := Agr.tr a_S14 (Agr.sub (frX11_canGo_130 x S14 r5 r13 _ _ h15) (by decide))
                by_cases c19 : r17 = 0
                · rw [if_pos c19] at hm
                  exact Agr.tr a_S18 (fbX11_days_130_141 x k76 ak76 S18 v2 v3 v4 _ _ hm)
                · rw [if_neg c19] at hm
                  cases h20 : gfX11_goesNow_130 x S18 r5 r13 with
                  | none => rw [h20] at hm; cases hm
                  | some q21 =>
                    obtain ⟨r22, S23⟩ := q21
                    rw [h20] at hm
                    dsimp only at hm
                    have a_S23 : Agr wX11_days_130 S S23 := Agr.tr a_S18 (Agr.sub (frX11_goesNow_130 x S18 r5 r13 _ _ h20) (by decide))
                    exact Agr.tr a_S23 (fbX11_days_130_141 x k76 ak76 S23 v2 (v3 + 1) v4 _ _ hm)
theorem flX11_days_130_76 (x : XT)  : ∀ (n : Nat) (S : ST) (v2 : Int32) (v3 : Int32) (v4 : Int32) (r : Int32) (S' : ST), lfX11_days_130_76 x  n S v2 v3 v4 = some (r, S') → Agr wX11_days_130 S S'
  | 0, _, _, _, _, _, _, hm => by cases hm
  | n + 1, S, v2, v3, v4, r, S', hm => fbX11_days_130_76 x (lfX11_days_130_76 x  n) (flX11_days_130_76 x  n) S v2 v3 v4 r S' hm
set_option maxHeartbeats 4000000 in
set_option maxRecDepth 20000 in
theorem fbX11_days_130_0 (x : XT)  (S : ST) (p1 : Int32) (p2 : Int32) (r : Int32) (S' : ST) (hm : bfX11_days_130_0 x  S p1 p2 = some (r, S')) : Agr wX11_days_130 S S' := by
    unfold bfX11_days_130_0 at hm
    cases h1 : gfX11_lies x S p1 0 1000000 with
    | none => rw [h1] at hm; cases hm
    | some q2 =>
      obtain ⟨r3, S4⟩ := q2
      rw [h1] at hm
      dsimp only at hm
      have a_S4 : Agr wX11_days_130 S S4 := Agr.tr Agr.rf (Agr.sub (frX11_lies x S p1 0 1000000 _ _ h1) (by decide))
      by_cases c5 : r3 = 0
      · rw [if_pos c5] at hm
        exact Agr.tr a_S4 (fbX11_days_130_20 x  S4 _ _ hm)
      · rw [if_neg c5] at hm
        cases h6 : gfX11_lies x S4 p2 1 60 with
        | none => rw [h6] at hm; cases hm
        | some q7 =>
          obtain ⟨r8, S9⟩ := q7
          rw [h6] at hm
          dsimp only at hm
          have a_S9 : Agr wX11_days_130 S S9 := Agr.tr a_S4 (Agr.sub (frX11_lies x S4 p2 1 60 _ _ h6) (by decide))
          by_cases c10 : ¬ r8 = 0
          · rw [if_pos c10] at hm
            by_cases c11 : (S9.2.1 132 92) = 0
            · rw [if_pos c11] at hm
              exact Agr.tr a_S9 (fbX11_days_130_43 x  S9 _ _ hm)
            · rw [if_neg c11] at hm
              cases h12 : gfX11_gateMany_130 x S9 with
              | none => rw [h12] at hm; cases hm
              | some q13 =>
                obtain ⟨r14, S15⟩ := q13
                rw [h12] at hm
                dsimp only at hm
                have a_S15 : Agr wX11_days_130 S S15 := Agr.tr a_S9 (Agr.sub (frX11_gateMany_130 x S9 _ _ h12) (by decide))
                by_cases c16 : ¬ r14 = 0
                · rw [if_pos c16] at hm
                  cases h17 : gfX11_laysAside_130 x ((u2 (u2 S15.1 130 52 p1) 130 51 (S15.2.1 132 92)), S15.2.1, S15.2.2.1, S15.2.2.2) 0 with
                  | none => rw [h17] at hm; cases hm
                  | some q18 =>
                    obtain ⟨r19, S20⟩ := q18
                    rw [h17] at hm
                    dsimp only at hm
                    have a_S20 : Agr wX11_days_130 S S20 := Agr.tr (Agr.f (Agr.f a_S15 130 52 p1 (by decide)) 130 51 (S15.2.1 132 92) (by decide)) (Agr.sub (frX11_laysAside_130 x ((u2 (u2 S15.1 130 52 p1) 130 51 (S15.2.1 132 92)), S15.2.1, S15.2.2.1, S15.2.2.2) 0 _ _ h17) (by decide))
                    exact Agr.tr a_S20 (flX11_days_130_76 x  20000 S20 p2 0 0 _ _ hm)
                · rw [if_neg c16] at hm
                  exact Agr.tr a_S15 (fbX11_days_130_43 x  S15 _ _ hm)
          · rw [if_neg c10] at hm
            exact Agr.tr a_S9 (fbX11_days_130_20 x  S9 _ _ hm)
theorem frX11_days_130 (x : XT) (S : ST) (p1 : Int32) (p2 : Int32) (r : Int32) (S' : ST) (hm : gfX11_days_130 x S p1 p2 = some (r, S')) : Agr wX11_days_130 S S' := fbX11_days_130_0 x S p1 p2 r S' hm
end FRA
