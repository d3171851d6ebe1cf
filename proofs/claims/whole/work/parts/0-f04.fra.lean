section FRA
def wX0_told_20_55 : List (Nat × Nat) × List Nat × List Nat × List Nat := ([], [22], [], [])
set_option maxHeartbeats 4000000 in
set_option maxRecDepth 20000 in
theorem fbX0_told_20_55_171 (x : XT)  (S : ST) (t0 : Int32) (r : Int32) (S' : ST) (hm : bfX0_told_20_55_171 x  S t0 = some (r, S')) : Agr wX0_told_20_55 S S' := by
    unfold bfX0_told_20_55_171 at hm
    cases hm
    exact Agr.rf
set_option maxHeartbeats 4000000 in
set_option maxRecDepth 20000 in
theorem fbX0_told_20_55_192 (x : XT)  (S : ST) (t0 : Int32) (r : Int32) (S' : ST) (hm : bfX0_told_20_55_192 x  S t0 = some (r, S')) : Agr wX0_told_20_55 S S' := by
    unfold bfX0_told_20_55_192 at hm
    cases hm
    exact Agr.rf
set_option maxHeartbeats 4000000 in
set_option maxRecDepth 20000 in
theorem fbX0_told_20_55_204 (x : XT)  (S : ST) (t0 : Int32) (r : Int32) (S' : ST) (hm : bfX0_told_20_55_204 x  S t0 = some (r, S')) : Agr wX0_told_20_55 S S' := by
    unfold bfX0_told_20_55_204 at hm
    cases hm
    exact Agr.rf
set_option maxHeartbeats 4000000 in
set_option maxRecDepth 20000 in
theorem fbX0_told_20_55_111 (x : XT)  (S : ST) (v2 : Int32) (v3 : Int32) (r : Int32) (S' : ST) (hm : bfX0_told_20_55_111 x  S v2 v3 = some (r, S')) : Agr wX0_told_20_55 S S' := by
    unfold bfX0_told_20_55_111 at hm
    by_cases c1 : v2 = 260
    · rw [if_pos c1] at hm
      by_cases c2 : ¬ v3 = (-2000000000)
      · rw [if_pos c2] at hm
        exact Agr.tr Agr.rf (fbX0_told_20_55_171 x  S (if 0 < (if 19 < v3 then 19 else v3) then (if 19 < v3 then 19 else v3) else 0) _ _ hm)
      · rw [if_neg c2] at hm
        exact Agr.tr Agr.rf (fbX0_told_20_55_171 x  S (if ((S.2.1 21 2) - 1) < 0 then 0 else ((S.2.1 21 2) - 1)) _ _ hm)
    rw [if_neg c1] at hm
    by_cases c3 : v2 = 261
    · rw [if_pos c3] at hm
      by_cases c4 : ¬ v3 = (-2000000000)
      · rw [if_pos c4] at hm
        exact Agr.tr Agr.rf (fbX0_told_20_55_192 x  S (if 0 < (if 9 < v3 then 9 else v3) then (if 9 < v3 then 9 else v3) else 0) _ _ hm)
      · rw [if_neg c4] at hm
        exact Agr.tr Agr.rf (fbX0_told_20_55_192 x  S 1 _ _ hm)
    rw [if_neg c3] at hm
    by_cases c5 : ¬ v3 = (-2000000000)
    · rw [if_pos c5] at hm
      exact Agr.tr Agr.rf (fbX0_told_20_55_204 x  S 1 _ _ hm)
    · rw [if_neg c5] at hm
      exact Agr.tr Agr.rf (fbX0_told_20_55_204 x  S 0 _ _ hm)
set_option maxHeartbeats 4000000 in
set_option maxRecDepth 20000 in
theorem fbX0_told_20_55_105 (x : XT) (k23 : ST → Int32 → Int32 → Nat → Int32 → Option (Int32 × ST)) (ak23 : ∀ (S : ST) (v2 : Int32) (v3 : Int32) (v4 : Nat) (v5 : Int32) (r : Int32) (S' : ST), k23 S v2 v3 v4 v5 = some (r, S') → Agr wX0_told_20_55 S S') (S : ST) (v2 : Int32) (v3 : Int32) (v4 : Nat) (v5 : Int32) (r : Int32) (S' : ST) (hm : bfX0_told_20_55_105 x k23 S v2 v3 v4 v5 = some (r, S')) : Agr wX0_told_20_55 S S' := by
    unfold bfX0_told_20_55_105 at hm
    obtain ⟨o1, hm⟩ := oblk hm
    exact Agr.tr Agr.rf (ak23 S v2 v3 v4 (v5 + (-1)) _ _ hm)
set_option maxHeartbeats 4000000 in
set_option maxRecDepth 20000 in
theorem fbX0_told_20_55_104 (x : XT) (k23 : ST → Int32 → Int32 → Nat → Int32 → Option (Int32 × ST)) (ak23 : ∀ (S : ST) (v2 : Int32) (v3 : Int32) (v4 : Nat) (v5 : Int32) (r : Int32) (S' : ST), k23 S v2 v3 v4 v5 = some (r, S') → Agr wX0_told_20_55 S S') (S : ST) (v2 : Int32) (v4 : Nat) (v5 : Int32) (t0 : Int32) (r : Int32) (S' : ST) (hm : bfX0_told_20_55_104 x k23 S v2 v4 v5 t0 = some (r, S')) : Agr wX0_told_20_55 S S' := by
    unfold bfX0_told_20_55_104 at hm
    obtain ⟨o1, hm⟩ := oblk hm
    exact Agr.tr Agr.rf (fbX0_told_20_55_105 x k23 ak23 S v2 t0 v4 v5 _ _ hm)
set_option maxHeartbeats 4000000 in
set_option maxRecDepth 20000 in
theorem fbX0_told_20_55_77 (x : XT) (k23 : ST → Int32 → Int32 → Nat → Int32 → Option (Int32 × ST)) (ak23 : ∀ (S : ST) (v2 : Int32) (v3 : Int32) (v4 : Nat) (v5 : Int32) (r : Int32) (S' : ST), k23 S v2 v3 v4 v5 = some (r, S') → Agr wX0_told_20_55 S S') (S : ST) (v2 : Int32) (v4 : Nat) (v5 : Int32) (r : Int32) (S' : ST) (hm : bfX0_told_20_55_77 x k23 S v2 v4 v5 = some (r, S')) : Agr wX0_told_20_55 S S' := by
    unfold bfX0_told_20_55_77 at hm
    obtain ⟨o1, hm⟩ := oblk hm
    by_cases c2 : ¬ v2 = 262
    · rw [if_pos c2] at hm
      cases h3 : gfX9_reckon_T_21_22 x S v4 v5 0 with
      | none => rw [h3] at hm; cases hm
      | some q4 =>
        obtain ⟨r5, S6⟩ := q4
        rw [h3] at hm
        dsimp only at hm
        have a_S6 : Agr wX0_told_20_55 S S6 := Agr.tr Agr.rf (Agr.sub (frX9_reckon_T_21_22 x S v4 v5 0 _ _ h3) (by decide))
        exact Agr.tr a_S6 (fbX0_told_20_55_104 x k23 ak23 S6 v2 v4 v5 r5 _ _ hm)
    · rw [if_neg c2] at hm
      exact Agr.tr Agr.rf (fbX0_told_20_55_104 x k23 ak23 S v2 v4 v5 1 _ _ hm)
set_option maxHeartbeats 4000000 in
set_option maxRecDepth 20000 in
theorem fbX0_told_20_55_23 (x : XT) (k23 : ST → Int32 → Int32 → Nat → Int32 → Option (Int32 × ST)) (ak23 : ∀ (S : ST) (v2 : Int32) (v3 : Int32) (v4 : Nat) (v5 : Int32) (r : Int32) (S' : ST), k23 S v2 v3 v4 v5 = some (r, S') → Agr wX0_told_20_55 S S') (S : ST) (v2 : Int32) (v3 : Int32) (v4 : Nat) (v5 : Int32) (r : Int32) (S' : ST) (hm : bfX0_told_20_55_23 x k23 S v2 v3 v4 v5 = some (r, S')) : Agr wX0_told_20_55 S S' := by
    unfold bfX0_told_20_55_23 at hm
    obtain ⟨o1, hm⟩ := oblk hm
    by_cases c2 : v5 < 0
    · rw [if_pos c2] at hm
      exact Agr.tr Agr.rf (fbX0_told_20_55_111 x  S v2 v3 _ _ hm)
    · rw [if_neg c2] at hm
      by_cases c3 : ¬ v3 = (-2000000000)
      · rw [if_pos c3] at hm
        exact Agr.tr Agr.rf (fbX0_told_20_55_111 x  S v2 v3 _ _ hm)
      · rw [if_neg c3] at hm
        obtain ⟨o4, hm⟩ := oblk hm
        by_cases c5 : ¬ (S.2.1 (v4 + 1) v5.toNatClampNeg) = v2
        · rw [if_pos c5] at hm
          exact Agr.tr Agr.rf (fbX0_told_20_55_105 x k23 ak23 S v2 v3 v4 v5 _ _ hm)
        · rw [if_neg c5] at hm
          cases h6 : gfX9_has_T x S v4 v5 2 with
          | none => rw [h6] at hm; cases hm
          | some q7 =>
            obtain ⟨r8, S9⟩ := q7
            rw [h6] at hm
            dsimp only at hm
            have a_S9 : Agr wX0_told_20_55 S S9 := Agr.tr Agr.rf (Agr.sub (frX9_has_T x S v4 v5 2 _ _ h6) (by decide))
            by_cases c10 : r8 = 0
            · rw [if_pos c10] at hm
              exact Agr.tr a_S9 (fbX0_told_20_55_77 x k23 ak23 S9 v2 v4 v5 _ _ hm)
            · rw [if_neg c10] at hm
              cases h11 : gfX9_reckon_T_21_22 x S9 v4 v5 2 with
              | none => rw [h11] at hm; cases hm
              | some q12 =>
                obtain ⟨r13, S14⟩ := q12
                rw [h11] at hm
                dsimp only at hm
                have a_S14 : Agr wX0_told_20_55 S S14 := Agr.tr a_S9 (Agr.sub (frX9_reckon_T_21_22 x S9 v4 v5 2 _ _ h11) (by decide))
                by_cases c15 : ¬ r13 = 1
                · rw [if_pos c15] at hm
                  exact Agr.tr a_S14 (fbX0_told_20_55_105 x k23 ak23 S14 v2 v3 v4 v5 _ _ hm)
                · rw [if_neg c15] at hm
                  exact Agr.tr a_S14 (fbX0_told_20_55_77 x k23 ak23 S14 v2 v4 v5 _ _ hm)
theorem flX0_told_20_55_23 (x : XT)  : ∀ (n : Nat) (S : ST) (v2 : Int32) (v3 : Int32) (v4 : Nat) (v5 : Int32) (r : Int32) (S' : ST), lfX0_told_20_55_23 x  n S v2 v3 v4 v5 = some (r, S') → Agr wX0_told_20_55 S S'
  | 0, _, _, _, _, _, _, _, hm => by cases hm
  | n + 1, S, v2, v3, v4, v5, r, S', hm => fbX0_told_20_55_23 x (lfX0_told_20_55_23 x  n) (flX0_told_20_55_23 x  n) S v2 v3 v4 v5 r S' hm
set_option maxHeartbeats 4000000 in
set_option maxRecDepth 20000 in
theorem fbX0_told_20_55_0 (x : XT)  (S : ST) (p2 : Int32) (r : Int32) (S' : ST) (hm : bfX0_told_20_55_0 x  S p2 = some (r, S')) : Agr wX0_told_20_55 S S' := by
    unfold bfX0_told_20_55_0 at hm
    cases h1 : gfX7_inForce_55 x S with
    | none => rw [h1] at hm; cases hm
    | some q2 =>
      obtain ⟨r3, S4⟩ := q2
      rw [h1] at hm
      dsimp only at hm
      have a_S4 : Agr wX0_told_20_55 S S4 := Agr.tr Agr.rf (Agr.sub (frX7_inForce_55 x S _ _ h1) (by decide))
      rcases hz : r3 with _ | t5
      · rw [hz] at hm
        exact Agr.tr a_S4 (fbX0_told_20_55_111 x  S4 p2 (-2000000000) _ _ hm)
      · rw [hz] at hm
        obtain ⟨o6, hm⟩ := oblk hm
        exact Agr.tr a_S4 (flX0_told_20_55_23 x  20000 S4 p2 (-2000000000) t5 ((S4.1 t5 0) - 1) _ _ hm)
theorem frX0_told_20_55 (x : XT) (S : ST) (p2 : Int32) (r : Int32) (S' : ST) (hm : gfX0_told_20_55 x S p2 = some (r, S')) : Agr wX0_told_20_55 S S' := fbX0_told_20_55_0 x S p2 r S' hm
def wX6_behind_54 : List (Nat × Nat) × List Nat × List Nat × List Nat := ([], [21, 22, 70], [], [])
set_option maxHeartbeats 4000000 in
set_option maxRecDepth 20000 in
theorem fbX6_behind_54_28 (x : XT)  (S : ST)  (r : Int32) (S' : ST) (hm : bfX6_behind_54_28 x  S  = some (r, S')) : Agr wX6_behind_54 S S' := by
    unfold bfX6_behind_54_28 at hm
    cases hm
    exact Agr.rf
set_option maxHeartbeats 4000000 in
set_option maxRecDepth 20000 in
theorem fbX6_behind_54_150 (x : XT)  (S : ST) (t0 : Int32) (r : Int32) (S' : ST) (hm : bfX6_behind_54_150 x  S t0 = some (r, S')) : Agr wX6_behind_54 S S' := by
    unfold bfX6_behind_54_150 at hm
    cases hm
    exact Agr.rf
set_option maxHeartbeats 4000000 in
set_option maxRecDepth 20000 in
theorem fbX6_behind_54_115 (x : XT)  (S : ST) (v1 : Int32) (v4 : Int32) (r : Int32) (S' : ST) (hm : bfX6_behind_54_115 x  S v1 v4 = some (r, S')) : Agr wX6_behind_54 S S' := by
    unfold bfX6_behind_54_115 at hm
    obtain ⟨o1, hm⟩ := oblk hm
    by_cases c2 : ¬ (S.2.1 70 v4.toNatClampNeg) = (-1)
    · rw [if_pos c2] at hm
      obtain ⟨o3, hm⟩ := oblk hm
      obtain ⟨o4, hm⟩ := oblk hm
      exact Agr.tr Agr.rf (fbX6_behind_54_150 x  S (((S.2.1 57 v1.toNatClampNeg) * 20) + (S.2.1 70 v4.toNatClampNeg)) _ _ hm)
    · rw [if_neg c2] at hm
      exact Agr.tr Agr.rf (fbX6_behind_54_150 x  S (-1) _ _ hm)
set_option maxHeartbeats 4000000 in
set_option maxRecDepth 20000 in
theorem fbX6_behind_54_114 (x : XT)  (S : ST) (v1 : Int32) (v4 : Int32) (t1 : Int32) (t2 : Int32) (r : Int32) (S' : ST) (hm : bfX6_behind_54_114 x  S v1 v4 t1 t2 = some (r, S')) : Agr wX6_behind_54 S S' := by
    unfold bfX6_behind_54_114 at hm
    obtain ⟨o1, hm⟩ := oblk hm
    exact Agr.tr (Agr.i Agr.rf 70 t1.toNatClampNeg t2 (by decide)) (fbX6_behind_54_115 x  (S.1, (u2 S.2.1 70 t1.toNatClampNeg t2), S.2.2.1, S.2.2.2) v1 v4 _ _ hm)
set_option maxHeartbeats 4000000 in
set_option maxRecDepth 20000 in
theorem fbX6_behind_54_0 (x : XT)  (S : ST) (p1 : Int32) (p2 : Int32) (r : Int32) (S' : ST) (hm : bfX6_behind_54_0 x  S p1 p2 = some (r, S')) : Agr wX6_behind_54 S S' := by
    unfold bfX6_behind_54_0 at hm
    obtain ⟨o1, hm⟩ := oblk hm
    by_cases c2 : ¬ (S.2.1 56 p1.toNatClampNeg) = (p2 / 20)
    · rw [if_pos c2] at hm
      exact Agr.tr Agr.rf (fbX6_behind_54_28 x  S _ _ hm)
    · rw [if_neg c2] at hm
      obtain ⟨o3, hm⟩ := oblk hm
      by_cases c4 : ¬ (S.2.1 60 p1.toNatClampNeg) = 0
      · rw [if_pos c4] at hm
        obtain ⟨o5, hm⟩ := oblk hm
        by_cases c6 : ¬ (S.2.1 70 (((p1 * 20) + (p2 - p2 / 20 * 20)).toNatClampNeg)) = (-2)
        · rw [if_pos c6] at hm
          exact Agr.tr Agr.rf (fbX6_behind_54_115 x  S p1 ((p1 * 20) + (p2 - p2 / 20 * 20)) _ _ hm)
        · rw [if_neg c6] at hm
          cases h7 : gfX0_regard_20_55 x S (S.1 54 2) p1 (p2 - p2 / 20 * 20) with
          | none => rw [h7] at hm; cases hm
          | some q8 =>
            obtain ⟨r9, S10⟩ := q8
            rw [h7] at hm
            dsimp only at hm
            have a_S10 : Agr wX6_behind_54 S S10 := Agr.tr Agr.rf (Agr.sub (frX0_regard_20_55 x S (S.1 54 2) p1 (p2 - p2 / 20 * 20) _ _ h7) (by decide))
            cases h11 : gfX0_told_20_55 x S10 262 with
            | none => rw [h11] at hm; cases hm
            | some q12 =>
              obtain ⟨r13, S14⟩ := q12
              rw [h11] at hm
              dsimp only at hm
              have a_S14 : Agr wX6_behind_54 S S14 := Agr.tr a_S10 (Agr.sub (frX0_told_20_55 x S10 262 _ _ h11) (by decide))
              by_cases c15 : ¬ r13 = 1
              · rw [if_pos c15] at hm
                cases h16 : gfX0_told_20_55 x S14 260 with
                | none => rw [h16] at hm; cases hm
                | some q17 =>
                  obtain ⟨r18, S19⟩ := q17
                  rw [h16] at hm
                  dsimp only at hm
                  have a_S19 : Agr wX6_behind_54 S S19 := Agr.tr a_S14 (Agr.sub (frX0_told_20_55 x S14 260 _ _ h16) (by decide))
                  exact Agr.tr a_S19 (fbX6_behind_54_114 x  S19 p1 ((p1 * 20) + (p2 - p2 / 20 * 20)) ((p1 * 20) + (p2 - p2 / 20 * 20)) r18 _ _ hm)
              · rw [if_neg c15] at hm
                exact Agr.tr a_S14 (fbX6_behind_54_114 x  S14 p1 ((p1 * 20) + (p2 - p2 / 20 * 20)) ((p1 * 20) + (p2 - p2 / 20 * 20)) (-1) _ _ hm)
      · rw [if_neg c4] at hm
        exact Agr.tr Agr.rf (fbX6_behind_54_28 x  S _ _ hm)
theorem frX6_behind_54 (x : XT) (S : ST) (p1 : Int32) (p2 : Int32) (r : Int32) (S' : ST) (hm : gfX6_behind_54 x S p1 p2 = some (r, S')) : Agr wX6_behind_54 S S' := fbX6_behind_54_0 x S p1 p2 r S' hm
def wJ7_fill_53178_72 : List (Nat × Nat) × List Nat × List Nat × List Nat := ([], [72], [], [])
set_option maxHeartbeats 4000000 in
set_option maxRecDepth 20000 in
theorem fbJ7_fill_53178_72_5 (x : XT) (k5 : ST → Int32 → Int32 → Int32 → Option (Unit × ST)) (ak5 : ∀ (S : ST) (v1 : Int32) (v2 : Int32) (v3 : Int32) (r : Unit) (S' : ST), k5 S v1 v2 v3 = some (r, S') → Agr wJ7_fill_53178_72 S S') (S : ST) (v1 : Int32) (v2 : Int32) (v3 : Int32) (r : Unit) (S' : ST) (hm : bfJ7_fill_53178_72_5 x k5 S v1 v2 v3 = some (r, S')) : Agr wJ7_fill_53178_72 S S' := by
    unfold bfJ7_fill_53178_72_5 at hm
    by_cases c1 : v3 ≤ v2
    · rw [if_pos c1] at hm
      cases hm
      exact Agr.rf
    · rw [if_neg c1] at hm
      obtain ⟨o2, hm⟩ := oblk hm
      exact Agr.tr (Agr.i Agr.rf 72 v2.toNatClampNeg v1 (by decide)) (ak5 (S.1, (u2 S.2.1 72 v2.toNatClampNeg v1), S.2.2.1, S.2.2.2) v1 (v2 + 1) v3 _ _ hm)
theorem flJ7_fill_53178_72_5 (x : XT)  : ∀ (n : Nat) (S : ST) (v1 : Int32) (v2 : Int32) (v3 : Int32) (r : Unit) (S' : ST), lfJ7_fill_53178_72_5 x  n S v1 v2 v3 = some (r, S') → Agr wJ7_fill_53178_72 S S'
  | 0, _, _, _, _, _, _, hm => by cases hm
  | n + 1, S, v1, v2, v3, r, S', hm => fbJ7_fill_53178_72_5 x (lfJ7_fill_53178_72_5 x  n) (flJ7_fill_53178_72_5 x  n) S v1 v2 v3 r S' hm
set_option maxHeartbeats 4000000 in
set_option maxRecDepth 20000 in
theorem fbJ7_fill_53178_72_0 (x : XT)  (S : ST) (p1 : Int32) (r : Unit) (S' : ST) (hm : bfJ7_fill_53178_72_0 x  S p1 = some (r, S')) : Agr wJ7_fill_53178_72 S S' := by
    unfold bfJ7_fill_53178_72_0 at hm
    exact Agr.tr Agr.rf (flJ7_fill_53178_72_5 x  20000 S p1 0 120 _ _ hm)
theorem frJ7_fill_53178_72 (x : XT) (S : ST) (p1 : Int32) (r : Unit) (S' : ST) (hm : gfJ7_fill_53178_72 x S p1 = some (r, S')) : Agr wJ7_fill_53178_72 S S' := fbJ7_fill_53178_72_0 x S p1 r S' hm
def wX6_start_54 : List (Nat × Nat) × List Nat × List Nat × List Nat := ([], [], [], [])
set_option maxHeartbeats 4000000 in
set_option maxRecDepth 20000 in
theorem fbX6_start_54_0 (x : XT)  (S : ST)  (r : Int32) (S' : ST) (hm : bfX6_start_54_0 x  S  = some (r, S')) : Agr wX6_start_54 S S' := by
    unfold bfX6_start_54_0 at hm
    obtain ⟨o1, hm⟩ := oblk hm
    obtain ⟨o2, hm⟩ := oblk hm
    cases hm
    exact Agr.rf
theorem frX6_start_54 (x : XT) (S : ST)  (r : Int32) (S' : ST) (hm : gfX6_start_54 x S  = some (r, S')) : Agr wX6_start_54 S S' := fbX6_start_54_0 x S  r S' hm
def wX6_find_54 : List (Nat × Nat) × List Nat × List Nat × List Nat := ([], [21, 22, 70, 71, 72, 73, 74], [], [])
set_option maxHeartbeats 4000000 in
set_option maxRecDepth 20000 in
theorem fbX6_find_54_236 (x : XT)  (S : ST)  (r : Int32) (S' : ST) (hm : bfX6_find_54_236 x  S  = some (r, S')) : Agr wX6_find_54 S S' := by
    unfold bfX6_find_54_236 at hm
    cases hm
    exact Agr.rf
set_option maxHeartbeats 4000000 in
set_option maxRecDepth 20000 in
theorem fbX6_find_54_224 (x : XT) (k56 : ST → Int32 → Int32 → Int32 → Int32 → Option (Int32 × ST)) (ak56 : ∀ (S : ST) (v1 : Int32) (v2 : Int32) (v3 : Int32) (v4 : Int32) (r : Int32) (S' : ST), k56 S v1 v2 v3 v4 = some (r, S') → Agr wX6_find_54 S S') (k84 : ST → Int32 → Int32 → Int32 → Int32 → Int32 → Int32 → Option (Int32 × ST)) (ak84 : ∀ (S : ST) (v1 : Int32) (v2 : Int32) (v3 : Int32) (v4 : Int32) (v5 : Int32) (v6 : Int32) (r : Int32) (S' : ST), k84 S v1 v2 v3 v4 v5 v6 = some (r, S') → Agr wX6_find_54 S S') (S : ST) (v1 : Int32) (v2 : Int32) (v3 : Int32) (v4 : Int32) (v5 : Int32) (v6 : Int32) (r : Int32) (S' : ST) (hm : bfX6_find_54_224 x k56 k84 S v1 v2 v3 v4 v5 v6 = some (r, S')) : Agr wX6_find_54 S S' := by
    unfold bfX6_find_54_224 at hm
    exact Agr.tr Agr.rf (ak84 S v1 v2 v3 v4 v5 (v6 + 1) _ _ hm)
set_option maxHeartbeats 4000000 in
set_option maxRecDepth 20000 in
theorem fbX6_find_54_128 (x : XT) (k56 : ST → Int32 → Int32 → Int32 → Int32 → Option (Int32 × ST)) (ak56 : ∀ (S : ST) (v1 : Int32) (v2 : Int32) (v3 : Int32) (v4 : Int32) (r : Int32) (S' : ST), k56 S v1 v2 v3 v4 = some (r, S') → Agr wX6_find_54 S S') (k84 : ST → Int32 → Int32 → Int32 → Int32 → Int32 → Int32 → Option (Int32 × ST)) (ak84 : ∀ (S : ST) (v1 : Int32) (v2 : Int32) (v3 : Int32) (v4 : Int32) (v5 : Int32) (v6 : Int32) (r : Int32) (S' : ST), k84 S v1 v2 v3 v4 v5 v6 = some (r, S') → Agr wX6_find_54 S S') (S : ST) (v1 : Int32) (v2 : Int32) (v3 : Int32) (v4 : Int32) (v5 : Int32) (v6 : Int32) (t0 : Int32) (r : Int32) (S' : ST) (hm : bfX6_find_54_128 x k56 k84 S v1 v2 v3 v4 v5 v6 t0 = some (r, S')) : Agr wX6_find_54 S S' := by
    unfold bfX6_find_54_128 at hm
    by_cases c1 : t0 = (-1)
    · rw [if_pos c1] at hm
      exact Agr.tr Agr.rf (fbX6_find_54_224 x k56 ak56 k84 ak84 S v1 v2 v3 v4 v5 v6 _ _ hm)
    · rw [if_neg c1] at hm
      obtain ⟨o2, hm⟩ := oblk hm
      by_cases c3 : ¬ (S.2.1 72 t0.toNatClampNeg) = (-1)
      · rw [if_pos c3] at hm
        exact Agr.tr Agr.rf (fbX6_find_54_224 x k56 ak56 k84 ak84 S v1 v2 v3 v4 v5 v6 _ _ hm)
      · rw [if_neg c3] at hm
        by_cases c4 : v3 < 120
        · rw [if_pos c4] at hm
          obtain ⟨o5, hm⟩ := oblk hm
          obtain ⟨o6, hm⟩ := oblk hm
          obtain ⟨o7, hm⟩ := oblk hm
          obtain ⟨o8, hm⟩ := oblk hm
          obtain ⟨o9, hm⟩ := oblk hm
          obtain ⟨o10, hm⟩ := oblk hm
          cases h11 : gfX6_isAt x (S.1, (u2 (u2 (u2 S.2.1 72 t0.toNatClampNeg ((S.2.1 72 ((S.2.1 71 v4.toNatClampNeg).toNatClampNeg)) + 1)) 73 t0.toNatClampNeg v6) 74 t0.toNatClampNeg (S.2.1 71 v4.toNatClampNeg)), S.2.2.1, S.2.2.2) t0 v1 v2 with
          | none => rw [h11] at hm; cases hm
          | some q12 =>
            obtain ⟨r13, S14⟩ := q12
            rw [h11] at hm
            dsimp only at hm
            have a_S14 : Agr wX6_find_54 S S14 := Agr.tr (Agr.i (Agr.i (Agr.i Agr.rf 72 t0.toNatClampNeg ((S.2.1 72 ((S.2.1 71 v4.toNatClampNeg).toNatClampNeg)) + 1) (by decide)) 73 t0.toNatClampNeg v6 (by decide)) 74 t0.toNatClampNeg (S.2.1 71 v4.toNatClampNeg) (by decide)) (Agr.sub (frX6_isAt x (S.1, (u2 (u2 (u2 S.2.1 72 t0.toNatClampNeg ((S.2.1 72 ((S.2.1 71 v4.toNatClampNeg).toNatClampNeg)) + 1)) 73 t0.toNatClampNeg v6) 74 t0.toNatClampNeg (S.2.1 71 v4.toNatClampNeg)), S.2.2.1, S.2.2.2) t0 v1 v2 _ _ h11) (by decide))
            by_cases c15 : r13 = 0
            · rw [if_pos c15] at hm
              obtain ⟨o16, hm⟩ := oblk hm
              exact Agr.tr (Agr.i a_S14 71 v3.toNatClampNeg t0 (by decide)) (fbX6_find_54_224 x k56 ak56 k84 ak84 (S14.1, (u2 S14.2.1 71 v3.toNatClampNeg t0), S14.2.2.1, S14.2.2.2) v1 v2 (v3 + 1) v4 v5 v6 _ _ hm)
            · rw [if_neg c15] at hm
              cases hm
              exact a_S14
        · rw [if_neg c4] at hm
          exact Agr.tr Agr.rf (fbX6_find_54_224 x k56 ak56 k84 ak84 S v1 v2 v3 v4 v5 v6 _ _ hm)
set_option maxHeartbeats 4000000 in
set_option maxRecDepth 20000 in
theorem fbX6_find_54_84 (x : XT) (k56 : ST → Int32 → Int32 → Int32 → Int32 → Option (Int32 × ST)) (ak56 : ∀ (S : ST) (v1 : Int32) (v2 : Int32) (v3 : Int32) (v4 : Int32) (r : Int32) (S' : ST), k56 S v1 v2 v3 v4 = some (r, S') → Agr wX6_find_54 S S') (k84 : ST → Int32 → Int32 → Int32 → Int32 → Int32 → Int32 → Option (Int32 × ST)) (ak84 : ∀ (S : ST) (v1 : Int32) (v2 : Int32) (v3 : Int32) (v4 : Int32) (v5 : Int32) (v6 : Int32) (r : Int32) (S' : ST), k84 S v1 v2 v3 v4 v5 v6 = some (r, S') → Agr wX6_find_54 S S') (S : ST) (v1 : Int32) (v2 : Int32) (v3 : Int32) (v4 : Int32) (v5 : Int32) (v6 : Int32) (r : Int32) (S' : ST) (hm : bfX6_find_54_84 x k56 k84 S v1 v2 v3 v4 v5 v6 = some (r, S')) : Agr wX6_find_54 S S' := by
    unfold bfX6_find_54_84 at hm
    by_cases c1 : (S.1 55 0) ≤ v6
    · rw [if_pos c1] at hm
      exact Agr.tr Agr.rf (ak56 S v1 v2 v3 (v4 + 1) _ _ hm)
    · rw [if_neg c1] at hm
      obtain ⟨o2, hm⟩ := oblk hm
      by_cases c3 : ¬ (S.2.1 56 v6.toNatClampNeg) = v5
      · rw [if_pos c3] at hm
        exact Agr.tr Agr.rf (fbX6_find_54_128 x k56 ak56 k84 ak84 S v1 v2 v3 v4 v5 v6 (-1) _ _ hm)
      · rw [if_neg c3] at hm
        obtain ⟨o4, hm⟩ := oblk hm
        cases h5 : gfX6_behind_54 x S v6 (S.2.1 71 v4.toNatClampNeg) with
        | none => rw [h5] at hm; cases hm
        | some q6 =>
          obtain ⟨r7, S8⟩ := q6
          rw [h5] at hm
          dsimp only at hm
          have a_S8 : Agr wX6_find_54 S S8 := Agr.tr Agr.rf (Agr.sub (frX6_behind_54 x S v6 (S.2.1 71 v4.toNatClampNeg) _ _ h5) (by decide))
          exact Agr.tr a_S8 (fbX6_find_54_128 x k56 ak56 k84 ak84 S8 v1 v2 v3 v4 v5 v6 r7 _ _ hm)
theorem flX6_find_54_84 (x : XT) (k56 : ST → Int32 → Int32 → Int32 → Int32 → Option (Int32 × ST)) (ak56 : ∀ (S : ST) (v1 : Int32) (v2 : Int32) (v3 : Int32) (v4 : Int32) (r : Int32) (S' : ST), k56 S v1 v2 v3 v4 = some (r, S') → Agr wX6_find_54 S S') : ∀ (n : Nat) (S : ST) (v1 : Int32) (v2 : Int32) (v3 : Int32) (v4 : Int32) (v5 : Int32) (v6 : Int32) (r : Int32) (S' : ST), lfX6_find_54_84 x k56 n S v1 v2 v3 v4 v5 v6 = some (r, S') → Agr wX6_find_54 S S'
  | 0, _, _, _, _, _, _, _, _, _, hm => by cases hm
  | n + 1, S, v1, v2, v3, v4, v5, v6, r, S', hm => fbX6_find_54_84 x k56 ak56 (lfX6_find_54_84 x k56 n) (flX6_find_54_84 x k56 ak56 n) S v1 v2 v3 v4 v5 v6 r S' hm
set_option maxHeartbeats 4000000 in
set_option maxRecDepth 20000 in
theorem fbX6_find_54_56 (x : XT) (k56 : ST → Int32 → Int32 → Int32 → Int32 → Option (Int32 × ST)) (ak56 : ∀ (S : ST) (v1 : Int32) (v2 : Int32) (v3 : Int32) (v4 : Int32) (r : Int32) (S' : ST), k56 S v1 v2 v3 v4 = some (r, S') → Agr wX6_find_54 S S') (S : ST) (v1 : Int32) (v2 : Int32) (v3 : Int32) (v4 : Int32) (r : Int32) (S' : ST) (hm : bfX6_find_54_56 x k56 S v1 v2 v3 v4 = some (r, S')) : Agr wX6_find_54 S S' := by
    unfold bfX6_find_54_56 at hm
    by_cases c1 : v3 ≤ v4
    · rw [if_pos c1] at hm
      exact Agr.tr Agr.rf (fbX6_find_54_236 x  S _ _ hm)
    · rw [if_neg c1] at hm
      by_cases c2 : 120 ≤ v4
      · rw [if_pos c2] at hm
        exact Agr.tr Agr.rf (fbX6_find_54_236 x  S _ _ hm)
      · rw [if_neg c2] at hm
        obtain ⟨o3, hm⟩ := oblk hm
        exact Agr.tr Agr.rf (flX6_find_54_84 x k56 ak56 20000 S v1 v2 v3 v4 ((S.2.1 71 v4.toNatClampNeg) / 20) 0 _ _ hm)
theorem flX6_find_54_56 (x : XT)  : ∀ (n : Nat) (S : ST) (v1 : Int32) (v2 : Int32) (v3 : Int32) (v4 : Int32) (r : Int32) (S' : ST), lfX6_find_54_56 x  n S v1 v2 v3 v4 = some (r, S') → Agr wX6_find_54 S S'
  | 0, _, _, _, _, _, _, _, hm => by cases hm
  | n + 1, S, v1, v2, v3, v4, r, S', hm => fbX6_find_54_56 x (lfX6_find_54_56 x  n) (flX6_find_54_56 x  n) S v1 v2 v3 v4 r S' hm
set_option maxHeartbeats 4000000 in
set_option maxRecDepth 20000 in
theorem fbX6_find_54_0 (x : XT)  (S : ST) (p1 : Int32) (p2 : Int32) (r : Int32) (S' : ST) (hm : bfX6_find_54_0 x  S p1 p2 = some (r, S')) : Agr wX6_find_54 S S' := by
    unfold bfX6_find_54_0 at hm
    cases h1 : gfJ7_fill_53178_72 x S (-1) with
    | none => rw [h1] at hm; cases hm
    | some q2 =>
      obtain ⟨r3, S4⟩ := q2
      rw [h1] at hm
      dsimp only at hm
      have a_S4 : Agr wX6_find_54 S S4 := Agr.tr Agr.rf (Agr.sub (frJ7_fill_53178_72 x S (-1) _ _ h1) (by decide))
      cases h5 : gfX6_start_54 x S4 with
      | none => rw [h5] at hm; cases hm
      | some q6 =>
        obtain ⟨r7, S8⟩ := q6
        rw [h5] at hm
        dsimp only at hm
        have a_S8 : Agr wX6_find_54 S S8 := Agr.tr a_S4 (Agr.sub (frX6_start_54 x S4 _ _ h5) (by decide))
        obtain ⟨o9, hm⟩ := oblk hm
        cases h10 : gfX6_isAt x (S8.1, (u2 (u2 S8.2.1 71 0 r7) 72 r7.toNatClampNeg 0), S8.2.2.1, S8.2.2.2) r7 p1 p2 with
        | none => rw [h10] at hm; cases hm
        | some q11 =>
          obtain ⟨r12, S13⟩ := q11
          rw [h10] at hm
          dsimp only at hm
          have a_S13 : Agr wX6_find_54 S S13 := Agr.tr (Agr.i (Agr.i a_S8 71 0 r7 (by decide)) 72 r7.toNatClampNeg 0 (by decide)) (Agr.sub (frX6_isAt x (S8.1, (u2 (u2 S8.2.1 71 0 r7) 72 r7.toNatClampNeg 0), S8.2.2.1, S8.2.2.2) r7 p1 p2 _ _ h10) (by decide))
          by_cases c14 : r12 = 0
          · rw [if_pos c14] at hm
            exact Agr.tr a_S13 (flX6_find_54_56 x  20000 S13 p1 p2 1 0 _ _ hm)
          · rw [if_neg c14] at hm
            cases hm
            exact a_S13
theorem frX6_find_54 (x : XT) (S : ST) (p1 : Int32) (p2 : Int32) (r : Int32) (S' : ST) (hm : gfX6_find_54 x S p1 p2 = some (r, S')) : Agr wX6_find_54 S S' := fbX6_find_54_0 x S p1 p2 r S' hm
def wX6_wayGate_54 : List (Nat × Nat) × List Nat × List Nat × List Nat := ([], [21, 22, 70, 71, 72, 73, 74], [], [])
set_option maxHeartbeats 4000000 in
set_option maxRecDepth 20000 in
theorem fbX6_wayGate_54_29 (x : XT)  (S : ST)  (r : Int32) (S' : ST) (hm : bfX6_wayGate_54_29 x  S  = some (r, S')) : Agr wX6_wayGate_54 S S' := by
    unfold bfX6_wayGate_54_29 at hm
    cases hm
    exact Agr.rf
set_option maxHeartbeats 4000000 in
set_option maxRecDepth 20000 in
theorem fbX6_wayGate_54_42 (x : XT) (k42 : ST → Int32 → Int32 → Int32 → Option (Int32 × ST)) (ak42 : ∀ (S : ST) (v3 : Int32) (v4 : Int32) (v5 : Int32) (r : Int32) (S' : ST), k42 S v3 v4 v5 = some (r, S') → Agr wX6_wayGate_54 S S') (S : ST) (v3 : Int32) (v4 : Int32) (v5 : Int32) (r : Int32) (S' : ST) (hm : bfX6_wayGate_54_42 x k42 S v3 v4 v5 = some (r, S')) : Agr wX6_wayGate_54 S S' := by
    unfold bfX6_wayGate_54_42 at hm
    by_cases c1 : v5 ≤ v3
    · rw [if_pos c1] at hm
      obtain ⟨o2, hm⟩ := oblk hm
      cases hm
      exact Agr.rf
    · rw [if_neg c1] at hm
      obtain ⟨o3, hm⟩ := oblk hm
      exact Agr.tr Agr.rf (ak42 S v3 (S.2.1 74 v4.toNatClampNeg) (v5 + (-1)) _ _ hm)
theorem flX6_wayGate_54_42 (x : XT)  : ∀ (n : Nat) (S : ST) (v3 : Int32) (v4 : Int32) (v5 : Int32) (r : Int32) (S' : ST), lfX6_wayGate_54_42 x  n S v3 v4 v5 = some (r, S') → Agr wX6_wayGate_54 S S'
  | 0, _, _, _, _, _, _, hm => by cases hm
  | n + 1, S, v3, v4, v5, r, S', hm => fbX6_wayGate_54_42 x (lfX6_wayGate_54_42 x  n) (flX6_wayGate_54_42 x  n) S v3 v4 v5 r S' hm
set_option maxHeartbeats 4000000 in
set_option maxRecDepth 20000 in
theorem fbX6_wayGate_54_0 (x : XT)  (S : ST) (p1 : Int32) (p2 : Int32) (p3 : Int32) (r : Int32) (S' : ST) (hm : bfX6_wayGate_54_0 x  S p1 p2 p3 = some (r, S')) : Agr wX6_wayGate_54 S S' := by
    unfold bfX6_wayGate_54_0 at hm
    cases h1 : gfX6_find_54 x S p1 p2 with
    | none => rw [h1] at hm; cases hm
    | some q2 =>
      obtain ⟨r3, S4⟩ := q2
      rw [h1] at hm
      dsimp only at hm
      have a_S4 : Agr wX6_wayGate_54 S S4 := Agr.tr Agr.rf (Agr.sub (frX6_find_54 x S p1 p2 _ _ h1) (by decide))
      by_cases c5 : r3 = (-1)
      · rw [if_pos c5] at hm
        exact Agr.tr a_S4 (fbX6_wayGate_54_29 x  S4 _ _ hm)
      · rw [if_neg c5] at hm
        by_cases c6 : p3 < 0
        · rw [if_pos c6] at hm
          exact Agr.tr a_S4 (fbX6_wayGate_54_29 x  S4 _ _ hm)
        · rw [if_neg c6] at hm
          obtain ⟨o7, hm⟩ := oblk hm
          by_cases c8 : p3 < (S4.2.1 72 r3.toNatClampNeg)
          · rw [if_pos c8] at hm
            obtain ⟨o9, hm⟩ := oblk hm
            exact Agr.tr a_S4 (flX6_wayGate_54_42 x  20000 S4 p3 r3 ((S4.2.1 72 r3.toNatClampNeg) - 1) _ _ hm)
          · rw [if_neg c8] at hm
            exact Agr.tr a_S4 (fbX6_wayGate_54_29 x  S4 _ _ hm)
theorem frX6_wayGate_54 (x : XT) (S : ST) (p1 : Int32) (p2 : Int32) (p3 : Int32) (r : Int32) (S' : ST) (hm : gfX6_wayGate_54 x S p1 p2 p3 = some (r, S')) : Agr wX6_wayGate_54 S S' := fbX6_wayGate_54_0 x S p1 p2 p3 r S' hm
def wX6_wayLength_54 : List (Nat × Nat) × List Nat × List Nat × List Nat := ([], [21, 22, 70, 71, 72, 73, 74], [], [])
set_option maxHeartbeats 4000000 in
set_option maxRecDepth 20000 in
theorem fbX6_wayLength_54_22 (x : XT)  (S : ST) (t0 : Int32) (r : Int32) (S' : ST) (hm : bfX6_wayLength_54_22 x  S t0 = some (r, S')) : Agr wX6_wayLength_54 S S' := by
    unfold bfX6_wayLength_54_22 at hm
    cases hm
    exact Agr.rf
set_option maxHeartbeats 4000000 in
set_option maxRecDepth 20000 in
theorem fbX6_wayLength_54_0 (x : XT)  (S : ST) (p1 : Int32) (p2 : Int32) (r : Int32) (S' : ST) (hm : bfX6_wayLength_54_0 x  S p1 p2 = some (r, S')) : Agr wX6_wayLength_54 S S' := by
    unfold bfX6_wayLength_54_0 at hm
    cases h1 : gfX6_find_54 x S p1 p2 with
    | none => rw [h1] at hm; cases hm
    | some q2 =>
      obtain ⟨r3, S4⟩ := q2
      rw [h1] at hm
      dsimp only at hm
      have a_S4 : Agr wX6_wayLength_54 S S4 := Agr.tr Agr.rf (Agr.sub (frX6_find_54 x S p1 p2 _ _ h1) (by decide))
      by_cases c5 : ¬ r3 = (-1)
      · rw [if_pos c5] at hm
        obtain ⟨o6, hm⟩ := oblk hm
        exact Agr.tr a_S4 (fbX6_wayLength_54_22 x  S4 (S4.2.1 72 r3.toNatClampNeg) _ _ hm)
      · rw [if_neg c5] at hm
        exact Agr.tr a_S4 (fbX6_wayLength_54_22 x  S4 (-1) _ _ hm)
theorem frX6_wayLength_54 (x : XT) (S : ST) (p1 : Int32) (p2 : Int32) (r : Int32) (S' : ST) (hm : gfX6_wayLength_54 x S p1 p2 = some (r, S')) : Agr wX6_wayLength_54 S S' := fbX6_wayLength_54_0 x S p1 p2 r S' hm
def wX10_way_0 : List (Nat × Nat) × List Nat × List Nat × List Nat := ([(54, 2), (55, 0), (55, 6), (55, 11), (55, 16), (55, 18)], [21, 22, 56, 57, 58, 59, 60, 61, 62, 63, 64, 65, 66, 67, 68, 70, 71, 72, 73, 74], [], [69])
set_option maxHeartbeats 4000000 in
set_option maxRecDepth 20000 in
theorem fbX10_way_0_53 (x : XT)  (S : ST) (t0 : Int32) (r : Int32) (S' : ST) (hm : bfX10_way_0_53 x  S t0 = some (r, S')) : Agr wX10_way_0 S S' := by
    unfold bfX10_way_0_53 at hm
    cases hm
    exact Agr.rf
set_option maxHeartbeats 4000000 in
set_option maxRecDepth 20000 in
theorem fbX10_way_0_0 (x : XT)  (S : ST) (p1 : Int32) (p2 : Int32) (p3 : Int32) (p4 : Int32) (r : Int32) (S' : ST) (hm : bfX10_way_0_0 x  S p1 p2 p3 p4 = some (r, S')) : Agr wX10_way_0 S S' := by
    unfold bfX10_way_0_0 at hm
    cases h1 : gfX10_canSeek_0 x S p1 p2 p3 with
    | none => rw [h1] at hm; cases hm
    | some q2 =>
      obtain ⟨r3, S4⟩ := q2
      rw [h1] at hm
      dsimp only at hm
      have a_S4 : Agr wX10_way_0 S S4 := Agr.tr Agr.rf (Agr.sub (frX10_canSeek_0 x S p1 p2 p3 _ _ h1) (by decide))
      by_cases c5 : ¬ r3 = 0
      · rw [if_pos c5] at hm
        cases h6 : gfX6_begin_54_1 x S4 p1 with
        | none => rw [h6] at hm; cases hm
        | some q7 =>
          obtain ⟨r8, S9⟩ := q7
          rw [h6] at hm
          dsimp only at hm
          have a_S9 : Agr wX10_way_0 S S9 := Agr.tr a_S4 (Agr.sub (frX6_begin_54_1 x S4 p1 _ _ h6) (by decide))
          by_cases c10 : ¬ p4 = (-1)
          · rw [if_pos c10] at hm
            cases h11 : gfX6_wayGate_54 x S9 p2 p3 p4 with
            | none => rw [h11] at hm; cases hm
            | some q12 =>
              obtain ⟨r13, S14⟩ := q12
              rw [h11] at hm
              dsimp only at hm
              have a_S14 : Agr wX10_way_0 S S14 := Agr.tr a_S9 (Agr.sub (frX6_wayGate_54 x S9 p2 p3 p4 _ _ h11) (by decide))
              exact Agr.tr a_S14 (fbX10_way_0_53 x  S14 r13 _ _ hm)
          · rw [if_neg c10] at hm
            cases h15 : gfX6_wayLength_54 x S9 p2 p3 with
            | none => rw [h15] at hm; cases hm
            | some q16 =>
              obtain ⟨r17, S18⟩ := q16
              rw [h15] at hm
              dsimp only at hm
              have a_S18 : Agr wX10_way_0 S S18 := Agr.tr a_S9 (Agr.sub (frX6_wayLength_54 x S9 p2 p3 _ _ h15) (by decide))
              exact Agr.tr a_S18 (fbX10_way_0_53 x  S18 r17 _ _ hm)
      · rw [if_neg c5] at hm
        cases hm
        exact a_S4
theorem frX10_way_0 (x : XT) (S : ST) (p1 : Int32) (p2 : Int32) (p3 : Int32) (p4 : Int32) (r : Int32) (S' : ST) (hm : gfX10_way_0 x S p1 p2 p3 p4 = some (r, S')) : Agr wX10_way_0 S S' := fbX10_way_0_0 x S p1 p2 p3 p4 r S' hm
def wX6_payInto_54 : List (Nat × Nat) × List Nat × List Nat × List Nat := ([], [21, 22, 70, 76], [], [])
set_option maxHeartbeats 4000000 in
set_option maxRecDepth 20000 in
theorem fbX6_payInto_54_85 (x : XT)  (S : ST)  (r : Unit) (S' : ST) (hm : bfX6_payInto_54_85 x  S  = some (r, S')) : Agr wX6_payInto_54 S S' := by
    unfold bfX6_payInto_54_85 at hm
    cases hm
    exact Agr.rf
set_option maxHeartbeats 4000000 in
set_option maxRecDepth 20000 in
theorem fbX6_payInto_54_77 (x : XT)  (S : ST) (v3 : Int32) (v4 : Int32) (r : Unit) (S' : ST) (hm : bfX6_payInto_54_77 x  S v3 v4 = some (r, S')) : Agr wX6_payInto_54 S S' := by
    unfold bfX6_payInto_54_77 at hm
    obtain ⟨o1, hm⟩ := oblk hm
    exact Agr.tr (Agr.i Agr.rf 76 v3.toNatClampNeg v4 (by decide)) (fbX6_payInto_54_85 x  (S.1, (u2 S.2.1 76 v3.toNatClampNeg v4), S.2.2.1, S.2.2.2) _ _ hm)
set_option maxHeartbeats 4000000 in
set_option maxRecDepth 20000 in
theorem fbX6_payInto_54_0 (x : XT)  (S : ST) (p1 : Int32) (p2 : Int32) (r : Unit) (S' : ST) (hm : bfX6_payInto_54_0 x  S p1 p2 = some (r, S')) : Agr wX6_payInto_54 S S' := by
    unfold bfX6_payInto_54_0 at hm
    cases h1 : gfX6_behind_54 x S p1 p2 with
    | none => rw [h1] at hm; cases hm
    | some q2 =>
      obtain ⟨r3, S4⟩ := q2
      rw [h1] at hm
      dsimp only at hm
      have a_S4 : Agr wX6_payInto_54 S S4 := Agr.tr Agr.rf (Agr.sub (frX6_behind_54 x S p1 p2 _ _ h1) (by decide))
      by_cases c5 : ¬ r3 = (-1)
      · rw [if_pos c5] at hm
        cases h6 : gfX0_regard_20_55 x S4 (S4.1 54 2) p1 (p2 - p2 / 20 * 20) with
        | none => rw [h6] at hm; cases hm
        | some q7 =>
          obtain ⟨r8, S9⟩ := q7
          rw [h6] at hm
          dsimp only at hm
          have a_S9 : Agr wX6_payInto_54 S S9 := Agr.tr a_S4 (Agr.sub (frX0_regard_20_55 x S4 (S4.1 54 2) p1 (p2 - p2 / 20 * 20) _ _ h6) (by decide))
          obtain ⟨o10, hm⟩ := oblk hm
          cases h11 : gfX0_told_20_55 x S9 261 with
          | none => rw [h11] at hm; cases hm
          | some q12 =>
            obtain ⟨r13, S14⟩ := q12
            rw [h11] at hm
            dsimp only at hm
            have a_S14 : Agr wX6_payInto_54 S S14 := Agr.tr a_S9 (Agr.sub (frX0_told_20_55 x S9 261 _ _ h11) (by decide))
            obtain ⟨o15, hm⟩ := oblk hm
            by_cases c16 : (S14.2.1 76 r3.toNatClampNeg) = (-1)
            · rw [if_pos c16] at hm
              exact Agr.tr a_S14 (fbX6_payInto_54_77 x  S14 r3 ((S9.2.1 76 p2.toNatClampNeg) + r13) _ _ hm)
            · rw [if_neg c16] at hm
              obtain ⟨o17, hm⟩ := oblk hm
              by_cases c18 : (S14.2.1 76 r3.toNatClampNeg) ≤ ((S9.2.1 76 p2.toNatClampNeg) + r13)
              · rw [if_pos c18] at hm
                exact Agr.tr a_S14 (fbX6_payInto_54_85 x  S14 _ _ hm)
              · rw [if_neg c18] at hm
                exact Agr.tr a_S14 (fbX6_payInto_54_77 x  S14 r3 ((S9.2.1 76 p2.toNatClampNeg) + r13) _ _ hm)
      · rw [if_neg c5] at hm
        cases hm
        exact a_S4
theorem frX6_payInto_54 (x : XT) (S : ST) (p1 : Int32) (p2 : Int32) (r : Unit) (S' : ST) (hm : gfX6_payInto_54 x S p1 p2 = some (r, S')) : Agr wX6_payInto_54 S S' := fbX6_payInto_54_0 x S p1 p2 r S' hm
def wX6_cheapestUnsettled_54 : List (Nat × Nat) × List Nat × List Nat × List Nat := ([], [], [], [])
set_option maxHeartbeats 4000000 in
set_option maxRecDepth 20000 in
theorem fbX6_cheapestUnsettled_54_51 (x : XT) (k4 : ST → Int32 → Int32 → Option (Int32 × ST)) (ak4 : ∀ (S : ST) (v1 : Int32) (v2 : Int32) (r : Int32) (S' : ST), k4 S v1 v2 = some (r, S') → Agr wX6_cheapestUnsettled_54 S S') (S : ST) (v1 : Int32) (v2 : Int32) (r : Int32) (S' : ST) (hm : bfX6_cheapestUnsettled_54_51 x k4 S v1 v2 = some (r, S')) : Agr wX6_cheapestUnsettled_54 S S' := by
    unfold bfX6_cheapestUnsettled_54_51 at hm
    exact Agr.tr Agr.rf (ak4 S v1 (v2 + 1) _ _ hm)
set_option maxHeartbeats 4000000 in
set_option maxRecDepth 20000 in
theorem fbX6_cheapestUnsettled_54_49 (x : XT) (k4 : ST → Int32 → Int32 → Option (Int32 × ST)) (ak4 : ∀ (S : ST) (v1 : Int32) (v2 : Int32) (r : Int32) (S' : ST), k4 S v1 v2 = some (r, S') → Agr wX6_cheapestUnsettled_54 S S') (S : ST) (v2 : Int32) (r : Int32) (S' : ST) (hm : bfX6_cheapestUnsettled_54_49 x k4 S v2 = some (r, S')) : Agr wX6_cheapestUnsettled_54 S S' := by
    unfold bfX6_cheapestUnsettled_54_49 at hm
    exact Agr.tr Agr.rf (fbX6_cheapestUnsettled_54_51 x k4 ak4 S v2 v2 _ _ hm)
set_option maxHeartbeats 4000000 in
set_option maxRecDepth 20000 in
theorem fbX6_cheapestUnsettled_54_4 (x : XT) (k4 : ST → Int32 → Int32 → Option (Int32 × ST)) (ak4 : ∀ (S : ST) (v1 : Int32) (v2 : Int32) (r : Int32) (S' : ST), k4 S v1 v2 = some (r, S') → Agr wX6_cheapestUnsettled_54 S S') (S : ST) (v1 : Int32) (v2 : Int32) (r : Int32) (S' : ST) (hm : bfX6_cheapestUnsettled_54_4 x k4 S v1 v2 = some (r, S')) : Agr wX6_cheapestUnsettled_54 S S' := by
    unfold bfX6_cheapestUnsettled_54_4 at hm
    by_cases c1 : 120 ≤ v2
    · rw [if_pos c1] at hm
      cases hm
      exact Agr.rf
    · rw [if_neg c1] at hm
      obtain ⟨o2, hm⟩ := oblk hm
      by_cases c3 : ¬ (S.2.1 77 v2.toNatClampNeg) = 0
      · rw [if_pos c3] at hm
        exact Agr.tr Agr.rf (fbX6_cheapestUnsettled_54_51 x k4 ak4 S v1 v2 _ _ hm)
      · rw [if_neg c3] at hm
        obtain ⟨o4, hm⟩ := oblk hm
        by_cases c5 : (S.2.1 76 v2.toNatClampNeg) = (-1)
        · rw [if_pos c5] at hm
          exact Agr.tr Agr.rf (fbX6_cheapestUnsettled_54_51 x k4 ak4 S v1 v2 _ _ hm)
        · rw [if_neg c5] at hm
          by_cases c6 : v1 = (-1)
          · rw [if_pos c6] at hm
            exact Agr.tr Agr.rf (fbX6_cheapestUnsettled_54_49 x k4 ak4 S v2 _ _ hm)
          · rw [if_neg c6] at hm
            obtain ⟨o7, hm⟩ := oblk hm
            obtain ⟨o8, hm⟩ := oblk hm
            by_cases c9 : (S.2.1 76 v1.toNatClampNeg) ≤ (S.2.1 76 v2.toNatClampNeg)
            · rw [if_pos c9] at hm
              exact Agr.tr Agr.rf (fbX6_cheapestUnsettled_54_51 x k4 ak4 S v1 v2 _ _ hm)
            · rw [if_neg c9] at hm
              exact Agr.tr Agr.rf (fbX6_cheapestUnsettled_54_49 x k4 ak4 S v2 _ _ hm)
theorem flX6_cheapestUnsettled_54_4 (x : XT)  : ∀ (n : Nat) (S : ST) (v1 : Int32) (v2 : Int32) (r : Int32) (S' : ST), lfX6_cheapestUnsettled_54_4 x  n S v1 v2 = some (r, S') → Agr wX6_cheapestUnsettled_54 S S'
  | 0, _, _, _, _, _, hm => by cases hm
  | n + 1, S, v1, v2, r, S', hm => fbX6_cheapestUnsettled_54_4 x (lfX6_cheapestUnsettled_54_4 x  n) (flX6_cheapestUnsettled_54_4 x  n) S v1 v2 r S' hm
set_option maxHeartbeats 4000000 in
set_option maxRecDepth 20000 in
theorem fbX6_cheapestUnsettled_54_0 (x : XT)  (S : ST)  (r : Int32) (S' : ST) (hm : bfX6_cheapestUnsettled_54_0 x  S  = some (r, S')) : Agr wX6_cheapestUnsettled_54 S S' := by
    unfold bfX6_cheapestUnsettled_54_0 at hm
    exact Agr.tr Agr.rf (flX6_cheapestUnsettled_54_4 x  20000 S (-1) 0 _ _ hm)
theorem frX6_cheapestUnsettled_54 (x : XT) (S : ST)  (r : Int32) (S' : ST) (hm : gfX6_cheapestUnsettled_54 x S  = some (r, S')) : Agr wX6_cheapestUnsettled_54 S S' := fbX6_cheapestUnsettled_54_0 x S  r S' hm
def wJ7_fill_53178_76 : List (Nat × Nat) × List Nat × List Nat × List Nat := ([], [76], [], [])
set_option maxHeartbeats 4000000 in
set_option maxRecDepth 20000 in
theorem fbJ7_fill_53178_76_5 (x : XT) (k5 : ST → Int32 → Int32 → Int32 → Option (Unit × ST)) (ak5 : ∀ (S : ST) (v1 : Int32) (v2 : Int32) (v3 : Int32) (r : Unit) (S' : ST), k5 S v1 v2 v3 = some (r, S') → Agr wJ7_fill_53178_76 S S') (S : ST) (v1 : Int32) (v2 : Int32) (v3 : Int32) (r : Unit) (S' : ST) (hm : bfJ7_fill_53178_76_5 x k5 S v1 v2 v3 = some (r, S')) : Agr wJ7_fill_53178_76 S S' := by
    unfold bfJ7_fill_53178_76_5 at hm
    by_cases c1 : v3 ≤ v2
    · rw [if_pos c1] at hm
      cases hm
      exact Agr.rf
    · rw [if_neg c1] at hm
      obtain ⟨o2, hm⟩ := oblk hm
      exact Agr.tr (Agr.i Agr.rf 76 v2.toNatClampNeg v1 (by decide)) (ak5 (S.1, (u2 S.2.1 76 v2.toNatClampNeg v1), S.2.2.1, S.2.2.2) v1 (v2 + 1) v3 _ _ hm)
theorem flJ7_fill_53178_76_5 (x : XT)  : ∀ (n : Nat) (S : ST) (v1 : Int32) (v2 : Int32) (v3 : Int32) (r : Unit) (S' : ST), lfJ7_fill_53178_76_5 x  n S v1 v2 v3 = some (r, S') → Agr wJ7_fill_53178_76 S S'
  | 0, _, _, _, _, _, _, hm => by cases hm
  | n + 1, S, v1, v2, v3, r, S', hm => fbJ7_fill_53178_76_5 x (lfJ7_fill_53178_76_5 x  n) (flJ7_fill_53178_76_5 x  n) S v1 v2 v3 r S' hm
set_option maxHeartbeats 4000000 in
set_option maxRecDepth 20000 in
theorem fbJ7_fill_53178_76_0 (x : XT)  (S : ST) (p1 : Int32) (r : Unit) (S' : ST) (hm : bfJ7_fill_53178_76_0 x  S p1 = some (r, S')) : Agr wJ7_fill_53178_76 S S' := by
    unfold bfJ7_fill_53178_76_0 at hm
    exact Agr.tr Agr.rf (flJ7_fill_53178_76_5 x  20000 S p1 0 120 _ _ hm)
theorem frJ7_fill_53178_76 (x : XT) (S : ST) (p1 : Int32) (r : Unit) (S' : ST) (hm : gfJ7_fill_53178_76 x S p1 = some (r, S')) : Agr wJ7_fill_53178_76 S S' := fbJ7_fill_53178_76_0 x S p1 r S' hm
def wJ7_fill_53178_77 : List (Nat × Nat) × List Nat × List Nat × List Nat := ([], [77], [], [])
set_option maxHeartbeats 4000000 in
set_option maxRecDepth 20000 in
theorem fbJ7_fill_53178_77_5 (x : XT) (k5 : ST → Int32 → Int32 → Int32 → Option (Unit × ST)) (ak5 : ∀ (S : ST) (v1 : Int32) (v2 : Int32) (v3 : Int32) (r : Unit) (S' : ST), k5 S v1 v2 v3 = some (r, S') → Agr wJ7_fill_53178_77 S S') (S : ST) (v1 : Int32) (v2 : Int32) (v3 : Int32) (r : Unit) (S' : ST) (hm : bfJ7_fill_53178_77_5 x k5 S v1 v2 v3 = some (r, S')) : Agr wJ7_fill_53178_77 S S' := by
    unfold bfJ7_fill_53178_77_5 at hm
    by_cases c1 : v3 ≤ v2
    · rw [if_pos c1] at hm
      cases hm
      exact Agr.rf
    · rw [if_neg c1] at hm
      obtain ⟨o2, hm⟩ := oblk hm
      exact Agr.tr (Agr.i Agr.rf 77 v2.toNatClampNeg v1 (by decide)) (ak5 (S.1, (u2 S.2.1 77 v2.toNatClampNeg v1), S.2.2.1, S.2.2.2) v1 (v2 + 1) v3 _ _ hm)
theorem flJ7_fill_53178_77_5 (x : XT)  : ∀ (n : Nat) (S : ST) (v1 : Int32) (v2 : Int32) (v3 : Int32) (r : Unit) (S' : ST), lfJ7_fill_53178_77_5 x  n S v1 v2 v3 = some (r, S') → Agr wJ7_fill_53178_77 S S'
  | 0, _, _, _, _, _, _, hm => by cases hm
  | n + 1, S, v1, v2, v3, r, S', hm => fbJ7_fill_53178_77_5 x (lfJ7_fill_53178_77_5 x  n) (flJ7_fill_53178_77_5 x  n) S v1 v2 v3 r S' hm
set_option maxHeartbeats 4000000 in
set_option maxRecDepth 20000 in
theorem fbJ7_fill_53178_77_0 (x : XT)  (S : ST) (p1 : Int32) (r : Unit) (S' : ST) (hm : bfJ7_fill_53178_77_0 x  S p1 = some (r, S')) : Agr wJ7_fill_53178_77 S S' := by
    unfold bfJ7_fill_53178_77_0 at hm
    exact Agr.tr Agr.rf (flJ7_fill_53178_77_5 x  20000 S p1 0 120 _ _ hm)
theorem frJ7_fill_53178_77 (x : XT) (S : ST) (p1 : Int32) (r : Unit) (S' : ST) (hm : gfJ7_fill_53178_77 x S p1 = some (r, S')) : Agr wJ7_fill_53178_77 S S' := fbJ7_fill_53178_77_0 x S p1 r S' hm
def wX6_leastToll_54 : List (Nat × Nat) × List Nat × List Nat × List Nat := ([], [21, 22, 70, 76, 77], [], [])
set_option maxHeartbeats 4000000 in
set_option maxRecDepth 20000 in
theorem fbX6_leastToll_54_73 (x : XT)  (S : ST) (t0 : Int32) (r : Int32) (S' : ST) (hm : bfX6_leastToll_54_73 x  S t0 = some (r, S')) : Agr wX6_leastToll_54 S S' := by
    unfold bfX6_leastToll_54_73 at hm
    cases hm
    exact Agr.rf
set_option maxHeartbeats 4000000 in
set_option maxRecDepth 20000 in
theorem fbX6_leastToll_54_56 (x : XT)  (S : ST) (v4 : Int32) (r : Int32) (S' : ST) (hm : bfX6_leastToll_54_56 x  S v4 = some (r, S')) : Agr wX6_leastToll_54 S S' := by
    unfold bfX6_leastToll_54_56 at hm
    by_cases c1 : ¬ v4 = (-1)
    · rw [if_pos c1] at hm
      obtain ⟨o2, hm⟩ := oblk hm
      exact Agr.tr Agr.rf (fbX6_leastToll_54_73 x  S (S.2.1 76 v4.toNatClampNeg) _ _ hm)
    · rw [if_neg c1] at hm
      exact Agr.tr Agr.rf (fbX6_leastToll_54_73 x  S (-1) _ _ hm)
set_option maxHeartbeats 4000000 in
set_option maxRecDepth 20000 in
theorem fbX6_leastToll_54_85 (x : XT) (k28 : ST → Int32 → Int32 → Int32 → Option (Int32 × ST)) (ak28 : ∀ (S : ST) (v1 : Int32) (v2 : Int32) (v3 : Int32) (r : Int32) (S' : ST), k28 S v1 v2 v3 = some (r, S') → Agr wX6_leastToll_54 S S') (k85 : ST → Int32 → Int32 → Int32 → Int32 → Int32 → Option (Int32 × ST)) (ak85 : ∀ (S : ST) (v1 : Int32) (v2 : Int32) (v3 : Int32) (v4 : Int32) (v5 : Int32) (r : Int32) (S' : ST), k85 S v1 v2 v3 v4 v5 = some (r, S') → Agr wX6_leastToll_54 S S') (S : ST) (v1 : Int32) (v2 : Int32) (v3 : Int32) (v4 : Int32) (v5 : Int32) (r : Int32) (S' : ST) (hm : bfX6_leastToll_54_85 x k28 k85 S v1 v2 v3 v4 v5 = some (r, S')) : Agr wX6_leastToll_54 S S' := by
    unfold bfX6_leastToll_54_85 at hm
    by_cases c1 : (S.1 55 0) ≤ v5
    · rw [if_pos c1] at hm
      exact Agr.tr Agr.rf (ak28 S v1 v2 (v3 + 1) _ _ hm)
    · rw [if_neg c1] at hm
      cases h2 : gfX6_payInto_54 x S v5 v4 with
      | none => rw [h2] at hm; cases hm
      | some q3 =>
        obtain ⟨r4, S5⟩ := q3
        rw [h2] at hm
        dsimp only at hm
        have a_S5 : Agr wX6_leastToll_54 S S5 := Agr.tr Agr.rf (Agr.sub (frX6_payInto_54 x S v5 v4 _ _ h2) (by decide))
        exact Agr.tr a_S5 (ak85 S5 v1 v2 v3 v4 (v5 + 1) _ _ hm)
theorem flX6_leastToll_54_85 (x : XT) (k28 : ST → Int32 → Int32 → Int32 → Option (Int32 × ST)) (ak28 : ∀ (S : ST) (v1 : Int32) (v2 : Int32) (v3 : Int32) (r : Int32) (S' : ST), k28 S v1 v2 v3 = some (r, S') → Agr wX6_leastToll_54 S S') : ∀ (n : Nat) (S : ST) (v1 : Int32) (v2 : Int32) (v3 : Int32) (v4 : Int32) (v5 : Int32) (r : Int32) (S' : ST), lfX6_leastToll_54_85 x k28 n S v1 v2 v3 v4 v5 = some (r, S') → Agr wX6_leastToll_54 S S'
  | 0, _, _, _, _, _, _, _, _, hm => by cases hm
  | n + 1, S, v1, v2, v3, v4, v5, r, S', hm => fbX6_leastToll_54_85 x k28 ak28 (lfX6_leastToll_54_85 x k28 n) (flX6_leastToll_54_85 x k28 ak28 n) S v1 v2 v3 v4 v5 r S' hm
set_option maxHeartbeats 4000000 in
set_option maxRecDepth 20000 in
theorem fbX6_leastToll_54_28 (x : XT) (k28 : ST → Int32 → Int32 → Int32 → Option (Int32 × ST)) (ak28 : ∀ (S : ST) (v1 : Int32) (v2 : Int32) (v3 : Int32) (r : Int32) (S' : ST), k28 S v1 v2 v3 = some (r, S') → Agr wX6_leastToll_54 S S') (S : ST) (v1 : Int32) (v2 : Int32) (v3 : Int32) (r : Int32) (S' : ST) (hm : bfX6_leastToll_54_28 x k28 S v1 v2 v3 = some (r, S')) : Agr wX6_leastToll_54 S S' := by
    unfold bfX6_leastToll_54_28 at hm
    by_cases c1 : 120 ≤ v3
    · rw [if_pos c1] at hm
      cases hm
      exact Agr.rf
    · rw [if_neg c1] at hm
      cases h2 : gfX6_cheapestUnsettled_54 x S with
      | none => rw [h2] at hm; cases hm
      | some q3 =>
        obtain ⟨r4, S5⟩ := q3
        rw [h2] at hm
        dsimp only at hm
        have a_S5 : Agr wX6_leastToll_54 S S5 := Agr.tr Agr.rf (Agr.sub (frX6_cheapestUnsettled_54 x S _ _ h2) (by decide))
        by_cases c6 : r4 = (-1)
        · rw [if_pos c6] at hm
          exact Agr.tr a_S5 (fbX6_leastToll_54_56 x  S5 r4 _ _ hm)
        · rw [if_neg c6] at hm
          cases h7 : gfX6_isAt x S5 r4 v1 v2 with
          | none => rw [h7] at hm; cases hm
          | some q8 =>
            obtain ⟨r9, S10⟩ := q8
            rw [h7] at hm
            dsimp only at hm
            have a_S10 : Agr wX6_leastToll_54 S S10 := Agr.tr a_S5 (Agr.sub (frX6_isAt x S5 r4 v1 v2 _ _ h7) (by decide))
            by_cases c11 : r9 = 0
            · rw [if_pos c11] at hm
              obtain ⟨o12, hm⟩ := oblk hm
              exact Agr.tr (Agr.i a_S10 77 r4.toNatClampNeg 1 (by decide)) (flX6_leastToll_54_85 x k28 ak28 20000 (S10.1, (u2 S10.2.1 77 r4.toNatClampNeg 1), S10.2.2.1, S10.2.2.2) v1 v2 v3 r4 0 _ _ hm)
            · rw [if_neg c11] at hm
              exact Agr.tr a_S10 (fbX6_leastToll_54_56 x  S10 r4 _ _ hm)
theorem flX6_leastToll_54_28 (x : XT)  : ∀ (n : Nat) (S : ST) (v1 : Int32) (v2 : Int32) (v3 : Int32) (r : Int32) (S' : ST), lfX6_leastToll_54_28 x  n S v1 v2 v3 = some (r, S') → Agr wX6_leastToll_54 S S'
  | 0, _, _, _, _, _, _, hm => by cases hm
  | n + 1, S, v1, v2, v3, r, S', hm => fbX6_leastToll_54_28 x (lfX6_leastToll_54_28 x  n) (flX6_leastToll_54_28 x  n) S v1 v2 v3 r S' hm
set_option maxHeartbeats 4000000 in
set_option maxRecDepth 20000 in
theorem fbX6_leastToll_54_0 (x : XT)  (S : ST) (p1 : Int32) (p2 : Int32) (r : Int32) (S' : ST) (hm : bfX6_leastToll_54_0 x  S p1 p2 = some (r, S')) : Agr wX6_leastToll_54 S S' := by
    unfold bfX6_leastToll_54_0 at hm
    cases h1 : gfJ7_fill_53178_76 x S (-1) with
    | none => rw [h1] at hm; cases hm
    | some q2 =>
      obtain ⟨r3, S4⟩ := q2
      rw [h1] at hm
      dsimp only at hm
      have a_S4 : Agr wX6_leastToll_54 S S4 := Agr.tr Agr.rf (Agr.sub (frJ7_fill_53178_76 x S (-1) _ _ h1) (by decide))
      cases h5 : gfJ7_fill_53178_77 x S4 0 with
      | none => rw [h5] at hm; cases hm
      | some q6 =>
        obtain ⟨r7, S8⟩ := q6
        rw [h5] at hm
        dsimp only at hm
        have a_S8 : Agr wX6_leastToll_54 S S8 := Agr.tr a_S4 (Agr.sub (frJ7_fill_53178_77 x S4 0 _ _ h5) (by decide))
        cases h9 : gfX6_start_54 x S8 with
        | none => rw [h9] at hm; cases hm
        | some q10 =>
          obtain ⟨r11, S12⟩ := q10
          rw [h9] at hm
          dsimp only at hm
          have a_S12 : Agr wX6_leastToll_54 S S12 := Agr.tr a_S8 (Agr.sub (frX6_start_54 x S8 _ _ h9) (by decide))
          obtain ⟨o13, hm⟩ := oblk hm
          exact Agr.tr (Agr.i a_S12 76 r11.toNatClampNeg 0 (by decide)) (flX6_leastToll_54_28 x  20000 (S12.1, (u2 S12.2.1 76 r11.toNatClampNeg 0), S12.2.2.1, S12.2.2.2) p1 p2 0 _ _ hm)
theorem frX6_leastToll_54 (x : XT) (S : ST) (p1 : Int32) (p2 : Int32) (r : Int32) (S' : ST) (hm : gfX6_leastToll_54 x S p1 p2 = some (r, S')) : Agr wX6_leastToll_54 S S' := fbX6_leastToll_54_0 x S p1 p2 r S' hm
def wX10_cheap_0 : List (Nat × Nat) × List Nat × List Nat × List Nat := ([(54, 2), (55, 0), (55, 6), (55, 11), (55, 16), (55, 18)], [21, 22, 56, 57, 58, 59, 60, 61, 62, 63, 64, 65, 66, 67, 68, 70, 76, 77], [], [69])
set_option maxHeartbeats 4000000 in
set_option maxRecDepth 20000 in
theorem fbX10_cheap_0_0 (x : XT)  (S : ST) (p1 : Int32) (p2 : Int32) (p3 : Int32) (r : Int32) (S' : ST) (hm : bfX10_cheap_0_0 x  S p1 p2 p3 = some (r, S')) : Agr wX10_cheap_0 S S' := by
    unfold bfX10_cheap_0_0 at hm
    cases h1 : gfX10_canSeek_0 x S p1 p2 p3 with
    | none => rw [h1] at hm; cases hm
    | some q2 =>
      obtain ⟨r3, S4⟩ := q2
      rw [h1] at hm
      dsimp only at hm
      have a_S4 : Agr wX10_cheap_0 S S4 := Agr.tr Agr.rf (Agr.sub (frX10_canSeek_0 x S p1 p2 p3 _ _ h1) (by decide))
      by_cases c5 : ¬ r3 = 0
      · rw [if_pos c5] at hm
        cases h6 : gfX6_begin_54_1 x S4 p1 with
        | none => rw [h6] at hm; cases hm
        | some q7 =>
          obtain ⟨r8, S9⟩ := q7
          rw [h6] at hm
          dsimp only at hm
          have a_S9 : Agr wX10_cheap_0 S S9 := Agr.tr a_S4 (Agr.sub (frX6_begin_54_1 x S4 p1 _ _ h6) (by decide))
          cases h10 : gfX6_leastToll_54 x S9 p2 p3 with
          | none => rw [h10] at hm; cases hm
          | some q11 =>
            obtain ⟨r12, S13⟩ := q11
            rw [h10] at hm
            dsimp only at hm
            have a_S13 : Agr wX10_cheap_0 S S13 := Agr.tr a_S9 (Agr.sub (frX6_leastToll_54 x S9 p2 p3 _ _ h10) (by decide))
            cases hm
            exact a_S13
      · rw [if_neg c5] at hm
        cases hm
        exact a_S4
theorem frX10_cheap_0 (x : XT) (S : ST) (p1 : Int32) (p2 : Int32) (p3 : Int32) (r : Int32) (S' : ST) (hm : gfX10_cheap_0 x S p1 p2 p3 = some (r, S')) : Agr wX10_cheap_0 S S' := fbX10_cheap_0_0 x S p1 p2 p3 r S' hm
def wX6_findAll_54 : List (Nat × Nat) × List Nat × List Nat × List Nat := ([], [21, 22, 70, 71, 72, 73, 74], [], [])
set_option maxHeartbeats 4000000 in
set_option maxRecDepth 20000 in
theorem fbX6_findAll_54_0 (x : XT)  (S : ST)  (r : Unit) (S' : ST) (hm : bfX6_findAll_54_0 x  S  = some (r, S')) : Agr wX6_findAll_54 S S' := by
    unfold bfX6_findAll_54_0 at hm
    cases h1 : gfX6_find_54 x S (-1) (-1) with
    | none => rw [h1] at hm; cases hm
    | some q2 =>
      obtain ⟨r3, S4⟩ := q2
      rw [h1] at hm
      dsimp only at hm
      have a_S4 : Agr wX6_findAll_54 S S4 := Agr.tr Agr.rf (Agr.sub (frX6_find_54 x S (-1) (-1) _ _ h1) (by decide))
      cases hm
      exact a_S4
theorem frX6_findAll_54 (x : XT) (S : ST)  (r : Unit) (S' : ST) (hm : gfX6_findAll_54 x S  = some (r, S')) : Agr wX6_findAll_54 S S' := fbX6_findAll_54_0 x S  r S' hm
def wX6_manyBits_54 : List (Nat × Nat) × List Nat × List Nat × List Nat := ([], [21, 22, 70, 71, 72, 73, 74], [], [])
set_option maxHeartbeats 4000000 in
set_option maxRecDepth 20000 in
theorem fbX6_manyBits_54_35 (x : XT) (k8 : ST → Int32 → Int32 → Int32 → Option (Int32 × ST)) (ak8 : ∀ (S : ST) (v1 : Int32) (v2 : Int32) (v3 : Int32) (r : Int32) (S' : ST), k8 S v1 v2 v3 = some (r, S') → Agr wX6_manyBits_54 S S') (S : ST) (v1 : Int32) (v2 : Int32) (v3 : Int32) (r : Int32) (S' : ST) (hm : bfX6_manyBits_54_35 x k8 S v1 v2 v3 = some (r, S')) : Agr wX6_manyBits_54 S S' := by
    unfold bfX6_manyBits_54_35 at hm
    exact Agr.tr Agr.rf (ak8 S v1 v2 (v3 + 1) _ _ hm)
set_option maxHeartbeats 4000000 in
set_option maxRecDepth 20000 in
theorem fbX6_manyBits_54_8 (x : XT) (k8 : ST → Int32 → Int32 → Int32 → Option (Int32 × ST)) (ak8 : ∀ (S : ST) (v1 : Int32) (v2 : Int32) (v3 : Int32) (r : Int32) (S' : ST), k8 S v1 v2 v3 = some (r, S') → Agr wX6_manyBits_54 S S') (S : ST) (v1 : Int32) (v2 : Int32) (v3 : Int32) (r : Int32) (S' : ST) (hm : bfX6_manyBits_54_8 x k8 S v1 v2 v3 = some (r, S')) : Agr wX6_manyBits_54 S S' := by
    unfold bfX6_manyBits_54_8 at hm
    by_cases c1 : 20 ≤ v3
    · rw [if_pos c1] at hm
      cases hm
      exact Agr.rf
    · rw [if_neg c1] at hm
      obtain ⟨o2, hm⟩ := oblk hm
      by_cases c3 : (S.2.1 72 (((v1 * 20) + v3).toNatClampNeg)) = (-1)
      · rw [if_pos c3] at hm
        exact Agr.tr Agr.rf (fbX6_manyBits_54_35 x k8 ak8 S v1 v2 v3 _ _ hm)
      · rw [if_neg c3] at hm
        exact Agr.tr Agr.rf (fbX6_manyBits_54_35 x k8 ak8 S v1 (v2 ||| (1 <<< (v3 &&& 31))) v3 _ _ hm)
theorem flX6_manyBits_54_8 (x : XT)  : ∀ (n : Nat) (S : ST) (v1 : Int32) (v2 : Int32) (v3 : Int32) (r : Int32) (S' : ST), lfX6_manyBits_54_8 x  n S v1 v2 v3 = some (r, S') → Agr wX6_manyBits_54 S S'
  | 0, _, _, _, _, _, _, hm => by cases hm
  | n + 1, S, v1, v2, v3, r, S', hm => fbX6_manyBits_54_8 x (lfX6_manyBits_54_8 x  n) (flX6_manyBits_54_8 x  n) S v1 v2 v3 r S' hm
set_option maxHeartbeats 4000000 in
set_option maxRecDepth 20000 in
theorem fbX6_manyBits_54_0 (x : XT)  (S : ST) (p1 : Int32) (r : Int32) (S' : ST) (hm : bfX6_manyBits_54_0 x  S p1 = some (r, S')) : Agr wX6_manyBits_54 S S' := by
    unfold bfX6_manyBits_54_0 at hm
    cases h1 : gfX6_findAll_54 x S with
    | none => rw [h1] at hm; cases hm
    | some q2 =>
      obtain ⟨r3, S4⟩ := q2
      rw [h1] at hm
      dsimp only at hm
      have a_S4 : Agr wX6_manyBits_54 S S4 := Agr.tr Agr.rf (Agr.sub (frX6_findAll_54 x S _ _ h1) (by decide))
      exact Agr.tr a_S4 (flX6_manyBits_54_8 x  20000 S4 p1 0 0 _ _ hm)
theorem frX6_manyBits_54 (x : XT) (S : ST) (p1 : Int32) (r : Int32) (S' : ST) (hm : gfX6_manyBits_54 x S p1 = some (r, S')) : Agr wX6_manyBits_54 S S' := fbX6_manyBits_54_0 x S p1 r S' hm
def wX10_manys_0 : List (Nat × Nat) × List Nat × List Nat × List Nat := ([(54, 2), (55, 0), (55, 6), (55, 11), (55, 16), (55, 18)], [21, 22, 56, 57, 58, 59, 60, 61, 62, 63, 64, 65, 66, 67, 68, 70, 71, 72, 73, 74], [], [69])
set_option maxHeartbeats 4000000 in
set_option maxRecDepth 20000 in
theorem fbX10_manys_0_0 (x : XT)  (S : ST) (p1 : Int32) (p2 : Int32) (r : Int32) (S' : ST) (hm : bfX10_manys_0_0 x  S p1 p2 = some (r, S')) : Agr wX10_manys_0 S S' := by
    unfold bfX10_manys_0_0 at hm
    cases h1 : gfX10_canSeek_0 x S p1 p2 (-1) with
    | none => rw [h1] at hm; cases hm
    | some q2 =>
      obtain ⟨r3, S4⟩ := q2
      rw [h1] at hm
      dsimp only at hm
      have a_S4 : Agr wX10_manys_0 S S4 := Agr.tr Agr.rf (Agr.sub (frX10_canSeek_0 x S p1 p2 (-1) _ _ h1) (by decide))
      by_cases c5 : ¬ r3 = 0
      · rw [if_pos c5] at hm
        cases h6 : gfX6_begin_54_1 x S4 p1 with
        | none => rw [h6] at hm; cases hm
        | some q7 =>
          obtain ⟨r8, S9⟩ := q7
          rw [h6] at hm
          dsimp only at hm
          have a_S9 : Agr wX10_manys_0 S S9 := Agr.tr a_S4 (Agr.sub (frX6_begin_54_1 x S4 p1 _ _ h6) (by decide))
          cases h10 : gfX6_manyBits_54 x S9 p2 with
          | none => rw [h10] at hm; cases hm
          | some q11 =>
            obtain ⟨r12, S13⟩ := q11
            rw [h10] at hm
            dsimp only at hm
            have a_S13 : Agr wX10_manys_0 S S13 := Agr.tr a_S9 (Agr.sub (frX6_manyBits_54 x S9 p2 _ _ h10) (by decide))
            cases hm
            exact a_S13
      · rw [if_neg c5] at hm
        cases hm
        exact a_S4
theorem frX10_manys_0 (x : XT) (S : ST) (p1 : Int32) (p2 : Int32) (r : Int32) (S' : ST) (hm : gfX10_manys_0 x S p1 p2 = some (r, S')) : Agr wX10_manys_0 S S' := fbX10_manys_0_0 x S p1 p2 r S' hm
def wX6_parkBits_54 : List (Nat × Nat) × List Nat × List Nat × List Nat := ([], [21, 22, 70, 71, 72, 73, 74], [], [])
set_option maxHeartbeats 4000000 in
set_option maxRecDepth 20000 in
theorem fbX6_parkBits_54_33 (x : XT) (k8 : ST → Int32 → Int32 → Option (Int32 × ST)) (ak8 : ∀ (S : ST) (v1 : Int32) (v2 : Int32) (r : Int32) (S' : ST), k8 S v1 v2 = some (r, S') → Agr wX6_parkBits_54 S S') (S : ST) (v1 : Int32) (v2 : Int32) (r : Int32) (S' : ST) (hm : bfX6_parkBits_54_33 x k8 S v1 v2 = some (r, S')) : Agr wX6_parkBits_54 S S' := by
    unfold bfX6_parkBits_54_33 at hm
    exact Agr.tr Agr.rf (ak8 S v1 (v2 + 1) _ _ hm)
set_option maxHeartbeats 4000000 in
set_option maxRecDepth 20000 in
theorem fbX6_parkBits_54_8 (x : XT) (k8 : ST → Int32 → Int32 → Option (Int32 × ST)) (ak8 : ∀ (S : ST) (v1 : Int32) (v2 : Int32) (r : Int32) (S' : ST), k8 S v1 v2 = some (r, S') → Agr wX6_parkBits_54 S S') (S : ST) (v1 : Int32) (v2 : Int32) (r : Int32) (S' : ST) (hm : bfX6_parkBits_54_8 x k8 S v1 v2 = some (r, S')) : Agr wX6_parkBits_54 S S' := by
    unfold bfX6_parkBits_54_8 at hm
    by_cases c1 : 120 ≤ v2
    · rw [if_pos c1] at hm
      cases hm
      exact Agr.rf
    · rw [if_neg c1] at hm
      obtain ⟨o2, hm⟩ := oblk hm
      by_cases c3 : (S.2.1 72 v2.toNatClampNeg) = (-1)
      · rw [if_pos c3] at hm
        exact Agr.tr Agr.rf (fbX6_parkBits_54_33 x k8 ak8 S v1 v2 _ _ hm)
      · rw [if_neg c3] at hm
        exact Agr.tr Agr.rf (fbX6_parkBits_54_33 x k8 ak8 S (v1 ||| (1 <<< ((v2 / 20) &&& 31))) v2 _ _ hm)
theorem flX6_parkBits_54_8 (x : XT)  : ∀ (n : Nat) (S : ST) (v1 : Int32) (v2 : Int32) (r : Int32) (S' : ST), lfX6_parkBits_54_8 x  n S v1 v2 = some (r, S') → Agr wX6_parkBits_54 S S'
  | 0, _, _, _, _, _, hm => by cases hm
  | n + 1, S, v1, v2, r, S', hm => fbX6_parkBits_54_8 x (lfX6_parkBits_54_8 x  n) (flX6_parkBits_54_8 x  n) S v1 v2 r S' hm
set_option maxHeartbeats 4000000 in
set_option maxRecDepth 20000 in
theorem fbX6_parkBits_54_0 (x : XT)  (S : ST)  (r : Int32) (S' : ST) (hm : bfX6_parkBits_54_0 x  S  = some (r, S')) : Agr wX6_parkBits_54 S S' := by
    unfold bfX6_parkBits_54_0 at hm
    cases h1 : gfX6_findAll_54 x S with
    | none => rw [h1] at hm; cases hm
    | some q2 =>
      obtain ⟨r3, S4⟩ := q2
      rw [h1] at hm
      dsimp only at hm
      have a_S4 : Agr wX6_parkBits_54 S S4 := Agr.tr Agr.rf (Agr.sub (frX6_findAll_54 x S _ _ h1) (by decide))
      exact Agr.tr a_S4 (flX6_parkBits_54_8 x  20000 S4 0 0 _ _ hm)
theorem frX6_parkBits_54 (x : XT) (S : ST)  (r : Int32) (S' : ST) (hm : gfX6_parkBits_54 x S  = some (r, S')) : Agr wX6_parkBits_54 S S' := fbX6_parkBits_54_0 x S  r S' hm
def wX10_reach_0 : List (Nat × Nat) × List Nat × List Nat × List Nat := ([(54, 2), (55, 0), (55, 6), (55, 11), (55, 16), (55, 18)], [21, 22, 56, 57, 58, 59, 60, 61, 62, 63, 64, 65, 66, 67, 68, 70, 71, 72, 73, 74], [], [69])
set_option maxHeartbeats 4000000 in
set_option maxRecDepth 20000 in
theorem fbX10_reach_0_0 (x : XT)  (S : ST) (p1 : Int32) (r : Int32) (S' : ST) (hm : bfX10_reach_0_0 x  S p1 = some (r, S')) : Agr wX10_reach_0 S S' := by
    unfold bfX10_reach_0_0 at hm
    cases h1 : gfX7_hasGoer_1 x S p1 with
    | none => rw [h1] at hm; cases hm
    | some q2 =>
      obtain ⟨r3, S4⟩ := q2
      rw [h1] at hm
      dsimp only at hm
      have a_S4 : Agr wX10_reach_0 S S4 := Agr.tr Agr.rf (Agr.sub (frX7_hasGoer_1 x S p1 _ _ h1) (by decide))
      by_cases c5 : ¬ r3 = 0
      · rw [if_pos c5] at hm
        cases h6 : gfX6_begin_54_1 x S4 p1 with
        | none => rw [h6] at hm; cases hm
        | some q7 =>
          obtain ⟨r8, S9⟩ := q7
          rw [h6] at hm
          dsimp only at hm
          have a_S9 : Agr wX10_reach_0 S S9 := Agr.tr a_S4 (Agr.sub (frX6_begin_54_1 x S4 p1 _ _ h6) (by decide))
          cases h10 : gfX6_parkBits_54 x S9 with
          | none => rw [h10] at hm; cases hm
          | some q11 =>
            obtain ⟨r12, S13⟩ := q11
            rw [h10] at hm
            dsimp only at hm
            have a_S13 : Agr wX10_reach_0 S S13 := Agr.tr a_S9 (Agr.sub (frX6_parkBits_54 x S9 _ _ h10) (by decide))
            cases hm
            exact a_S13
      · rw [if_neg c5] at hm
        cases hm
        exact a_S4
theorem frX10_reach_0 (x : XT) (S : ST) (p1 : Int32) (r : Int32) (S' : ST) (hm : gfX10_reach_0 x S p1 = some (r, S')) : Agr wX10_reach_0 S S' := fbX10_reach_0_0 x S p1 r S' hm
def wX6_flowFrom_54 : List (Nat × Nat) × List Nat × List Nat × List Nat := ([], [21, 22, 70], [79], [])
set_option maxHeartbeats 4000000 in
set_option maxRecDepth 20000 in
theorem fbX6_flowFrom_54_136 (x : XT) (k97 : ST → Int32 → Int64 → Int32 → Option (Unit × ST)) (ak97 : ∀ (S : ST) (v1 : Int32) (v4 : Int64) (v6 : Int32) (r : Unit) (S' : ST), k97 S v1 v4 v6 = some (r, S') → Agr wX6_flowFrom_54 S S') (S : ST) (v1 : Int32) (v4 : Int64) (v6 : Int32) (r : Unit) (S' : ST) (hm : bfX6_flowFrom_54_136 x k97 S v1 v4 v6 = some (r, S')) : Agr wX6_flowFrom_54 S S' := by
    unfold bfX6_flowFrom_54_136 at hm
    exact Agr.tr Agr.rf (ak97 S v1 v4 (v6 + 1) _ _ hm)
set_option maxHeartbeats 4000000 in
set_option maxRecDepth 20000 in
theorem fbX6_flowFrom_54_97 (x : XT) (k97 : ST → Int32 → Int64 → Int32 → Option (Unit × ST)) (ak97 : ∀ (S : ST) (v1 : Int32) (v4 : Int64) (v6 : Int32) (r : Unit) (S' : ST), k97 S v1 v4 v6 = some (r, S') → Agr wX6_flowFrom_54 S S') (S : ST) (v1 : Int32) (v4 : Int64) (v6 : Int32) (r : Unit) (S' : ST) (hm : bfX6_flowFrom_54_97 x k97 S v1 v4 v6 = some (r, S')) : Agr wX6_flowFrom_54 S S' := by
    unfold bfX6_flowFrom_54_97 at hm
    by_cases c1 : (S.1 55 0) ≤ v6
    · rw [if_pos c1] at hm
      cases hm
      exact Agr.rf
    · rw [if_neg c1] at hm
      cases h2 : gfX6_behind_54 x S v6 v1 with
      | none => rw [h2] at hm; cases hm
      | some q3 =>
        obtain ⟨r4, S5⟩ := q3
        rw [h2] at hm
        dsimp only at hm
        have a_S5 : Agr wX6_flowFrom_54 S S5 := Agr.tr Agr.rf (Agr.sub (frX6_behind_54 x S v6 v1 _ _ h2) (by decide))
        by_cases c6 : r4 = (-1)
        · rw [if_pos c6] at hm
          exact Agr.tr a_S5 (fbX6_flowFrom_54_136 x k97 ak97 S5 v1 v4 v6 _ _ hm)
        · rw [if_neg c6] at hm
          obtain ⟨o7, hm⟩ := oblk hm
          obtain ⟨o8, hm⟩ := oblk hm
          exact Agr.tr (Agr.j a_S5 79 r4.toNatClampNeg ((S5.2.2.1 79 r4.toNatClampNeg) + v4) (by decide)) (fbX6_flowFrom_54_136 x k97 ak97 (S5.1, S5.2.1, (u2 S5.2.2.1 79 r4.toNatClampNeg ((S5.2.2.1 79 r4.toNatClampNeg) + v4)), S5.2.2.2) v1 v4 v6 _ _ hm)
theorem flX6_flowFrom_54_97 (x : XT)  : ∀ (n : Nat) (S : ST) (v1 : Int32) (v4 : Int64) (v6 : Int32) (r : Unit) (S' : ST), lfX6_flowFrom_54_97 x  n S v1 v4 v6 = some (r, S') → Agr wX6_flowFrom_54 S S'
  | 0, _, _, _, _, _, _, hm => by cases hm
  | n + 1, S, v1, v4, v6, r, S', hm => fbX6_flowFrom_54_97 x (lfX6_flowFrom_54_97 x  n) (flX6_flowFrom_54_97 x  n) S v1 v4 v6 r S' hm
set_option maxHeartbeats 4000000 in
set_option maxRecDepth 20000 in
theorem fbX6_flowFrom_54_92 (x : XT)  (S : ST) (v1 : Int32) (t0 : Int64) (r : Unit) (S' : ST) (hm : bfX6_flowFrom_54_92 x  S v1 t0 = some (r, S')) : Agr wX6_flowFrom_54 S S' := by
    unfold bfX6_flowFrom_54_92 at hm
    exact Agr.tr Agr.rf (flX6_flowFrom_54_97 x  20000 S v1 t0 0 _ _ hm)
set_option maxHeartbeats 4000000 in
set_option maxRecDepth 20000 in
theorem fbX6_flowFrom_54_67 (x : XT)  (S : ST) (t1 : Int32) (t2 : Int64) (t3 : Int64) (r : Unit) (S' : ST) (hm : bfX6_flowFrom_54_67 x  S t1 t2 t3 = some (r, S')) : Agr wX6_flowFrom_54 S S' := by
    unfold bfX6_flowFrom_54_67 at hm
    obtain ⟨o1, hm⟩ := oblk hm
    cases hm
    exact (Agr.j Agr.rf 79 t1.toNatClampNeg (t2 + t3) (by decide))
set_option maxHeartbeats 4000000 in
set_option maxRecDepth 20000 in
theorem fbX6_flowFrom_54_34 (x : XT) (k5 : ST → Int32 → Int32 → Int32 → Int32 → Option (Unit × ST)) (ak5 : ∀ (S : ST) (v1 : Int32) (v2 : Int32) (v3 : Int32) (v4 : Int32) (r : Unit) (S' : ST), k5 S v1 v2 v3 v4 = some (r, S') → Agr wX6_flowFrom_54 S S') (S : ST) (v1 : Int32) (v2 : Int32) (v4 : Int32) (t0 : Int32) (t1 : Int32) (r : Unit) (S' : ST) (hm : bfX6_flowFrom_54_34 x k5 S v1 v2 v4 t0 t1 = some (r, S')) : Agr wX6_flowFrom_54 S S' := by
    unfold bfX6_flowFrom_54_34 at hm
    exact Agr.tr Agr.rf (ak5 S v1 v2 (t0 + t1) (v4 + 1) _ _ hm)
set_option maxHeartbeats 4000000 in
set_option maxRecDepth 20000 in
theorem fbX6_flowFrom_54_5 (x : XT) (k5 : ST → Int32 → Int32 → Int32 → Int32 → Option (Unit × ST)) (ak5 : ∀ (S : ST) (v1 : Int32) (v2 : Int32) (v3 : Int32) (v4 : Int32) (r : Unit) (S' : ST), k5 S v1 v2 v3 v4 = some (r, S') → Agr wX6_flowFrom_54 S S') (S : ST) (v1 : Int32) (v2 : Int32) (v3 : Int32) (v4 : Int32) (r : Unit) (S' : ST) (hm : bfX6_flowFrom_54_5 x k5 S v1 v2 v3 v4 = some (r, S')) : Agr wX6_flowFrom_54 S S' := by
    unfold bfX6_flowFrom_54_5 at hm
    by_cases c1 : (S.1 55 0) ≤ v4
    · rw [if_pos c1] at hm
      by_cases c2 : ¬ v3 = 0
      · rw [if_pos c2] at hm
        by_cases c3 : v2 = 0
        · rw [if_pos c3] at hm
          obtain ⟨o4, hm⟩ := oblk hm
          exact Agr.tr Agr.rf (fbX6_flowFrom_54_92 x  S v1 (S.2.2.1 78 v1.toNatClampNeg) _ _ hm)
        · rw [if_neg c3] at hm
          obtain ⟨o5, hm⟩ := oblk hm
          obtain ⟨o6, hm⟩ := oblk hm
          exact Agr.tr Agr.rf (fbX6_flowFrom_54_92 x  S v1 ((S.2.2.1 78 v1.toNatClampNeg) / v3.toInt64) _ _ hm)
      · rw [if_neg c2] at hm
        obtain ⟨o7, hm⟩ := oblk hm
        by_cases c8 : v2 = 0
        · rw [if_pos c8] at hm
          exact Agr.tr Agr.rf (fbX6_flowFrom_54_67 x  S v1 (S.2.2.1 79 v1.toNatClampNeg) 0 _ _ hm)
        · rw [if_neg c8] at hm
          obtain ⟨o9, hm⟩ := oblk hm
          exact Agr.tr Agr.rf (fbX6_flowFrom_54_67 x  S v1 (S.2.2.1 79 v1.toNatClampNeg) (S.2.2.1 78 v1.toNatClampNeg) _ _ hm)
    · rw [if_neg c1] at hm
      cases h10 : gfX6_behind_54 x S v4 v1 with
      | none => rw [h10] at hm; cases hm
      | some q11 =>
        obtain ⟨r12, S13⟩ := q11
        rw [h10] at hm
        dsimp only at hm
        have a_S13 : Agr wX6_flowFrom_54 S S13 := Agr.tr Agr.rf (Agr.sub (frX6_behind_54 x S v4 v1 _ _ h10) (by decide))
        by_cases c14 : ¬ r12 = (-1)
        · rw [if_pos c14] at hm
          exact Agr.tr a_S13 (fbX6_flowFrom_54_34 x k5 ak5 S13 v1 v2 v4 v3 1 _ _ hm)
        · rw [if_neg c14] at hm
          exact Agr.tr a_S13 (fbX6_flowFrom_54_34 x k5 ak5 S13 v1 v2 v4 v3 0 _ _ hm)
theorem flX6_flowFrom_54_5 (x : XT)  : ∀ (n : Nat) (S : ST) (v1 : Int32) (v2 : Int32) (v3 : Int32) (v4 : Int32) (r : Unit) (S' : ST), lfX6_flowFrom_54_5 x  n S v1 v2 v3 v4 = some (r, S') → Agr wX6_flowFrom_54 S S'
  | 0, _, _, _, _, _, _, _, hm => by cases hm
  | n + 1, S, v1, v2, v3, v4, r, S', hm => fbX6_flowFrom_54_5 x (lfX6_flowFrom_54_5 x  n) (flX6_flowFrom_54_5 x  n) S v1 v2 v3 v4 r S' hm
set_option maxHeartbeats 4000000 in
set_option maxRecDepth 20000 in
theorem fbX6_flowFrom_54_0 (x : XT)  (S : ST) (p1 : Int32) (p2 : Int32) (r : Unit) (S' : ST) (hm : bfX6_flowFrom_54_0 x  S p1 p2 = some (r, S')) : Agr wX6_flowFrom_54 S S' := by
    unfold bfX6_flowFrom_54_0 at hm
    exact Agr.tr Agr.rf (flX6_flowFrom_54_5 x  20000 S p1 p2 0 0 _ _ hm)
theorem frX6_flowFrom_54 (x : XT) (S : ST) (p1 : Int32) (p2 : Int32) (r : Unit) (S' : ST) (hm : gfX6_flowFrom_54 x S p1 p2 = some (r, S')) : Agr wX6_flowFrom_54 S S' := fbX6_flowFrom_54_0 x S p1 p2 r S' hm
def wJ7_fill_d0a16_79 : List (Nat × Nat) × List Nat × List Nat × List Nat := ([], [], [79], [])
set_option maxHeartbeats 4000000 in
set_option maxRecDepth 20000 in
theorem fbJ7_fill_d0a16_79_6 (x : XT) (k6 : ST → Int64 → Int32 → Int32 → Option (Unit × ST)) (ak6 : ∀ (S : ST) (v1 : Int64) (v3 : Int32) (v4 : Int32) (r : Unit) (S' : ST), k6 S v1 v3 v4 = some (r, S') → Agr wJ7_fill_d0a16_79 S S') (S : ST) (v1 : Int64) (v3 : Int32) (v4 : Int32) (r : Unit) (S' : ST) (hm : bfJ7_fill_d0a16_79_6 x k6 S v1 v3 v4 = some (r, S')) : Agr wJ7_fill_d0a16_79 S S' := by
    unfold bfJ7_fill_d0a16_79_6 at hm
    by_cases c1 : v4 ≤ v3
    · rw [if_pos c1] at hm
      cases hm
      exact Agr.rf
    · rw [if_neg c1] at hm
      obtain ⟨o2, hm⟩ := oblk hm
      exact Agr.tr (Agr.j Agr.rf 79 v3.toNatClampNeg v1 (by decide)) (ak6 (S.1, S.2.1, (u2 S.2.2.1 79 v3.toNatClampNeg v1), S.2.2.2) v1 (v3 + 1) v4 _ _ hm)
theorem flJ7_fill_d0a16_79_6 (x : XT)  : ∀ (n : Nat) (S : ST) (v1 : Int64) (v3 : Int32) (v4 : Int32) (r : Unit) (S' : ST), lfJ7_fill_d0a16_79_6 x  n S v1 v3 v4 = some (r, S') → Agr wJ7_fill_d0a16_79 S S'
  | 0, _, _, _, _, _, _, hm => by cases hm
  | n + 1, S, v1, v3, v4, r, S', hm => fbJ7_fill_d0a16_79_6 x (lfJ7_fill_d0a16_79_6 x  n) (flJ7_fill_d0a16_79_6 x  n) S v1 v3 v4 r S' hm
set_option maxHeartbeats 4000000 in
set_option maxRecDepth 20000 in
theorem fbJ7_fill_d0a16_79_0 (x : XT)  (S : ST) (p1 : Int64) (r : Unit) (S' : ST) (hm : bfJ7_fill_d0a16_79_0 x  S p1 = some (r, S')) : Agr wJ7_fill_d0a16_79 S S' := by
    unfold bfJ7_fill_d0a16_79_0 at hm
    exact Agr.tr Agr.rf (flJ7_fill_d0a16_79_6 x  20000 S p1 0 120 _ _ hm)
theorem frJ7_fill_d0a16_79 (x : XT) (S : ST) (p1 : Int64) (r : Unit) (S' : ST) (hm : gfJ7_fill_d0a16_79 x S p1 = some (r, S')) : Agr wJ7_fill_d0a16_79 S S' := fbJ7_fill_d0a16_79_0 x S p1 r S' hm
end FRA
