section FRA
def wX11_laysParts_130 : List (Nat × Nat) × List Nat × List Nat × List Nat := ([(130, 22), (130, 23), (130, 24), (130, 25)], [142, 145, 146], [150], [])
set_option maxHeartbeats 4000000 in
set_option maxRecDepth 20000 in
theorem fbX11_laysParts_130_36 (x : XT) (k8 : ST → Int32 → Int64 → Int32 → Option (Unit × ST)) (ak8 : ∀ (S : ST) (v1 : Int32) (v2 : Int64) (v4 : Int32) (r : Unit) (S' : ST), k8 S v1 v2 v4 = some (r, S') → Agr wX11_laysParts_130 S S') (S : ST) (v1 : Int32) (v2 : Int64) (v4 : Int32) (t1 : Int32) (t2 : Int64) (r : Unit) (S' : ST) (hm : bfX11_laysParts_130_36 x k8 S v1 v2 v4 t1 t2 = some (r, S')) : Agr wX11_laysParts_130 S S' := by
    unfold bfX11_laysParts_130_36 at hm
    obtain ⟨o1, hm⟩ := oblk hm
    exact Agr.tr (Agr.j Agr.rf 150 t1.toNatClampNeg t2 (by decide)) (ak8 (S.1, S.2.1, (u2 S.2.2.1 150 t1.toNatClampNeg t2), S.2.2.2) v1 v2 (v4 + 1) _ _ hm)
set_option maxHeartbeats 4000000 in
set_option maxRecDepth 20000 in
theorem fbX11_laysParts_130_8 (x : XT) (k8 : ST → Int32 → Int64 → Int32 → Option (Unit × ST)) (ak8 : ∀ (S : ST) (v1 : Int32) (v2 : Int64) (v4 : Int32) (r : Unit) (S' : ST), k8 S v1 v2 v4 = some (r, S') → Agr wX11_laysParts_130 S S') (S : ST) (v1 : Int32) (v2 : Int64) (v4 : Int32) (r : Unit) (S' : ST) (hm : bfX11_laysParts_130_8 x k8 S v1 v2 v4 = some (r, S')) : Agr wX11_laysParts_130 S S' := by
    unfold bfX11_laysParts_130_8 at hm
    by_cases c1 : 120 ≤ v4
    · rw [if_pos c1] at hm
      cases hm
      exact Agr.rf
    · rw [if_neg c1] at hm
      cases h2 : gfX11_placeOf_130 x S v1 with
      | none => rw [h2] at hm; cases hm
      | some q3 =>
        obtain ⟨r4, S5⟩ := q3
        rw [h2] at hm
        dsimp only at hm
        have a_S5 : Agr wX11_laysParts_130 S S5 := Agr.tr Agr.rf (Agr.sub (frX11_placeOf_130 x S v1 _ _ h2) (by decide))
        by_cases c6 : ¬ v4 = r4
        · rw [if_pos c6] at hm
          exact Agr.tr a_S5 (fbX11_laysParts_130_36 x k8 ak8 S5 v1 v2 v4 v4 0 _ _ hm)
        · rw [if_neg c6] at hm
          exact Agr.tr a_S5 (fbX11_laysParts_130_36 x k8 ak8 S5 v1 v2 v4 v4 v2 _ _ hm)
theorem flX11_laysParts_130_8 (x : XT)  : ∀ (n : Nat) (S : ST) (v1 : Int32) (v2 : Int64) (v4 : Int32) (r : Unit) (S' : ST), lfX11_laysParts_130_8 x  n S v1 v2 v4 = some (r, S') → Agr wX11_laysParts_130 S S'
  | 0, _, _, _, _, _, _, hm => by cases hm
  | n + 1, S, v1, v2, v4, r, S', hm => fbX11_laysParts_130_8 x (lfX11_laysParts_130_8 x  n) (flX11_laysParts_130_8 x  n) S v1 v2 v4 r S' hm
set_option maxHeartbeats 4000000 in
set_option maxRecDepth 20000 in
theorem fbX11_laysParts_130_0 (x : XT)  (S : ST) (p1 : Int32) (p2 : Int64) (r : Unit) (S' : ST) (hm : bfX11_laysParts_130_0 x  S p1 p2 = some (r, S')) : Agr wX11_laysParts_130 S S' := by
    unfold bfX11_laysParts_130_0 at hm
    cases h1 : gfX11_laysOut_130 x S p1 with
    | none => rw [h1] at hm; cases hm
    | some q2 =>
      obtain ⟨r3, S4⟩ := q2
      rw [h1] at hm
      dsimp only at hm
      have a_S4 : Agr wX11_laysParts_130 S S4 := Agr.tr Agr.rf (Agr.sub (frX11_laysOut_130 x S p1 _ _ h1) (by decide))
      exact Agr.tr a_S4 (flX11_laysParts_130_8 x  20000 S4 p1 p2 0 _ _ hm)
theorem frX11_laysParts_130 (x : XT) (S : ST) (p1 : Int32) (p2 : Int64) (r : Unit) (S' : ST) (hm : gfX11_laysParts_130 x S p1 p2 = some (r, S')) : Agr wX11_laysParts_130 S S' := fbX11_laysParts_130_0 x S p1 p2 r S' hm
def wX11_gatesFrom_130 : List (Nat × Nat) × List Nat × List Nat × List Nat := ([], [], [], [])
set_option maxHeartbeats 4000000 in
set_option maxRecDepth 20000 in
theorem fbX11_gatesFrom_130_28 (x : XT) (k4 : ST → Int32 → Int32 → Int32 → Option (Int32 × ST)) (ak4 : ∀ (S : ST) (v1 : Int32) (v2 : Int32) (v3 : Int32) (r : Int32) (S' : ST), k4 S v1 v2 v3 = some (r, S') → Agr wX11_gatesFrom_130 S S') (S : ST) (v1 : Int32) (v3 : Int32) (t0 : Int32) (t1 : Int32) (r : Int32) (S' : ST) (hm : bfX11_gatesFrom_130_28 x k4 S v1 v3 t0 t1 = some (r, S')) : Agr wX11_gatesFrom_130 S S' := by
    unfold bfX11_gatesFrom_130_28 at hm
    exact Agr.tr Agr.rf (ak4 S v1 (t0 + t1) (v3 + 1) _ _ hm)
set_option maxHeartbeats 4000000 in
set_option maxRecDepth 20000 in
theorem fbX11_gatesFrom_130_4 (x : XT) (k4 : ST → Int32 → Int32 → Int32 → Option (Int32 × ST)) (ak4 : ∀ (S : ST) (v1 : Int32) (v2 : Int32) (v3 : Int32) (r : Int32) (S' : ST), k4 S v1 v2 v3 = some (r, S') → Agr wX11_gatesFrom_130 S S') (S : ST) (v1 : Int32) (v2 : Int32) (v3 : Int32) (r : Int32) (S' : ST) (hm : bfX11_gatesFrom_130_4 x k4 S v1 v2 v3 = some (r, S')) : Agr wX11_gatesFrom_130 S S' := by
    unfold bfX11_gatesFrom_130_4 at hm
    cases h1 : gfX11_gateMany_130 x S with
    | none => rw [h1] at hm; cases hm
    | some q2 =>
      obtain ⟨r3, S4⟩ := q2
      rw [h1] at hm
      dsimp only at hm
      have a_S4 : Agr wX11_gatesFrom_130 S S4 := Agr.tr Agr.rf (Agr.sub (frX11_gateMany_130 x S _ _ h1) (by decide))
      by_cases c5 : r3 ≤ v3
      · rw [if_pos c5] at hm
        cases hm
        exact a_S4
      · rw [if_neg c5] at hm
        cases h6 : gfX11_nextPlace_130 x S4 v1 v3 with
        | none => rw [h6] at hm; cases hm
        | some q7 =>
          obtain ⟨r8, S9⟩ := q7
          rw [h6] at hm
          dsimp only at hm
          have a_S9 : Agr wX11_gatesFrom_130 S S9 := Agr.tr a_S4 (Agr.sub (frX11_nextPlace_130 x S4 v1 v3 _ _ h6) (by decide))
          by_cases c10 : ¬ r8 = (-1)
          · rw [if_pos c10] at hm
            exact Agr.tr a_S9 (fbX11_gatesFrom_130_28 x k4 ak4 S9 v1 v3 v2 1 _ _ hm)
          · rw [if_neg c10] at hm
            exact Agr.tr a_S9 (fbX11_gatesFrom_130_28 x k4 ak4 S9 v1 v3 v2 0 _ _ hm)
theorem flX11_gatesFrom_130_4 (x : XT)  : ∀ (n : Nat) (S : ST) (v1 : Int32) (v2 : Int32) (v3 : Int32) (r : Int32) (S' : ST), lfX11_gatesFrom_130_4 x  n S v1 v2 v3 = some (r, S') → Agr wX11_gatesFrom_130 S S'
  | 0, _, _, _, _, _, _, hm => by cases hm
  | n + 1, S, v1, v2, v3, r, S', hm => fbX11_gatesFrom_130_4 x (lfX11_gatesFrom_130_4 x  n) (flX11_gatesFrom_130_4 x  n) S v1 v2 v3 r S' hm
set_option maxHeartbeats 4000000 in
set_option maxRecDepth 20000 in
theorem fbX11_gatesFrom_130_0 (x : XT)  (S : ST) (p1 : Int32) (r : Int32) (S' : ST) (hm : bfX11_gatesFrom_130_0 x  S p1 = some (r, S')) : Agr wX11_gatesFrom_130 S S' := by
    unfold bfX11_gatesFrom_130_0 at hm
    exact Agr.tr Agr.rf (flX11_gatesFrom_130_4 x  20000 S p1 0 0 _ _ hm)
theorem frX11_gatesFrom_130 (x : XT) (S : ST) (p1 : Int32) (r : Int32) (S' : ST) (hm : gfX11_gatesFrom_130 x S p1 = some (r, S')) : Agr wX11_gatesFrom_130 S S' := fbX11_gatesFrom_130_0 x S p1 r S' hm
def wX11_steps_130 : List (Nat × Nat) × List Nat × List Nat × List Nat := ([], [], [150, 151], [])
set_option maxHeartbeats 4000000 in
set_option maxRecDepth 20000 in
theorem fbX11_steps_130_149 (x : XT) (k149 : ST → Int32 → Option (Unit × ST)) (ak149 : ∀ (S : ST) (v2 : Int32) (r : Unit) (S' : ST), k149 S v2 = some (r, S') → Agr wX11_steps_130 S S') (S : ST) (v2 : Int32) (r : Unit) (S' : ST) (hm : bfX11_steps_130_149 x k149 S v2 = some (r, S')) : Agr wX11_steps_130 S S' := by
    unfold bfX11_steps_130_149 at hm
    by_cases c1 : 120 ≤ v2
    · rw [if_pos c1] at hm
      cases hm
      exact Agr.rf
    · rw [if_neg c1] at hm
      obtain ⟨o2, hm⟩ := oblk hm
      obtain ⟨o3, hm⟩ := oblk hm
      exact Agr.tr (Agr.j Agr.rf 150 v2.toNatClampNeg (S.2.2.1 151 v2.toNatClampNeg) (by decide)) (ak149 (S.1, S.2.1, (u2 S.2.2.1 150 v2.toNatClampNeg (S.2.2.1 151 v2.toNatClampNeg)), S.2.2.2) (v2 + 1) _ _ hm)
theorem flX11_steps_130_149 (x : XT)  : ∀ (n : Nat) (S : ST) (v2 : Int32) (r : Unit) (S' : ST), lfX11_steps_130_149 x  n S v2 = some (r, S') → Agr wX11_steps_130 S S'
  | 0, _, _, _, _, hm => by cases hm
  | n + 1, S, v2, r, S', hm => fbX11_steps_130_149 x (lfX11_steps_130_149 x  n) (flX11_steps_130_149 x  n) S v2 r S' hm
set_option maxHeartbeats 4000000 in
set_option maxRecDepth 20000 in
theorem fbX11_steps_130_141 (x : XT) (k23 : ST → Int32 → Int32 → Option (Unit × ST)) (ak23 : ∀ (S : ST) (v1 : Int32) (v2 : Int32) (r : Unit) (S' : ST), k23 S v1 v2 = some (r, S') → Agr wX11_steps_130 S S') (S : ST) (v1 : Int32) (v2 : Int32) (r : Unit) (S' : ST) (hm : bfX11_steps_130_141 x k23 S v1 v2 = some (r, S')) : Agr wX11_steps_130 S S' := by
    unfold bfX11_steps_130_141 at hm
    exact Agr.tr Agr.rf (ak23 S v1 (v2 + 1) _ _ hm)
set_option maxHeartbeats 4000000 in
set_option maxRecDepth 20000 in
theorem fbX11_steps_130_135 (x : XT) (k23 : ST → Int32 → Int32 → Option (Unit × ST)) (ak23 : ∀ (S : ST) (v1 : Int32) (v2 : Int32) (r : Unit) (S' : ST), k23 S v1 v2 = some (r, S') → Agr wX11_steps_130 S S') (k76 : ST → Int32 → Int32 → Int32 → Int32 → Option (Unit × ST)) (ak76 : ∀ (S : ST) (v1 : Int32) (v2 : Int32) (v3 : Int32) (v4 : Int32) (r : Unit) (S' : ST), k76 S v1 v2 v3 v4 = some (r, S') → Agr wX11_steps_130 S S') (S : ST) (v1 : Int32) (v2 : Int32) (v3 : Int32) (v4 : Int32) (r : Unit) (S' : ST) (hm : bfX11_steps_130_135 x k23 k76 S v1 v2 v3 v4 = some (r, S')) : Agr wX11_steps_130 S S' := by
    unfold bfX11_steps_130_135 at hm
    exact Agr.tr Agr.rf (ak76 S v1 v2 v3 (v4 + 1) _ _ hm)
set_option maxHeartbeats 4000000 in
set_option maxRecDepth 20000 in
theorem fbX11_steps_130_76 (x : XT) (k23 : ST → Int32 → Int32 → Option (Unit × ST)) (ak23 : ∀ (S : ST) (v1 : Int32) (v2 : Int32) (r : Unit) (S' : ST), k23 S v1 v2 = some (r, S') → Agr wX11_steps_130 S S') (k76 : ST → Int32 → Int32 → Int32 → Int32 → Option (Unit × ST)) (ak76 : ∀ (S : ST) (v1 : Int32) (v2 : Int32) (v3 : Int32) (v4 : Int32) (r : Unit) (S' : ST), k76 S v1 v2 v3 v4 = some (r, S') → Agr wX11_steps_130 S S') (S : ST) (v1 : Int32) (v2 : Int32) (v3 : Int32) (v4 : Int32) (r : Unit) (S' : ST) (hm : bfX11_steps_130_76 x k23 k76 S v1 v2 v3 v4 = some (r, S')) : Agr wX11_steps_130 S S' := by
    unfold bfX11_steps_130_76 at hm
    cases h1 : gfX11_gateMany_130 x S with
    | none => rw [h1] at hm; cases hm
    | some q2 =>
      obtain ⟨r3, S4⟩ := q2
      rw [h1] at hm
      dsimp only at hm
      have a_S4 : Agr wX11_steps_130 S S4 := Agr.tr Agr.rf (Agr.sub (frX11_gateMany_130 x S _ _ h1) (by decide))
      by_cases c5 : r3 ≤ v4
      · rw [if_pos c5] at hm
        exact Agr.tr a_S4 (fbX11_steps_130_141 x k23 ak23 S4 v1 v2 _ _ hm)
      · rw [if_neg c5] at hm
        by_cases c6 : v3 ≤ 0
        · rw [if_pos c6] at hm
          exact Agr.tr a_S4 (fbX11_steps_130_141 x k23 ak23 S4 v1 v2 _ _ hm)
        · rw [if_neg c6] at hm
          obtain ⟨o7, hm⟩ := oblk hm
          by_cases c8 : (lg_cmp (S4.2.2.1 150 v2.toNatClampNeg) 0) ≤ 0
          · rw [if_pos c8] at hm
            exact Agr.tr a_S4 (fbX11_steps_130_141 x k23 ak23 S4 v1 v2 _ _ hm)
          · rw [if_neg c8] at hm
            cases h9 : gfX11_nextPlace_130 x S4 v2 v4 with
            | none => rw [h9] at hm; cases hm
            | some q10 =>
              obtain ⟨r11, S12⟩ := q10
              rw [h9] at hm
              dsimp only at hm
              have a_S12 : Agr wX11_steps_130 S S12 := Agr.tr a_S4 (Agr.sub (frX11_nextPlace_130 x S4 v2 v4 _ _ h9) (by decide))
              by_cases c13 : r11 = (-1)
              · rw [if_pos c13] at hm
                exact Agr.tr a_S12 (fbX11_steps_130_135 x k23 ak23 k76 ak76 S12 v1 v2 v3 v4 _ _ hm)
              · rw [if_neg c13] at hm
                cases h14 : gfX11_nextPlace_130 x S12 v2 v4 with
                | none => rw [h14] at hm; cases hm
                | some q15 =>
                  obtain ⟨r16, S17⟩ := q15
                  rw [h14] at hm
                  dsimp only at hm
                  have a_S17 : Agr wX11_steps_130 S S17 := Agr.tr a_S12 (Agr.sub (frX11_nextPlace_130 x S12 v2 v4 _ _ h14) (by decide))
                  obtain ⟨o18, hm⟩ := oblk hm
                  obtain ⟨o19, hm⟩ := oblk hm
                  obtain ⟨o20, hm⟩ := oblk hm
                  obtain ⟨o21, hm⟩ := oblk hm
                  exact Agr.tr (Agr.j a_S17 151 r16.toNatClampNeg ((S17.2.2.1 151 r16.toNatClampNeg) + ((S17.2.2.1 150 v2.toNatClampNeg) / v3.toInt64)) (by decide)) (fbX11_steps_130_135 x k23 ak23 k76 ak76 (S17.1, S17.2.1, (u2 S17.2.2.1 151 r16.toNatClampNeg ((S17.2.2.1 151 r16.toNatClampNeg) + ((S17.2.2.1 150 v2.toNatClampNeg) / v3.toInt64))), S17.2.2.2) v1 v2 v3 v4 _ _ hm)
theorem flX11_steps_130_76 (x : XT) (k23 : ST → Int32 → Int32 → Option (Unit × ST)) (ak23 : ∀ (S : ST) (v1 : Int32) (v2 : Int32) (r : Unit) (S' : ST), k23 S v1 v2 = some (r, S') → Agr wX11_steps_130 S S') : ∀ (n : Nat) (S : ST) (v1 : Int32) (v2 : Int32) (v3 : Int32) (v4 : Int32) (r : Unit) (S' : ST), lfX11_steps_130_76 x k23 n S v1 v2 v3 v4 = some (r, S') → Agr wX11_steps_130 S S'
  | 0, _, _, _, _, _, _, _, hm => by cases hm
  | n + 1, S, v1, v2, v3, v4, r, S', hm => fbX11_steps_130_76 x k23 ak23 (lfX11_steps_130_76 x k23 n) (flX11_steps_130_76 x k23 ak23 n) S v1 v2 v3 v4 r S' hm
set_option maxHeartbeats 4000000 in
set_option maxRecDepth 20000 in
theorem fbX11_steps_130_73 (x : XT) (k23 : ST → Int32 → Int32 → Option (Unit × ST)) (ak23 : ∀ (S : ST) (v1 : Int32) (v2 : Int32) (r : Unit) (S' : ST), k23 S v1 v2 = some (r, S') → Agr wX11_steps_130 S S') (S : ST) (v1 : Int32) (v2 : Int32) (v3 : Int32) (r : Unit) (S' : ST) (hm : bfX11_steps_130_73 x k23 S v1 v2 v3 = some (r, S')) : Agr wX11_steps_130 S S' := by
    unfold bfX11_steps_130_73 at hm
    exact Agr.tr Agr.rf (flX11_steps_130_76 x k23 ak23 20000 S v1 v2 v3 0 _ _ hm)
set_option maxHeartbeats 4000000 in
set_option maxRecDepth 20000 in
theorem fbX11_steps_130_53 (x : XT) (k23 : ST → Int32 → Int32 → Option (Unit × ST)) (ak23 : ∀ (S : ST) (v1 : Int32) (v2 : Int32) (r : Unit) (S' : ST), k23 S v1 v2 = some (r, S') → Agr wX11_steps_130 S S') (S : ST) (v1 : Int32) (v2 : Int32) (t0 : Int32) (r : Unit) (S' : ST) (hm : bfX11_steps_130_53 x k23 S v1 v2 t0 = some (r, S')) : Agr wX11_steps_130 S S' := by
    unfold bfX11_steps_130_53 at hm
    by_cases c1 : ¬ t0 = 0
    · rw [if_pos c1] at hm
      exact Agr.tr Agr.rf (fbX11_steps_130_73 x k23 ak23 S v1 v2 t0 _ _ hm)
    · rw [if_neg c1] at hm
      obtain ⟨o2, hm⟩ := oblk hm
      obtain ⟨o3, hm⟩ := oblk hm
      obtain ⟨o4, hm⟩ := oblk hm
      exact Agr.tr (Agr.j Agr.rf 151 v2.toNatClampNeg ((S.2.2.1 151 v2.toNatClampNeg) + (S.2.2.1 150 v2.toNatClampNeg)) (by decide)) (fbX11_steps_130_73 x k23 ak23 (S.1, S.2.1, (u2 S.2.2.1 151 v2.toNatClampNeg ((S.2.2.1 151 v2.toNatClampNeg) + (S.2.2.1 150 v2.toNatClampNeg))), S.2.2.2) v1 v2 t0 _ _ hm)
set_option maxHeartbeats 4000000 in
set_option maxRecDepth 20000 in
theorem fbX11_steps_130_52 (x : XT) (k23 : ST → Int32 → Int32 → Option (Unit × ST)) (ak23 : ∀ (S : ST) (v1 : Int32) (v2 : Int32) (r : Unit) (S' : ST), k23 S v1 v2 = some (r, S') → Agr wX11_steps_130 S S') (S : ST) (v1 : Int32) (v2 : Int32) (r : Unit) (S' : ST) (hm : bfX11_steps_130_52 x k23 S v1 v2 = some (r, S')) : Agr wX11_steps_130 S S' := by
    unfold bfX11_steps_130_52 at hm
    exact Agr.tr Agr.rf (fbX11_steps_130_53 x k23 ak23 S v1 v2 1 _ _ hm)
set_option maxHeartbeats 4000000 in
set_option maxRecDepth 20000 in
theorem fbX11_steps_130_23 (x : XT) (k23 : ST → Int32 → Int32 → Option (Unit × ST)) (ak23 : ∀ (S : ST) (v1 : Int32) (v2 : Int32) (r : Unit) (S' : ST), k23 S v1 v2 = some (r, S') → Agr wX11_steps_130 S S') (S : ST) (v1 : Int32) (v2 : Int32) (r : Unit) (S' : ST) (hm : bfX11_steps_130_23 x k23 S v1 v2 = some (r, S')) : Agr wX11_steps_130 S S' := by
    unfold bfX11_steps_130_23 at hm
    by_cases c1 : 120 ≤ v2
    · rw [if_pos c1] at hm
      exact Agr.tr Agr.rf (flX11_steps_130_149 x  20000 S 0 _ _ hm)
    · rw [if_neg c1] at hm
      by_cases c2 : v1 = 0
      · rw [if_pos c2] at hm
        exact Agr.tr Agr.rf (fbX11_steps_130_52 x k23 ak23 S v1 v2 _ _ hm)
      · rw [if_neg c2] at hm
        obtain ⟨o3, hm⟩ := oblk hm
        by_cases c4 : (lg_cmp (S.2.2.1 150 v2.toNatClampNeg) 0) ≤ 0
        · rw [if_pos c4] at hm
          exact Agr.tr Agr.rf (fbX11_steps_130_52 x k23 ak23 S v1 v2 _ _ hm)
        · rw [if_neg c4] at hm
          cases h5 : gfX11_gatesFrom_130 x S v2 with
          | none => rw [h5] at hm; cases hm
          | some q6 =>
            obtain ⟨r7, S8⟩ := q6
            rw [h5] at hm
            dsimp only at hm
            have a_S8 : Agr wX11_steps_130 S S8 := Agr.tr Agr.rf (Agr.sub (frX11_gatesFrom_130 x S v2 _ _ h5) (by decide))
            exact Agr.tr a_S8 (fbX11_steps_130_53 x k23 ak23 S8 v1 v2 r7 _ _ hm)
theorem flX11_steps_130_23 (x : XT)  : ∀ (n : Nat) (S : ST) (v1 : Int32) (v2 : Int32) (r : Unit) (S' : ST), lfX11_steps_130_23 x  n S v1 v2 = some (r, S') → Agr wX11_steps_130 S S'
  | 0, _, _, _, _, _, hm => by cases hm
  | n + 1, S, v1, v2, r, S', hm => fbX11_steps_130_23 x (lfX11_steps_130_23 x  n) (flX11_steps_130_23 x  n) S v1 v2 r S' hm
set_option maxHeartbeats 4000000 in
set_option maxRecDepth 20000 in
theorem fbX11_steps_130_2 (x : XT) (k2 : ST → Int32 → Int32 → Option (Unit × ST)) (ak2 : ∀ (S : ST) (v1 : Int32) (v2 : Int32) (r : Unit) (S' : ST), k2 S v1 v2 = some (r, S') → Agr wX11_steps_130 S S') (S : ST) (v1 : Int32) (v2 : Int32) (r : Unit) (S' : ST) (hm : bfX11_steps_130_2 x k2 S v1 v2 = some (r, S')) : Agr wX11_steps_130 S S' := by
    unfold bfX11_steps_130_2 at hm
    by_cases c1 : 120 ≤ v2
    · rw [if_pos c1] at hm
      exact Agr.tr Agr.rf (flX11_steps_130_23 x  20000 S v1 0 _ _ hm)
    · rw [if_neg c1] at hm
      obtain ⟨o2, hm⟩ := oblk hm
      exact Agr.tr (Agr.j Agr.rf 151 v2.toNatClampNeg 0 (by decide)) (ak2 (S.1, S.2.1, (u2 S.2.2.1 151 v2.toNatClampNeg 0), S.2.2.2) v1 (v2 + 1) _ _ hm)
theorem flX11_steps_130_2 (x : XT)  : ∀ (n : Nat) (S : ST) (v1 : Int32) (v2 : Int32) (r : Unit) (S' : ST), lfX11_steps_130_2 x  n S v1 v2 = some (r, S') → Agr wX11_steps_130 S S'
  | 0, _, _, _, _, _, hm => by cases hm
  | n + 1, S, v1, v2, r, S', hm => fbX11_steps_130_2 x (lfX11_steps_130_2 x  n) (flX11_steps_130_2 x  n) S v1 v2 r S' hm
set_option maxHeartbeats 4000000 in
set_option maxRecDepth 20000 in
theorem fbX11_steps_130_0 (x : XT)  (S : ST) (p1 : Int32) (r : Unit) (S' : ST) (hm : bfX11_steps_130_0 x  S p1 = some (r, S')) : Agr wX11_steps_130 S S' := by
    unfold bfX11_steps_130_0 at hm
    exact Agr.tr Agr.rf (flX11_steps_130_2 x  20000 S p1 0 _ _ hm)
theorem frX11_steps_130 (x : XT) (S : ST) (p1 : Int32) (r : Unit) (S' : ST) (hm : gfX11_steps_130 x S p1 = some (r, S')) : Agr wX11_steps_130 S S' := fbX11_steps_130_0 x S p1 r S' hm
def wX11_partsAt_130 : List (Nat × Nat) × List Nat × List Nat × List Nat := ([], [], [], [])
set_option maxHeartbeats 4000000 in
set_option maxRecDepth 20000 in
theorem fbX11_partsAt_130_34 (x : XT) (k5 : ST → Int32 → Int32 → Int64 → Int32 → Option (Int64 × ST)) (ak5 : ∀ (S : ST) (v1 : Int32) (v2 : Int32) (v3 : Int64) (v5 : Int32) (r : Int64) (S' : ST), k5 S v1 v2 v3 v5 = some (r, S') → Agr wX11_partsAt_130 S S') (S : ST) (v1 : Int32) (v2 : Int32) (v5 : Int32) (t0 : Int64) (t1 : Int64) (r : Int64) (S' : ST) (hm : bfX11_partsAt_130_34 x k5 S v1 v2 v5 t0 t1 = some (r, S')) : Agr wX11_partsAt_130 S S' := by
    unfold bfX11_partsAt_130_34 at hm
    exact Agr.tr Agr.rf (ak5 S v1 v2 (t0 + t1) (v5 + 1) _ _ hm)
set_option maxHeartbeats 4000000 in
set_option maxRecDepth 20000 in
theorem fbX11_partsAt_130_5 (x : XT) (k5 : ST → Int32 → Int32 → Int64 → Int32 → Option (Int64 × ST)) (ak5 : ∀ (S : ST) (v1 : Int32) (v2 : Int32) (v3 : Int64) (v5 : Int32) (r : Int64) (S' : ST), k5 S v1 v2 v3 v5 = some (r, S') → Agr wX11_partsAt_130 S S') (S : ST) (v1 : Int32) (v2 : Int32) (v3 : Int64) (v5 : Int32) (r : Int64) (S' : ST) (hm : bfX11_partsAt_130_5 x k5 S v1 v2 v3 v5 = some (r, S')) : Agr wX11_partsAt_130 S S' := by
    unfold bfX11_partsAt_130_5 at hm
    by_cases c1 : 120 ≤ v5
    · rw [if_pos c1] at hm
      cases hm
      exact Agr.rf
    · rw [if_neg c1] at hm
      cases h2 : gfX11_isGoal x S v5 v1 v2 with
      | none => rw [h2] at hm; cases hm
      | some q3 =>
        obtain ⟨r4, S5⟩ := q3
        rw [h2] at hm
        dsimp only at hm
        have a_S5 : Agr wX11_partsAt_130 S S5 := Agr.tr Agr.rf (Agr.sub (frX11_isGoal x S v5 v1 v2 _ _ h2) (by decide))
        by_cases c6 : r4 = 0
        · rw [if_pos c6] at hm
          exact Agr.tr a_S5 (fbX11_partsAt_130_34 x k5 ak5 S5 v1 v2 v5 v3 0 _ _ hm)
        · rw [if_neg c6] at hm
          obtain ⟨o7, hm⟩ := oblk hm
          exact Agr.tr a_S5 (fbX11_partsAt_130_34 x k5 ak5 S5 v1 v2 v5 v3 (S5.2.2.1 150 v5.toNatClampNeg) _ _ hm)
theorem flX11_partsAt_130_5 (x : XT)  : ∀ (n : Nat) (S : ST) (v1 : Int32) (v2 : Int32) (v3 : Int64) (v5 : Int32) (r : Int64) (S' : ST), lfX11_partsAt_130_5 x  n S v1 v2 v3 v5 = some (r, S') → Agr wX11_partsAt_130 S S'
  | 0, _, _, _, _, _, _, _, hm => by cases hm
  | n + 1, S, v1, v2, v3, v5, r, S', hm => fbX11_partsAt_130_5 x (lfX11_partsAt_130_5 x  n) (flX11_partsAt_130_5 x  n) S v1 v2 v3 v5 r S' hm
set_option maxHeartbeats 4000000 in
set_option maxRecDepth 20000 in
theorem fbX11_partsAt_130_0 (x : XT)  (S : ST) (p1 : Int32) (p2 : Int32) (r : Int64) (S' : ST) (hm : bfX11_partsAt_130_0 x  S p1 p2 = some (r, S')) : Agr wX11_partsAt_130 S S' := by
    unfold bfX11_partsAt_130_0 at hm
    exact Agr.tr Agr.rf (flX11_partsAt_130_5 x  20000 S p1 p2 0 0 _ _ hm)
theorem frX11_partsAt_130 (x : XT) (S : ST) (p1 : Int32) (p2 : Int32) (r : Int64) (S' : ST) (hm : gfX11_partsAt_130 x S p1 p2 = some (r, S')) : Agr wX11_partsAt_130 S S' := fbX11_partsAt_130_0 x S p1 p2 r S' hm
def wX11_ways_130 : List (Nat × Nat) × List Nat × List Nat × List Nat := ([(130, 22), (130, 23), (130, 24), (130, 25)], [142, 145, 146], [150, 151], [])
set_option maxHeartbeats 4000000 in
set_option maxRecDepth 20000 in
theorem fbX11_ways_130_27 (x : XT)  (S : ST)  (r : Int64) (S' : ST) (hm : bfX11_ways_130_27 x  S  = some (r, S')) : Agr wX11_ways_130 S S' := by
    unfold bfX11_ways_130_27 at hm
    cases hm
    exact Agr.rf
set_option maxHeartbeats 4000000 in
set_option maxRecDepth 20000 in
theorem fbX11_ways_130_40 (x : XT) (k40 : ST → Int32 → Int32 → Int32 → Int32 → Option (Int64 × ST)) (ak40 : ∀ (S : ST) (v2 : Int32) (v3 : Int32) (v4 : Int32) (v5 : Int32) (r : Int64) (S' : ST), k40 S v2 v3 v4 v5 = some (r, S') → Agr wX11_ways_130 S S') (S : ST) (v2 : Int32) (v3 : Int32) (v4 : Int32) (v5 : Int32) (r : Int64) (S' : ST) (hm : bfX11_ways_130_40 x k40 S v2 v3 v4 v5 = some (r, S')) : Agr wX11_ways_130 S S' := by
    unfold bfX11_ways_130_40 at hm
    by_cases c1 : v4 ≤ v5
    · rw [if_pos c1] at hm
      cases h2 : gfX11_partsAt_130 x S v2 v3 with
      | none => rw [h2] at hm; cases hm
      | some q3 =>
        obtain ⟨r4, S5⟩ := q3
        rw [h2] at hm
        dsimp only at hm
        have a_S5 : Agr wX11_ways_130 S S5 := Agr.tr Agr.rf (Agr.sub (frX11_partsAt_130 x S v2 v3 _ _ h2) (by decide))
        cases hm
        exact a_S5
    · rw [if_neg c1] at hm
      cases h6 : gfX11_steps_130 x S 0 with
      | none => rw [h6] at hm; cases hm
      | some q7 =>
        obtain ⟨r8, S9⟩ := q7
        rw [h6] at hm
        dsimp only at hm
        have a_S9 : Agr wX11_ways_130 S S9 := Agr.tr Agr.rf (Agr.sub (frX11_steps_130 x S 0 _ _ h6) (by decide))
        exact Agr.tr a_S9 (ak40 S9 v2 v3 v4 (v5 + 1) _ _ hm)
theorem flX11_ways_130_40 (x : XT)  : ∀ (n : Nat) (S : ST) (v2 : Int32) (v3 : Int32) (v4 : Int32) (v5 : Int32) (r : Int64) (S' : ST), lfX11_ways_130_40 x  n S v2 v3 v4 v5 = some (r, S') → Agr wX11_ways_130 S S'
  | 0, _, _, _, _, _, _, _, hm => by cases hm
  | n + 1, S, v2, v3, v4, v5, r, S', hm => fbX11_ways_130_40 x (lfX11_ways_130_40 x  n) (flX11_ways_130_40 x  n) S v2 v3 v4 v5 r S' hm
set_option maxHeartbeats 4000000 in
set_option maxRecDepth 20000 in
theorem fbX11_ways_130_0 (x : XT)  (S : ST) (p1 : Int32) (p2 : Int32) (p3 : Int32) (p4 : Int32) (r : Int64) (S' : ST) (hm : bfX11_ways_130_0 x  S p1 p2 p3 p4 = some (r, S')) : Agr wX11_ways_130 S S' := by
    unfold bfX11_ways_130_0 at hm
    cases h1 : gfX11_isGoer_130 x S p1 with
    | none => rw [h1] at hm; cases hm
    | some q2 =>
      obtain ⟨r3, S4⟩ := q2
      rw [h1] at hm
      dsimp only at hm
      have a_S4 : Agr wX11_ways_130 S S4 := Agr.tr Agr.rf (Agr.sub (frX11_isGoer_130 x S p1 _ _ h1) (by decide))
      by_cases c5 : r3 = 0
      · rw [if_pos c5] at hm
        exact Agr.tr a_S4 (fbX11_ways_130_27 x  S4 _ _ hm)
      · rw [if_neg c5] at hm
        cases h6 : gfX11_canBeGoal x S4 p2 p3 with
        | none => rw [h6] at hm; cases hm
        | some q7 =>
          obtain ⟨r8, S9⟩ := q7
          rw [h6] at hm
          dsimp only at hm
          have a_S9 : Agr wX11_ways_130 S S9 := Agr.tr a_S4 (Agr.sub (frX11_canBeGoal x S4 p2 p3 _ _ h6) (by decide))
          by_cases c10 : r8 = 0
          · rw [if_pos c10] at hm
            exact Agr.tr a_S9 (fbX11_ways_130_27 x  S9 _ _ hm)
          · rw [if_neg c10] at hm
            cases h11 : gfX11_lies x S9 p4 0 12 with
            | none => rw [h11] at hm; cases hm
            | some q12 =>
              obtain ⟨r13, S14⟩ := q12
              rw [h11] at hm
              dsimp only at hm
              have a_S14 : Agr wX11_ways_130 S S14 := Agr.tr a_S9 (Agr.sub (frX11_lies x S9 p4 0 12 _ _ h11) (by decide))
              by_cases c15 : ¬ r13 = 0
              · rw [if_pos c15] at hm
                cases h16 : gfX11_laysParts_130 x S14 p1 1 with
                | none => rw [h16] at hm; cases hm
                | some q17 =>
                  obtain ⟨r18, S19⟩ := q17
                  rw [h16] at hm
                  dsimp only at hm
                  have a_S19 : Agr wX11_ways_130 S S19 := Agr.tr a_S14 (Agr.sub (frX11_laysParts_130 x S14 p1 1 _ _ h16) (by decide))
                  exact Agr.tr a_S19 (flX11_ways_130_40 x  20000 S19 p2 p3 p4 0 _ _ hm)
              · rw [if_neg c15] at hm
                exact Agr.tr a_S14 (fbX11_ways_130_27 x  S14 _ _ hm)
theorem frX11_ways_130 (x : XT) (S : ST) (p1 : Int32) (p2 : Int32) (p3 : Int32) (p4 : Int32) (r : Int64) (S' : ST) (hm : gfX11_ways_130 x S p1 p2 p3 p4 = some (r, S')) : Agr wX11_ways_130 S S' := fbX11_ways_130_0 x S p1 p2 p3 p4 r S' hm
def wX11_likely_130 : List (Nat × Nat) × List Nat × List Nat × List Nat := ([(130, 22), (130, 23), (130, 24), (130, 25)], [142, 145, 146], [150, 151], [])
set_option maxHeartbeats 4000000 in
set_option maxRecDepth 20000 in
theorem fbX11_likely_130_27 (x : XT)  (S : ST)  (r : Int64) (S' : ST) (hm : bfX11_likely_130_27 x  S  = some (r, S')) : Agr wX11_likely_130 S S' := by
    unfold bfX11_likely_130_27 at hm
    cases hm
    exact Agr.rf
set_option maxHeartbeats 4000000 in
set_option maxRecDepth 20000 in
theorem fbX11_likely_130_42 (x : XT) (k42 : ST → Int32 → Int32 → Int32 → Int32 → Option (Int64 × ST)) (ak42 : ∀ (S : ST) (v2 : Int32) (v3 : Int32) (v4 : Int32) (v5 : Int32) (r : Int64) (S' : ST), k42 S v2 v3 v4 v5 = some (r, S') → Agr wX11_likely_130 S S') (S : ST) (v2 : Int32) (v3 : Int32) (v4 : Int32) (v5 : Int32) (r : Int64) (S' : ST) (hm : bfX11_likely_130_42 x k42 S v2 v3 v4 v5 = some (r, S')) : Agr wX11_likely_130 S S' := by
    unfold bfX11_likely_130_42 at hm
    by_cases c1 : v4 ≤ v5
    · rw [if_pos c1] at hm
      cases h2 : gfX11_partsAt_130 x S v2 v3 with
      | none => rw [h2] at hm; cases hm
      | some q3 =>
        obtain ⟨r4, S5⟩ := q3
        rw [h2] at hm
        dsimp only at hm
        have a_S5 : Agr wX11_likely_130 S S5 := Agr.tr Agr.rf (Agr.sub (frX11_partsAt_130 x S v2 v3 _ _ h2) (by decide))
        cases hm
        exact a_S5
    · rw [if_neg c1] at hm
      cases h6 : gfX11_steps_130 x S 1 with
      | none => rw [h6] at hm; cases hm
      | some q7 =>
        obtain ⟨r8, S9⟩ := q7
        rw [h6] at hm
        dsimp only at hm
        have a_S9 : Agr wX11_likely_130 S S9 := Agr.tr Agr.rf (Agr.sub (frX11_steps_130 x S 1 _ _ h6) (by decide))
        exact Agr.tr a_S9 (ak42 S9 v2 v3 v4 (v5 + 1) _ _ hm)
theorem flX11_likely_130_42 (x : XT)  : ∀ (n : Nat) (S : ST) (v2 : Int32) (v3 : Int32) (v4 : Int32) (v5 : Int32) (r : Int64) (S' : ST), lfX11_likely_130_42 x  n S v2 v3 v4 v5 = some (r, S') → Agr wX11_likely_130 S S'
  | 0, _, _, _, _, _, _, _, hm => by cases hm
  | n + 1, S, v2, v3, v4, v5, r, S', hm => fbX11_likely_130_42 x (lfX11_likely_130_42 x  n) (flX11_likely_130_42 x  n) S v2 v3 v4 v5 r S' hm
set_option maxHeartbeats 4000000 in
set_option maxRecDepth 20000 in
theorem fbX11_likely_130_0 (x : XT)  (S : ST) (p1 : Int32) (p2 : Int32) (p3 : Int32) (p4 : Int32) (r : Int64) (S' : ST) (hm : bfX11_likely_130_0 x  S p1 p2 p3 p4 = some (r, S')) : Agr wX11_likely_130 S S' := by
    unfold bfX11_likely_130_0 at hm
    cases h1 : gfX11_isGoer_130 x S p1 with
    | none => rw [h1] at hm; cases hm
    | some q2 =>
      obtain ⟨r3, S4⟩ := q2
      rw [h1] at hm
      dsimp only at hm
      have a_S4 : Agr wX11_likely_130 S S4 := Agr.tr Agr.rf (Agr.sub (frX11_isGoer_130 x S p1 _ _ h1) (by decide))
      by_cases c5 : r3 = 0
      · rw [if_pos c5] at hm
        exact Agr.tr a_S4 (fbX11_likely_130_27 x  S4 _ _ hm)
      · rw [if_neg c5] at hm
        cases h6 : gfX11_canBeGoal x S4 p2 p3 with
        | none => rw [h6] at hm; cases hm
        | some q7 =>
          obtain ⟨r8, S9⟩ := q7
          rw [h6] at hm
          dsimp only at hm
          have a_S9 : Agr wX11_likely_130 S S9 := Agr.tr a_S4 (Agr.sub (frX11_canBeGoal x S4 p2 p3 _ _ h6) (by decide))
          by_cases c10 : r8 = 0
          · rw [if_pos c10] at hm
            exact Agr.tr a_S9 (fbX11_likely_130_27 x  S9 _ _ hm)
          · rw [if_neg c10] at hm
            cases h11 : gfX11_lies x S9 p4 0 30 with
            | none => rw [h11] at hm; cases hm
            | some q12 =>
              obtain ⟨r13, S14⟩ := q12
              rw [h11] at hm
              dsimp only at hm
              have a_S14 : Agr wX11_likely_130 S S14 := Agr.tr a_S9 (Agr.sub (frX11_lies x S9 p4 0 30 _ _ h11) (by decide))
              by_cases c15 : ¬ r13 = 0
              · rw [if_pos c15] at hm
                cases h16 : gfX11_laysParts_130 x S14 p1 1000000000000 with
                | none => rw [h16] at hm; cases hm
                | some q17 =>
                  obtain ⟨r18, S19⟩ := q17
                  rw [h16] at hm
                  dsimp only at hm
                  have a_S19 : Agr wX11_likely_130 S S19 := Agr.tr a_S14 (Agr.sub (frX11_laysParts_130 x S14 p1 1000000000000 _ _ h16) (by decide))
                  exact Agr.tr a_S19 (flX11_likely_130_42 x  20000 S19 p2 p3 p4 0 _ _ hm)
              · rw [if_neg c15] at hm
                exact Agr.tr a_S14 (fbX11_likely_130_27 x  S14 _ _ hm)
theorem frX11_likely_130 (x : XT) (S : ST) (p1 : Int32) (p2 : Int32) (p3 : Int32) (p4 : Int32) (r : Int64) (S' : ST) (hm : gfX11_likely_130 x S p1 p2 p3 p4 = some (r, S')) : Agr wX11_likely_130 S S' := fbX11_likely_130_0 x S p1 p2 p3 p4 r S' hm
def wX11_again_130 : List (Nat × Nat) × List Nat × List Nat × List Nat := ([(130, 22), (130, 23), (130, 24), (130, 25)], [142, 152], [], [])
set_option maxHeartbeats 4000000 in
set_option maxRecDepth 20000 in
theorem fbX11_again_130_25 (x : XT)  (S : ST)  (r : Int32) (S' : ST) (hm : bfX11_again_130_25 x  S  = some (r, S')) : Agr wX11_again_130 S S' := by
    unfold bfX11_again_130_25 at hm
    cases hm
    exact Agr.rf
set_option maxHeartbeats 4000000 in
set_option maxRecDepth 20000 in
theorem fbX11_again_130_128 (x : XT)  (S : ST) (t0 : Int32) (r : Int32) (S' : ST) (hm : bfX11_again_130_128 x  S t0 = some (r, S')) : Agr wX11_again_130 S S' := by
    unfold bfX11_again_130_128 at hm
    cases hm
    exact Agr.rf
set_option maxHeartbeats 4000000 in
set_option maxRecDepth 20000 in
theorem fbX11_again_130_64 (x : XT) (k64 : ST → Int32 → Int32 → Int32 → Int32 → Int32 → Option (Int32 × ST)) (ak64 : ∀ (S : ST) (v1 : Int32) (v2 : Int32) (v3 : Int32) (v4 : Int32) (v5 : Int32) (r : Int32) (S' : ST), k64 S v1 v2 v3 v4 v5 = some (r, S') → Agr wX11_again_130 S S') (S : ST) (v1 : Int32) (v2 : Int32) (v3 : Int32) (v4 : Int32) (v5 : Int32) (r : Int32) (S' : ST) (hm : bfX11_again_130_64 x k64 S v1 v2 v3 v4 v5 = some (r, S')) : Agr wX11_again_130 S S' := by
    unfold bfX11_again_130_64 at hm
    obtain ⟨o1, hm⟩ := oblk hm
    by_cases c2 : ¬ (S.2.1 152 v4.toNatClampNeg) = (-1)
    · rw [if_pos c2] at hm
      by_cases c3 : ¬ v3 = 0
      · rw [if_pos c3] at hm
        obtain ⟨o4, hm⟩ := oblk hm
        exact Agr.tr Agr.rf (fbX11_again_130_128 x  S (v5 - (S.2.1 152 v4.toNatClampNeg)) _ _ hm)
      · rw [if_neg c3] at hm
        obtain ⟨o5, hm⟩ := oblk hm
        exact Agr.tr Agr.rf (fbX11_again_130_128 x  S (S.2.1 152 v4.toNatClampNeg) _ _ hm)
    · rw [if_neg c2] at hm
      obtain ⟨o6, hm⟩ := oblk hm
      cases h7 : gfX11_setsGate_130 x (S.1, (u2 S.2.1 152 v4.toNatClampNeg v5), S.2.2.1, S.2.2.2) v1 v2 v4 with
      | none => rw [h7] at hm; cases hm
      | some q8 =>
        obtain ⟨r9, S10⟩ := q8
        rw [h7] at hm
        dsimp only at hm
        have a_S10 : Agr wX11_again_130 S S10 := Agr.tr (Agr.i Agr.rf 152 v4.toNatClampNeg v5 (by decide)) (Agr.sub (frX11_setsGate_130 x (S.1, (u2 S.2.1 152 v4.toNatClampNeg v5), S.2.2.1, S.2.2.2) v1 v2 v4 _ _ h7) (by decide))
        cases h11 : gfX11_turnsNow_130 x S10 with
        | none => rw [h11] at hm; cases hm
        | some q12 =>
          obtain ⟨r13, S14⟩ := q12
          rw [h11] at hm
          dsimp only at hm
          have a_S14 : Agr wX11_again_130 S S14 := Agr.tr a_S10 (Agr.sub (frX11_turnsNow_130 x S10 _ _ h11) (by decide))
          exact Agr.tr a_S14 (ak64 S14 v1 v2 v3 r13 (v5 + 1) _ _ hm)
theorem flX11_again_130_64 (x : XT)  : ∀ (n : Nat) (S : ST) (v1 : Int32) (v2 : Int32) (v3 : Int32) (v4 : Int32) (v5 : Int32) (r : Int32) (S' : ST), lfX11_again_130_64 x  n S v1 v2 v3 v4 v5 = some (r, S') → Agr wX11_again_130 S S'
  | 0, _, _, _, _, _, _, _, _, hm => by cases hm
  | n + 1, S, v1, v2, v3, v4, v5, r, S', hm => fbX11_again_130_64 x (lfX11_again_130_64 x  n) (flX11_again_130_64 x  n) S v1 v2 v3 v4 v5 r S' hm
set_option maxHeartbeats 4000000 in
set_option maxRecDepth 20000 in
theorem fbX11_again_130_30 (x : XT) (k30 : ST → Int32 → Int32 → Int32 → Int32 → Option (Int32 × ST)) (ak30 : ∀ (S : ST) (v1 : Int32) (v2 : Int32) (v3 : Int32) (v4 : Int32) (r : Int32) (S' : ST), k30 S v1 v2 v3 v4 = some (r, S') → Agr wX11_again_130 S S') (S : ST) (v1 : Int32) (v2 : Int32) (v3 : Int32) (v4 : Int32) (r : Int32) (S' : ST) (hm : bfX11_again_130_30 x k30 S v1 v2 v3 v4 = some (r, S')) : Agr wX11_again_130 S S' := by
    unfold bfX11_again_130_30 at hm
    by_cases c1 : 20 ≤ v4
    · rw [if_pos c1] at hm
      obtain ⟨o2, hm⟩ := oblk hm
      exact Agr.tr Agr.rf (flX11_again_130_64 x  20000 S v1 v2 v3 (S.2.1 132 ((5 + v1).toNatClampNeg)) 0 _ _ hm)
    · rw [if_neg c1] at hm
      obtain ⟨o3, hm⟩ := oblk hm
      exact Agr.tr (Agr.i Agr.rf 152 v4.toNatClampNeg (-1) (by decide)) (ak30 (S.1, (u2 S.2.1 152 v4.toNatClampNeg (-1)), S.2.2.1, S.2.2.2) v1 v2 v3 (v4 + 1) _ _ hm)
theorem flX11_again_130_30 (x : XT)  : ∀ (n : Nat) (S : ST) (v1 : Int32) (v2 : Int32) (v3 : Int32) (v4 : Int32) (r : Int32) (S' : ST), lfX11_again_130_30 x  n S v1 v2 v3 v4 = some (r, S') → Agr wX11_again_130 S S'
  | 0, _, _, _, _, _, _, _, hm => by cases hm
  | n + 1, S, v1, v2, v3, v4, r, S', hm => fbX11_again_130_30 x (lfX11_again_130_30 x  n) (flX11_again_130_30 x  n) S v1 v2 v3 v4 r S' hm
set_option maxHeartbeats 4000000 in
set_option maxRecDepth 20000 in
theorem fbX11_again_130_0 (x : XT)  (S : ST) (p1 : Int32) (p2 : Int32) (p3 : Int32) (r : Int32) (S' : ST) (hm : bfX11_again_130_0 x  S p1 p2 p3 = some (r, S')) : Agr wX11_again_130 S S' := by
    unfold bfX11_again_130_0 at hm
    cases h1 : gfX11_isGoer_130 x S p1 with
    | none => rw [h1] at hm; cases hm
    | some q2 =>
      obtain ⟨r3, S4⟩ := q2
      rw [h1] at hm
      dsimp only at hm
      have a_S4 : Agr wX11_again_130 S S4 := Agr.tr Agr.rf (Agr.sub (frX11_isGoer_130 x S p1 _ _ h1) (by decide))
      by_cases c5 : r3 = 0
      · rw [if_pos c5] at hm
        exact Agr.tr a_S4 (fbX11_again_130_25 x  S4 _ _ hm)
      · rw [if_neg c5] at hm
        cases h6 : gfX11_isGate_130 x S4 p2 with
        | none => rw [h6] at hm; cases hm
        | some q7 =>
          obtain ⟨r8, S9⟩ := q7
          rw [h6] at hm
          dsimp only at hm
          have a_S9 : Agr wX11_again_130 S S9 := Agr.tr a_S4 (Agr.sub (frX11_isGate_130 x S4 p2 _ _ h6) (by decide))
          by_cases c10 : r8 = 0
          · rw [if_pos c10] at hm
            exact Agr.tr a_S9 (fbX11_again_130_25 x  S9 _ _ hm)
          · rw [if_neg c10] at hm
            cases h11 : gfX11_lies x S9 p3 0 1 with
            | none => rw [h11] at hm; cases hm
            | some q12 =>
              obtain ⟨r13, S14⟩ := q12
              rw [h11] at hm
              dsimp only at hm
              have a_S14 : Agr wX11_again_130 S S14 := Agr.tr a_S9 (Agr.sub (frX11_lies x S9 p3 0 1 _ _ h11) (by decide))
              by_cases c15 : ¬ r13 = 0
              · rw [if_pos c15] at hm
                exact Agr.tr a_S14 (flX11_again_130_30 x  20000 S14 p1 p2 p3 0 _ _ hm)
              · rw [if_neg c15] at hm
                exact Agr.tr a_S14 (fbX11_again_130_25 x  S14 _ _ hm)
theorem frX11_again_130 (x : XT) (S : ST) (p1 : Int32) (p2 : Int32) (p3 : Int32) (r : Int32) (S' : ST) (hm : gfX11_again_130 x S p1 p2 p3 = some (r, S')) : Agr wX11_again_130 S S' := fbX11_again_130_0 x S p1 p2 p3 r S' hm
def wX11_hasWay_130 : List (Nat × Nat) × List Nat × List Nat × List Nat := ([], [148, 149], [], [])
set_option maxHeartbeats 4000000 in
set_option maxRecDepth 20000 in
theorem fbX11_hasWay_130_55 (x : XT) (k16 : ST → Int32 → Int32 → Int32 → Int32 → Option (Int32 × ST)) (ak16 : ∀ (S : ST) (v2 : Int32) (v3 : Int32) (v4 : Int32) (v5 : Int32) (r : Int32) (S' : ST), k16 S v2 v3 v4 v5 = some (r, S') → Agr wX11_hasWay_130 S S') (S : ST) (v2 : Int32) (v3 : Int32) (v5 : Int32) (t0 : Int32) (r : Int32) (S' : ST) (hm : bfX11_hasWay_130_55 x k16 S v2 v3 v5 t0 = some (r, S')) : Agr wX11_hasWay_130 S S' := by
    unfold bfX11_hasWay_130_55 at hm
    exact Agr.tr Agr.rf (ak16 S v2 v3 t0 (v5 + 1) _ _ hm)
set_option maxHeartbeats 4000000 in
set_option maxRecDepth 20000 in
theorem fbX11_hasWay_130_50 (x : XT) (k16 : ST → Int32 → Int32 → Int32 → Int32 → Option (Int32 × ST)) (ak16 : ∀ (S : ST) (v2 : Int32) (v3 : Int32) (v4 : Int32) (v5 : Int32) (r : Int32) (S' : ST), k16 S v2 v3 v4 v5 = some (r, S') → Agr wX11_hasWay_130 S S') (S : ST) (v2 : Int32) (v3 : Int32) (v5 : Int32) (r : Int32) (S' : ST) (hm : bfX11_hasWay_130_50 x k16 S v2 v3 v5 = some (r, S')) : Agr wX11_hasWay_130 S S' := by
    unfold bfX11_hasWay_130_50 at hm
    exact Agr.tr Agr.rf (fbX11_hasWay_130_55 x k16 ak16 S v2 v3 v5 1 _ _ hm)
set_option maxHeartbeats 4000000 in
set_option maxRecDepth 20000 in
theorem fbX11_hasWay_130_54 (x : XT) (k16 : ST → Int32 → Int32 → Int32 → Int32 → Option (Int32 × ST)) (ak16 : ∀ (S : ST) (v2 : Int32) (v3 : Int32) (v4 : Int32) (v5 : Int32) (r : Int32) (S' : ST), k16 S v2 v3 v4 v5 = some (r, S') → Agr wX11_hasWay_130 S S') (S : ST) (v2 : Int32) (v3 : Int32) (v5 : Int32) (r : Int32) (S' : ST) (hm : bfX11_hasWay_130_54 x k16 S v2 v3 v5 = some (r, S')) : Agr wX11_hasWay_130 S S' := by
    unfold bfX11_hasWay_130_54 at hm
    exact Agr.tr Agr.rf (fbX11_hasWay_130_55 x k16 ak16 S v2 v3 v5 0 _ _ hm)
set_option maxHeartbeats 4000000 in
set_option maxRecDepth 20000 in
theorem fbX11_hasWay_130_16 (x : XT) (k16 : ST → Int32 → Int32 → Int32 → Int32 → Option (Int32 × ST)) (ak16 : ∀ (S : ST) (v2 : Int32) (v3 : Int32) (v4 : Int32) (v5 : Int32) (r : Int32) (S' : ST), k16 S v2 v3 v4 v5 = some (r, S') → Agr wX11_hasWay_130 S S') (S : ST) (v2 : Int32) (v3 : Int32) (v4 : Int32) (v5 : Int32) (r : Int32) (S' : ST) (hm : bfX11_hasWay_130_16 x k16 S v2 v3 v4 v5 = some (r, S')) : Agr wX11_hasWay_130 S S' := by
    unfold bfX11_hasWay_130_16 at hm
    by_cases c1 : 120 ≤ v5
    · rw [if_pos c1] at hm
      obtain ⟨o2, hm⟩ := oblk hm
      cases hm
      exact Agr.rf
    · rw [if_neg c1] at hm
      by_cases c3 : ¬ v4 = 0
      · rw [if_pos c3] at hm
        exact Agr.tr Agr.rf (fbX11_hasWay_130_50 x k16 ak16 S v2 v3 v5 _ _ hm)
      · rw [if_neg c3] at hm
        obtain ⟨o4, hm⟩ := oblk hm
        by_cases c5 : 1000000 ≤ (S.2.1 148 v5.toNatClampNeg)
        · rw [if_pos c5] at hm
          exact Agr.tr Agr.rf (fbX11_hasWay_130_54 x k16 ak16 S v2 v3 v5 _ _ hm)
        · rw [if_neg c5] at hm
          cases h6 : gfX11_isGoal x S v5 v2 v3 with
          | none => rw [h6] at hm; cases hm
          | some q7 =>
            obtain ⟨r8, S9⟩ := q7
            rw [h6] at hm
            dsimp only at hm
            have a_S9 : Agr wX11_hasWay_130 S S9 := Agr.tr Agr.rf (Agr.sub (frX11_isGoal x S v5 v2 v3 _ _ h6) (by decide))
            by_cases c10 : r8 = 0
            · rw [if_pos c10] at hm
              exact Agr.tr a_S9 (fbX11_hasWay_130_54 x k16 ak16 S9 v2 v3 v5 _ _ hm)
            · rw [if_neg c10] at hm
              exact Agr.tr a_S9 (fbX11_hasWay_130_50 x k16 ak16 S9 v2 v3 v5 _ _ hm)
theorem flX11_hasWay_130_16 (x : XT)  : ∀ (n : Nat) (S : ST) (v2 : Int32) (v3 : Int32) (v4 : Int32) (v5 : Int32) (r : Int32) (S' : ST), lfX11_hasWay_130_16 x  n S v2 v3 v4 v5 = some (r, S') → Agr wX11_hasWay_130 S S'
  | 0, _, _, _, _, _, _, _, hm => by cases hm
  | n + 1, S, v2, v3, v4, v5, r, S', hm => fbX11_hasWay_130_16 x (lfX11_hasWay_130_16 x  n) (flX11_hasWay_130_16 x  n) S v2 v3 v4 v5 r S' hm
set_option maxHeartbeats 4000000 in
set_option maxRecDepth 20000 in
theorem fbX11_hasWay_130_0 (x : XT)  (S : ST) (p1 : Int32) (p2 : Int32) (p3 : Int32) (r : Int32) (S' : ST) (hm : bfX11_hasWay_130_0 x  S p1 p2 p3 = some (r, S')) : Agr wX11_hasWay_130 S S' := by
    unfold bfX11_hasWay_130_0 at hm
    cases h1 : gfX11_placeOf_130 x S p1 with
    | none => rw [h1] at hm; cases hm
    | some q2 =>
      obtain ⟨r3, S4⟩ := q2
      rw [h1] at hm
      dsimp only at hm
      have a_S4 : Agr wX11_hasWay_130 S S4 := Agr.tr Agr.rf (Agr.sub (frX11_placeOf_130 x S p1 _ _ h1) (by decide))
      cases h5 : gfX11_laysGone_130 x S4 r3 0 with
      | none => rw [h5] at hm; cases hm
      | some q6 =>
        obtain ⟨r7, S8⟩ := q6
        rw [h5] at hm
        dsimp only at hm
        have a_S8 : Agr wX11_hasWay_130 S S8 := Agr.tr a_S4 (Agr.sub (frX11_laysGone_130 x S4 r3 0 _ _ h5) (by decide))
        exact Agr.tr a_S8 (flX11_hasWay_130_16 x  20000 S8 p2 p3 0 0 _ _ hm)
theorem frX11_hasWay_130 (x : XT) (S : ST) (p1 : Int32) (p2 : Int32) (p3 : Int32) (r : Int32) (S' : ST) (hm : gfX11_hasWay_130 x S p1 p2 p3 = some (r, S')) : Agr wX11_hasWay_130 S S' := fbX11_hasWay_130_0 x S p1 p2 p3 r S' hm
def wX11_fixedAt_130 : List (Nat × Nat) × List Nat × List Nat × List Nat := ([(130, 22), (130, 23), (130, 24), (130, 25)], [132, 142, 145, 146, 148, 149], [], [])
set_option maxHeartbeats 4000000 in
set_option maxRecDepth 20000 in
theorem fbX11_fixedAt_130_82 (x : XT)  (S : ST) (v1 : Int32) (v2 : Int32) (v5 : Int32) (v6 : Int32) (r : Int32) (S' : ST) (hm : bfX11_fixedAt_130_82 x  S v1 v2 v5 v6 = some (r, S')) : Agr wX11_fixedAt_130 S S' := by
    unfold bfX11_fixedAt_130_82 at hm
    obtain ⟨o1, hm⟩ := oblk hm
    cases h2 : gfX11_laysGate_130 x (S.1, (u2 S.2.1 132 ((15 + v2).toNatClampNeg) v5), S.2.2.1, S.2.2.2) v1 v2 with
    | none => rw [h2] at hm; cases hm
    | some q3 =>
      obtain ⟨r4, S5⟩ := q3
      rw [h2] at hm
      dsimp only at hm
      have a_S5 : Agr wX11_fixedAt_130 S S5 := Agr.tr (Agr.i Agr.rf 132 ((15 + v2).toNatClampNeg) v5 (by decide)) (Agr.sub (frX11_laysGate_130 x (S.1, (u2 S.2.1 132 ((15 + v2).toNatClampNeg) v5), S.2.2.1, S.2.2.2) v1 v2 _ _ h2) (by decide))
      cases hm
      exact a_S5
set_option maxHeartbeats 4000000 in
set_option maxRecDepth 20000 in
theorem fbX11_fixedAt_130_76 (x : XT) (k17 : ST → Int32 → Int32 → Int32 → Int32 → Int32 → Int32 → Int32 → Option (Int32 × ST)) (ak17 : ∀ (S : ST) (v1 : Int32) (v2 : Int32) (v3 : Int32) (v4 : Int32) (v5 : Int32) (v6 : Int32) (v7 : Int32) (r : Int32) (S' : ST), k17 S v1 v2 v3 v4 v5 v6 v7 = some (r, S') → Agr wX11_fixedAt_130 S S') (S : ST) (v1 : Int32) (v2 : Int32) (v3 : Int32) (v4 : Int32) (v5 : Int32) (v6 : Int32) (v7 : Int32) (r : Int32) (S' : ST) (hm : bfX11_fixedAt_130_76 x k17 S v1 v2 v3 v4 v5 v6 v7 = some (r, S')) : Agr wX11_fixedAt_130 S S' := by
    unfold bfX11_fixedAt_130_76 at hm
    exact Agr.tr Agr.rf (ak17 S v1 v2 v3 v4 v5 v6 (v7 + 1) _ _ hm)
set_option maxHeartbeats 4000000 in
set_option maxRecDepth 20000 in
theorem fbX11_fixedAt_130_74 (x : XT) (k17 : ST → Int32 → Int32 → Int32 → Int32 → Int32 → Int32 → Int32 → Option (Int32 × ST)) (ak17 : ∀ (S : ST) (v1 : Int32) (v2 : Int32) (v3 : Int32) (v4 : Int32) (v5 : Int32) (v6 : Int32) (v7 : Int32) (r : Int32) (S' : ST), k17 S v1 v2 v3 v4 v5 v6 v7 = some (r, S') → Agr wX11_fixedAt_130 S S') (S : ST) (v1 : Int32) (v2 : Int32) (v3 : Int32) (v4 : Int32) (v5 : Int32) (v7 : Int32) (t0 : Int32) (r : Int32) (S' : ST) (hm : bfX11_fixedAt_130_74 x k17 S v1 v2 v3 v4 v5 v7 t0 = some (r, S')) : Agr wX11_fixedAt_130 S S' := by
    unfold bfX11_fixedAt_130_74 at hm
    exact Agr.tr Agr.rf (fbX11_fixedAt_130_76 x k17 ak17 S v1 v2 v3 v4 v5 t0 v7 _ _ hm)
set_option maxHeartbeats 4000000 in
set_option maxRecDepth 20000 in
theorem fbX11_fixedAt_130_17 (x : XT) (k17 : ST → Int32 → Int32 → Int32 → Int32 → Int32 → Int32 → Int32 → Option (Int32 × ST)) (ak17 : ∀ (S : ST) (v1 : Int32) (v2 : Int32) (v3 : Int32) (v4 : Int32) (v5 : Int32) (v6 : Int32) (v7 : Int32) (r : Int32) (S' : ST), k17 S v1 v2 v3 v4 v5 v6 v7 = some (r, S') → Agr wX11_fixedAt_130 S S') (S : ST) (v1 : Int32) (v2 : Int32) (v3 : Int32) (v4 : Int32) (v5 : Int32) (v6 : Int32) (v7 : Int32) (r : Int32) (S' : ST) (hm : bfX11_fixedAt_130_17 x k17 S v1 v2 v3 v4 v5 v6 v7 = some (r, S')) : Agr wX11_fixedAt_130 S S' := by
    unfold bfX11_fixedAt_130_17 at hm
    by_cases c1 : 9 < v7
    · rw [if_pos c1] at hm
      exact Agr.tr Agr.rf (fbX11_fixedAt_130_82 x  S v1 v2 v5 v6 _ _ hm)
    · rw [if_neg c1] at hm
      by_cases c2 : ¬ v6 = (-1)
      · rw [if_pos c2] at hm
        exact Agr.tr Agr.rf (fbX11_fixedAt_130_82 x  S v1 v2 v5 v6 _ _ hm)
      · rw [if_neg c2] at hm
        by_cases c3 : ¬ v7 = v5
        · rw [if_pos c3] at hm
          obtain ⟨o4, hm⟩ := oblk hm
          cases h5 : gfX11_laysGate_130 x (S.1, (u2 S.2.1 132 ((15 + v2).toNatClampNeg) v7), S.2.2.1, S.2.2.2) v1 v2 with
          | none => rw [h5] at hm; cases hm
          | some q6 =>
            obtain ⟨r7, S8⟩ := q6
            rw [h5] at hm
            dsimp only at hm
            have a_S8 : Agr wX11_fixedAt_130 S S8 := Agr.tr (Agr.i Agr.rf 132 ((15 + v2).toNatClampNeg) v7 (by decide)) (Agr.sub (frX11_laysGate_130 x (S.1, (u2 S.2.1 132 ((15 + v2).toNatClampNeg) v7), S.2.2.1, S.2.2.2) v1 v2 _ _ h5) (by decide))
            cases h9 : gfX11_hasWay_130 x S8 v1 v3 v4 with
            | none => rw [h9] at hm; cases hm
            | some q10 =>
              obtain ⟨r11, S12⟩ := q10
              rw [h9] at hm
              dsimp only at hm
              have a_S12 : Agr wX11_fixedAt_130 S S12 := Agr.tr a_S8 (Agr.sub (frX11_hasWay_130 x S8 v1 v3 v4 _ _ h9) (by decide))
              by_cases c13 : r11 = 0
              · rw [if_pos c13] at hm
                exact Agr.tr a_S12 (fbX11_fixedAt_130_74 x k17 ak17 S12 v1 v2 v3 v4 v5 v7 (-1) _ _ hm)
              · rw [if_neg c13] at hm
                exact Agr.tr a_S12 (fbX11_fixedAt_130_74 x k17 ak17 S12 v1 v2 v3 v4 v5 v7 v7 _ _ hm)
        · rw [if_neg c3] at hm
          exact Agr.tr Agr.rf (fbX11_fixedAt_130_76 x k17 ak17 S v1 v2 v3 v4 v5 v6 v7 _ _ hm)
theorem flX11_fixedAt_130_17 (x : XT)  : ∀ (n : Nat) (S : ST) (v1 : Int32) (v2 : Int32) (v3 : Int32) (v4 : Int32) (v5 : Int32) (v6 : Int32) (v7 : Int32) (r : Int32) (S' : ST), lfX11_fixedAt_130_17 x  n S v1 v2 v3 v4 v5 v6 v7 = some (r, S') → Agr wX11_fixedAt_130 S S'
  | 0, _, _, _, _, _, _, _, _, _, _, hm => by cases hm
  | n + 1, S, v1, v2, v3, v4, v5, v6, v7, r, S', hm => fbX11_fixedAt_130_17 x (lfX11_fixedAt_130_17 x  n) (flX11_fixedAt_130_17 x  n) S v1 v2 v3 v4 v5 v6 v7 r S' hm
set_option maxHeartbeats 4000000 in
set_option maxRecDepth 20000 in
theorem fbX11_fixedAt_130_0 (x : XT)  (S : ST) (p1 : Int32) (p2 : Int32) (p3 : Int32) (p4 : Int32) (r : Int32) (S' : ST) (hm : bfX11_fixedAt_130_0 x  S p1 p2 p3 p4 = some (r, S')) : Agr wX11_fixedAt_130 S S' := by
    unfold bfX11_fixedAt_130_0 at hm
    obtain ⟨o1, hm⟩ := oblk hm
    exact Agr.tr Agr.rf (flX11_fixedAt_130_17 x  20000 S p1 p2 p3 p4 (S.2.1 132 ((15 + p2).toNatClampNeg)) (-1) 0 _ _ hm)
theorem frX11_fixedAt_130 (x : XT) (S : ST) (p1 : Int32) (p2 : Int32) (p3 : Int32) (p4 : Int32) (r : Int32) (S' : ST) (hm : gfX11_fixedAt_130 x S p1 p2 p3 p4 = some (r, S')) : Agr wX11_fixedAt_130 S S' := fbX11_fixedAt_130_0 x S p1 p2 p3 p4 r S' hm
def wX11_fixed_130 : List (Nat × Nat) × List Nat × List Nat × List Nat := ([(130, 22), (130, 23), (130, 24), (130, 25)], [132, 142, 145, 146, 148, 149], [], [])
set_option maxHeartbeats 4000000 in
set_option maxRecDepth 20000 in
theorem fbX11_fixed_130_16 (x : XT)  (S : ST)  (r : Int32) (S' : ST) (hm : bfX11_fixed_130_16 x  S  = some (r, S')) : Agr wX11_fixed_130 S S' := by
    unfold bfX11_fixed_130_16 at hm
    cases hm
    exact Agr.rf
set_option maxHeartbeats 4000000 in
set_option maxRecDepth 20000 in
theorem fbX11_fixed_130_39 (x : XT) (k39 : ST → Int32 → Int32 → Int32 → Int32 → Option (Int32 × ST)) (ak39 : ∀ (S : ST) (v1 : Int32) (v2 : Int32) (v3 : Int32) (v4 : Int32) (r : Int32) (S' : ST), k39 S v1 v2 v3 v4 = some (r, S') → Agr wX11_fixed_130 S S') (S : ST) (v1 : Int32) (v2 : Int32) (v3 : Int32) (v4 : Int32) (r : Int32) (S' : ST) (hm : bfX11_fixed_130_39 x k39 S v1 v2 v3 v4 = some (r, S')) : Agr wX11_fixed_130 S S' := by
    unfold bfX11_fixed_130_39 at hm
    cases h1 : gfX11_gateMany_130 x S with
    | none => rw [h1] at hm; cases hm
    | some q2 =>
      obtain ⟨r3, S4⟩ := q2
      rw [h1] at hm
      dsimp only at hm
      have a_S4 : Agr wX11_fixed_130 S S4 := Agr.tr Agr.rf (Agr.sub (frX11_gateMany_130 x S _ _ h1) (by decide))
      by_cases c5 : r3 ≤ v4
      · rw [if_pos c5] at hm
        cases hm
        exact a_S4
      · rw [if_neg c5] at hm
        cases h6 : gfX11_fixedAt_130 x S4 v1 v4 v2 v3 with
        | none => rw [h6] at hm; cases hm
        | some q7 =>
          obtain ⟨r8, S9⟩ := q7
          rw [h6] at hm
          dsimp only at hm
          have a_S9 : Agr wX11_fixed_130 S S9 := Agr.tr a_S4 (Agr.sub (frX11_fixedAt_130 x S4 v1 v4 v2 v3 _ _ h6) (by decide))
          by_cases c10 : r8 = (-1)
          · rw [if_pos c10] at hm
            exact Agr.tr a_S9 (ak39 S9 v1 v2 v3 (v4 + 1) _ _ hm)
          · rw [if_neg c10] at hm
            cases hm
            exact a_S9
theorem flX11_fixed_130_39 (x : XT)  : ∀ (n : Nat) (S : ST) (v1 : Int32) (v2 : Int32) (v3 : Int32) (v4 : Int32) (r : Int32) (S' : ST), lfX11_fixed_130_39 x  n S v1 v2 v3 v4 = some (r, S') → Agr wX11_fixed_130 S S'
  | 0, _, _, _, _, _, _, _, hm => by cases hm
  | n + 1, S, v1, v2, v3, v4, r, S', hm => fbX11_fixed_130_39 x (lfX11_fixed_130_39 x  n) (flX11_fixed_130_39 x  n) S v1 v2 v3 v4 r S' hm
set_option maxHeartbeats 4000000 in
set_option maxRecDepth 20000 in
theorem fbX11_fixed_130_0 (x : XT)  (S : ST) (p1 : Int32) (p2 : Int32) (p3 : Int32) (r : Int32) (S' : ST) (hm : bfX11_fixed_130_0 x  S p1 p2 p3 = some (r, S')) : Agr wX11_fixed_130 S S' := by
    unfold bfX11_fixed_130_0 at hm
    cases h1 : gfX11_isGoer_130 x S p1 with
    | none => rw [h1] at hm; cases hm
    | some q2 =>
      obtain ⟨r3, S4⟩ := q2
      rw [h1] at hm
      dsimp only at hm
      have a_S4 : Agr wX11_fixed_130 S S4 := Agr.tr Agr.rf (Agr.sub (frX11_isGoer_130 x S p1 _ _ h1) (by decide))
      by_cases c5 : r3 = 0
      · rw [if_pos c5] at hm
        exact Agr.tr a_S4 (fbX11_fixed_130_16 x  S4 _ _ hm)
      · rw [if_neg c5] at hm
        cases h6 : gfX11_canBeGoal x S4 p2 p3 with
        | none => rw [h6] at hm; cases hm
        | some q7 =>
          obtain ⟨r8, S9⟩ := q7
          rw [h6] at hm
          dsimp only at hm
          have a_S9 : Agr wX11_fixed_130 S S9 := Agr.tr a_S4 (Agr.sub (frX11_canBeGoal x S4 p2 p3 _ _ h6) (by decide))
          by_cases c10 : ¬ r8 = 0
          · rw [if_pos c10] at hm
            cases h11 : gfX11_laysOut_130 x S9 p1 with
            | none => rw [h11] at hm; cases hm
            | some q12 =>
              obtain ⟨r13, S14⟩ := q12
              rw [h11] at hm
              dsimp only at hm
              have a_S14 : Agr wX11_fixed_130 S S14 := Agr.tr a_S9 (Agr.sub (frX11_laysOut_130 x S9 p1 _ _ h11) (by decide))
              cases h15 : gfX11_hasWay_130 x S14 p1 p2 p3 with
              | none => rw [h15] at hm; cases hm
              | some q16 =>
                obtain ⟨r17, S18⟩ := q16
                rw [h15] at hm
                dsimp only at hm
                have a_S18 : Agr wX11_fixed_130 S S18 := Agr.tr a_S14 (Agr.sub (frX11_hasWay_130 x S14 p1 p2 p3 _ _ h15) (by decide))
                by_cases c19 : r17 = 0
                · rw [if_pos c19] at hm
                  exact Agr.tr a_S18 (flX11_fixed_130_39 x  20000 S18 p1 p2 p3 0 _ _ hm)
                · rw [if_neg c19] at hm
                  cases hm
                  exact a_S18
          · rw [if_neg c10] at hm
            exact Agr.tr a_S9 (fbX11_fixed_130_16 x  S9 _ _ hm)
theorem frX11_fixed_130 (x : XT) (S : ST) (p1 : Int32) (p2 : Int32) (p3 : Int32) (r : Int32) (S' : ST) (hm : gfX11_fixed_130 x S p1 p2 p3 = some (r, S')) : Agr wX11_fixed_130 S S' := fbX11_fixed_130_0 x S p1 p2 p3 r S' hm
def wX11_cut_130 : List (Nat × Nat) × List Nat × List Nat × List Nat := ([(130, 22), (130, 23), (130, 24), (130, 25)], [142, 145, 146, 148, 149], [], [])
set_option maxHeartbeats 4000000 in
set_option maxRecDepth 20000 in
theorem fbX11_cut_130_36 (x : XT)  (S : ST)  (r : Int32) (S' : ST) (hm : bfX11_cut_130_36 x  S  = some (r, S')) : Agr wX11_cut_130 S S' := by
    unfold bfX11_cut_130_36 at hm
    cases hm
    exact Agr.rf
set_option maxHeartbeats 4000000 in
set_option maxRecDepth 20000 in
theorem fbX11_cut_130_175 (x : XT)  (S : ST) (t0 : Int32) (r : Int32) (S' : ST) (hm : bfX11_cut_130_175 x  S t0 = some (r, S')) : Agr wX11_cut_130 S S' := by
    unfold bfX11_cut_130_175 at hm
    cases hm
    exact Agr.rf
set_option maxHeartbeats 4000000 in
set_option maxRecDepth 20000 in
theorem fbX11_cut_130_155 (x : XT) (k88 : ST → Int32 → Int32 → Int32 → Int32 → Int32 → Int32 → Option (Int32 × ST)) (ak88 : ∀ (S : ST) (v1 : Int32) (v2 : Int32) (v3 : Int32) (v4 : Int32) (v5 : Int32) (v6 : Int32) (r : Int32) (S' : ST), k88 S v1 v2 v3 v4 v5 v6 = some (r, S') → Agr wX11_cut_130 S S') (S : ST) (v1 : Int32) (v2 : Int32) (v3 : Int32) (v4 : Int32) (v5 : Int32) (v6 : Int32) (r : Int32) (S' : ST) (hm : bfX11_cut_130_155 x k88 S v1 v2 v3 v4 v5 v6 = some (r, S')) : Agr wX11_cut_130 S S' := by
    unfold bfX11_cut_130_155 at hm
    exact Agr.tr Agr.rf (ak88 S v1 v2 v3 v4 v5 (v6 + 1) _ _ hm)
set_option maxHeartbeats 4000000 in
set_option maxRecDepth 20000 in
theorem fbX11_cut_130_153 (x : XT) (k88 : ST → Int32 → Int32 → Int32 → Int32 → Int32 → Int32 → Option (Int32 × ST)) (ak88 : ∀ (S : ST) (v1 : Int32) (v2 : Int32) (v3 : Int32) (v4 : Int32) (v5 : Int32) (v6 : Int32) (r : Int32) (S' : ST), k88 S v1 v2 v3 v4 v5 v6 = some (r, S') → Agr wX11_cut_130 S S') (S : ST) (v1 : Int32) (v2 : Int32) (v3 : Int32) (v4 : Int32) (v6 : Int32) (t0 : Int32) (r : Int32) (S' : ST) (hm : bfX11_cut_130_153 x k88 S v1 v2 v3 v4 v6 t0 = some (r, S')) : Agr wX11_cut_130 S S' := by
    unfold bfX11_cut_130_153 at hm
    exact Agr.tr Agr.rf (fbX11_cut_130_155 x k88 ak88 S v1 v2 v3 v4 t0 v6 _ _ hm)
set_option maxHeartbeats 4000000 in
set_option maxRecDepth 20000 in
theorem fbX11_cut_130_127 (x : XT) (k88 : ST → Int32 → Int32 → Int32 → Int32 → Int32 → Int32 → Option (Int32 × ST)) (ak88 : ∀ (S : ST) (v1 : Int32) (v2 : Int32) (v3 : Int32) (v4 : Int32) (v5 : Int32) (v6 : Int32) (r : Int32) (S' : ST), k88 S v1 v2 v3 v4 v5 v6 = some (r, S') → Agr wX11_cut_130 S S') (S : ST) (v1 : Int32) (v2 : Int32) (v3 : Int32) (v4 : Int32) (v5 : Int32) (v6 : Int32) (r : Int32) (S' : ST) (hm : bfX11_cut_130_127 x k88 S v1 v2 v3 v4 v5 v6 = some (r, S')) : Agr wX11_cut_130 S S' := by
    unfold bfX11_cut_130_127 at hm
    cases h1 : gfX11_placeOf_130 x S v1 with
    | none => rw [h1] at hm; cases hm
    | some q2 =>
      obtain ⟨r3, S4⟩ := q2
      rw [h1] at hm
      dsimp only at hm
      have a_S4 : Agr wX11_cut_130 S S4 := Agr.tr Agr.rf (Agr.sub (frX11_placeOf_130 x S v1 _ _ h1) (by decide))
      cases h5 : gfX11_laysGone_130 x S4 r3 v6 with
      | none => rw [h5] at hm; cases hm
      | some q6 =>
        obtain ⟨r7, S8⟩ := q6
        rw [h5] at hm
        dsimp only at hm
        have a_S8 : Agr wX11_cut_130 S S8 := Agr.tr a_S4 (Agr.sub (frX11_laysGone_130 x S4 r3 v6 _ _ h5) (by decide))
        cases h9 : gfX11_comesTo_130 x S8 v2 with
        | none => rw [h9] at hm; cases hm
        | some q10 =>
          obtain ⟨r11, S12⟩ := q10
          rw [h9] at hm
          dsimp only at hm
          have a_S12 : Agr wX11_cut_130 S S12 := Agr.tr a_S8 (Agr.sub (frX11_comesTo_130 x S8 v2 _ _ h9) (by decide))
          by_cases c13 : r11 = 0
          · rw [if_pos c13] at hm
            exact Agr.tr a_S12 (fbX11_cut_130_153 x k88 ak88 S12 v1 v2 v3 v4 v6 v6 _ _ hm)
          · rw [if_neg c13] at hm
            exact Agr.tr a_S12 (fbX11_cut_130_153 x k88 ak88 S12 v1 v2 v3 v4 v6 v5 _ _ hm)
set_option maxHeartbeats 4000000 in
set_option maxRecDepth 20000 in
theorem fbX11_cut_130_88 (x : XT) (k88 : ST → Int32 → Int32 → Int32 → Int32 → Int32 → Int32 → Option (Int32 × ST)) (ak88 : ∀ (S : ST) (v1 : Int32) (v2 : Int32) (v3 : Int32) (v4 : Int32) (v5 : Int32) (v6 : Int32) (r : Int32) (S' : ST), k88 S v1 v2 v3 v4 v5 v6 = some (r, S') → Agr wX11_cut_130 S S') (S : ST) (v1 : Int32) (v2 : Int32) (v3 : Int32) (v4 : Int32) (v5 : Int32) (v6 : Int32) (r : Int32) (S' : ST) (hm : bfX11_cut_130_88 x k88 S v1 v2 v3 v4 v5 v6 = some (r, S')) : Agr wX11_cut_130 S S' := by
    unfold bfX11_cut_130_88 at hm
    by_cases c1 : v4 < v6
    · rw [if_pos c1] at hm
      by_cases c2 : ¬ v3 = 0
      · rw [if_pos c2] at hm
        exact Agr.tr Agr.rf (fbX11_cut_130_175 x  S v5 _ _ hm)
      · rw [if_neg c2] at hm
        cases h3 : gfX11_ones x S v5 with
        | none => rw [h3] at hm; cases hm
        | some q4 =>
          obtain ⟨r5, S6⟩ := q4
          rw [h3] at hm
          dsimp only at hm
          have a_S6 : Agr wX11_cut_130 S S6 := Agr.tr Agr.rf (Agr.sub (frX11_ones x S v5 _ _ h3) (by decide))
          exact Agr.tr a_S6 (fbX11_cut_130_175 x  S6 r5 _ _ hm)
    · rw [if_neg c1] at hm
      by_cases c7 : ¬ (v6 &&& (v4 ^^^ (-1))) = 0
      · rw [if_pos c7] at hm
        exact Agr.tr Agr.rf (fbX11_cut_130_155 x k88 ak88 S v1 v2 v3 v4 v5 v6 _ _ hm)
      · rw [if_neg c7] at hm
        by_cases c8 : v5 = (-1)
        · rw [if_pos c8] at hm
          exact Agr.tr Agr.rf (fbX11_cut_130_127 x k88 ak88 S v1 v2 v3 v4 v5 v6 _ _ hm)
        · rw [if_neg c8] at hm
          cases h9 : gfX11_ones x S v6 with
          | none => rw [h9] at hm; cases hm
          | some q10 =>
            obtain ⟨r11, S12⟩ := q10
            rw [h9] at hm
            dsimp only at hm
            have a_S12 : Agr wX11_cut_130 S S12 := Agr.tr Agr.rf (Agr.sub (frX11_ones x S v6 _ _ h9) (by decide))
            cases h13 : gfX11_ones x S12 v5 with
            | none => rw [h13] at hm; cases hm
            | some q14 =>
              obtain ⟨r15, S16⟩ := q14
              rw [h13] at hm
              dsimp only at hm
              have a_S16 : Agr wX11_cut_130 S S16 := Agr.tr a_S12 (Agr.sub (frX11_ones x S12 v5 _ _ h13) (by decide))
              by_cases c17 : r11 < r15
              · rw [if_pos c17] at hm
                exact Agr.tr a_S16 (fbX11_cut_130_127 x k88 ak88 S16 v1 v2 v3 v4 v5 v6 _ _ hm)
              · rw [if_neg c17] at hm
                exact Agr.tr a_S16 (fbX11_cut_130_155 x k88 ak88 S16 v1 v2 v3 v4 v5 v6 _ _ hm)
theorem flX11_cut_130_88 (x : XT)  : ∀ (n : Nat) (S : ST) (v1 : Int32) (v2 : Int32) (v3 : Int32) (v4 : Int32) (v5 : Int32) (v6 : Int32) (r : Int32) (S' : ST), lfX11_cut_130_88 x  n S v1 v2 v3 v4 v5 v6 = some (r, S') → Agr wX11_cut_130 S S'
  | 0, _, _, _, _, _, _, _, _, _, hm => by cases hm
  | n + 1, S, v1, v2, v3, v4, v5, v6, r, S', hm => fbX11_cut_130_88 x (lfX11_cut_130_88 x  n) (flX11_cut_130_88 x  n) S v1 v2 v3 v4 v5 v6 r S' hm
set_option maxHeartbeats 4000000 in
set_option maxRecDepth 20000 in
theorem fbX11_cut_130_49 (x : XT) (k49 : ST → Int32 → Int32 → Int32 → Int32 → Int32 → Option (Int32 × ST)) (ak49 : ∀ (S : ST) (v1 : Int32) (v2 : Int32) (v3 : Int32) (v4 : Int32) (v5 : Int32) (r : Int32) (S' : ST), k49 S v1 v2 v3 v4 v5 = some (r, S') → Agr wX11_cut_130 S S') (S : ST) (v1 : Int32) (v2 : Int32) (v3 : Int32) (v4 : Int32) (v5 : Int32) (r : Int32) (S' : ST) (hm : bfX11_cut_130_49 x k49 S v1 v2 v3 v4 v5 = some (r, S')) : Agr wX11_cut_130 S S' := by
    unfold bfX11_cut_130_49 at hm
    cases h1 : gfX11_gateMany_130 x S with
    | none => rw [h1] at hm; cases hm
    | some q2 =>
      obtain ⟨r3, S4⟩ := q2
      rw [h1] at hm
      dsimp only at hm
      have a_S4 : Agr wX11_cut_130 S S4 := Agr.tr Agr.rf (Agr.sub (frX11_gateMany_130 x S _ _ h1) (by decide))
      by_cases c5 : r3 ≤ v5
      · rw [if_pos c5] at hm
        exact Agr.tr a_S4 (flX11_cut_130_88 x  20000 S4 v1 v2 v3 v4 (-1) 0 _ _ hm)
      · rw [if_neg c5] at hm
        obtain ⟨o6, hm⟩ := oblk hm
        exact Agr.tr a_S4 (ak49 S4 v1 v2 v3 (v4 ||| ((S4.2.1 132 ((25 + v5).toNatClampNeg)) <<< (v5 &&& 31))) (v5 + 1) _ _ hm)
theorem flX11_cut_130_49 (x : XT)  : ∀ (n : Nat) (S : ST) (v1 : Int32) (v2 : Int32) (v3 : Int32) (v4 : Int32) (v5 : Int32) (r : Int32) (S' : ST), lfX11_cut_130_49 x  n S v1 v2 v3 v4 v5 = some (r, S') → Agr wX11_cut_130 S S'
  | 0, _, _, _, _, _, _, _, _, hm => by cases hm
  | n + 1, S, v1, v2, v3, v4, v5, r, S', hm => fbX11_cut_130_49 x (lfX11_cut_130_49 x  n) (flX11_cut_130_49 x  n) S v1 v2 v3 v4 v5 r S' hm
set_option maxHeartbeats 4000000 in
set_option maxRecDepth 20000 in
theorem fbX11_cut_130_0 (x : XT)  (S : ST) (p1 : Int32) (p2 : Int32) (p3 : Int32) (r : Int32) (S' : ST) (hm : bfX11_cut_130_0 x  S p1 p2 p3 = some (r, S')) : Agr wX11_cut_130 S S' := by
    unfold bfX11_cut_130_0 at hm
    cases h1 : gfX11_isGoer_130 x S p1 with
    | none => rw [h1] at hm; cases hm
    | some q2 =>
      obtain ⟨r3, S4⟩ := q2
      rw [h1] at hm
      dsimp only at hm
      have a_S4 : Agr wX11_cut_130 S S4 := Agr.tr Agr.rf (Agr.sub (frX11_isGoer_130 x S p1 _ _ h1) (by decide))
      by_cases c5 : r3 = 0
      · rw [if_pos c5] at hm
        exact Agr.tr a_S4 (fbX11_cut_130_36 x  S4 _ _ hm)
      · rw [if_neg c5] at hm
        cases h6 : gfX11_isPark x S4 p2 with
        | none => rw [h6] at hm; cases hm
        | some q7 =>
          obtain ⟨r8, S9⟩ := q7
          rw [h6] at hm
          dsimp only at hm
          have a_S9 : Agr wX11_cut_130 S S9 := Agr.tr a_S4 (Agr.sub (frX11_isPark x S4 p2 _ _ h6) (by decide))
          by_cases c10 : r8 = 0
          · rw [if_pos c10] at hm
            exact Agr.tr a_S9 (fbX11_cut_130_36 x  S9 _ _ hm)
          · rw [if_neg c10] at hm
            cases h11 : gfX11_lies x S9 p3 0 1 with
            | none => rw [h11] at hm; cases hm
            | some q12 =>
              obtain ⟨r13, S14⟩ := q12
              rw [h11] at hm
              dsimp only at hm
              have a_S14 : Agr wX11_cut_130 S S14 := Agr.tr a_S9 (Agr.sub (frX11_lies x S9 p3 0 1 _ _ h11) (by decide))
              by_cases c15 : r13 = 0
              · rw [if_pos c15] at hm
                exact Agr.tr a_S14 (fbX11_cut_130_36 x  S14 _ _ hm)
              · rw [if_neg c15] at hm
                obtain ⟨o16, hm⟩ := oblk hm
                by_cases c17 : ¬ (S14.2.1 132 ((0 + p1).toNatClampNeg)) = p2
                · rw [if_pos c17] at hm
                  cases h18 : gfX11_laysOut_130 x S14 p1 with
                  | none => rw [h18] at hm; cases hm
                  | some q19 =>
                    obtain ⟨r20, S21⟩ := q19
                    rw [h18] at hm
                    dsimp only at hm
                    have a_S21 : Agr wX11_cut_130 S S21 := Agr.tr a_S14 (Agr.sub (frX11_laysOut_130 x S14 p1 _ _ h18) (by decide))
                    exact Agr.tr a_S21 (flX11_cut_130_49 x  20000 S21 p1 p2 p3 0 0 _ _ hm)
                · rw [if_neg c17] at hm
                  exact Agr.tr a_S14 (fbX11_cut_130_36 x  S14 _ _ hm)
theorem frX11_cut_130 (x : XT) (S : ST) (p1 : Int32) (p2 : Int32) (p3 : Int32) (r : Int32) (S' : ST) (hm : gfX11_cut_130 x S p1 p2 p3 = some (r, S')) : Agr wX11_cut_130 S S' := fbX11_cut_130_0 x S p1 p2 p3 r S' hm
def wX11_meet_130 : List (Nat × Nat) × List Nat × List Nat × List Nat := ([(130, 22), (130, 23), (130, 24), (130, 25)], [142, 145, 146, 148, 149, 153], [], [])
set_option maxHeartbeats 4000000 in
set_option maxRecDepth 20000 in
theorem fbX11_meet_130_30 (x : XT)  (S : ST)  (r : Int32) (S' : ST) (hm : bfX11_meet_130_30 x  S  = some (r, S')) : Agr wX11_meet_130 S S' := by
    unfold bfX11_meet_130_30 at hm
    cases hm
    exact Agr.rf
set_option maxHeartbeats 4000000 in
set_option maxRecDepth 20000 in
theorem fbX11_meet_130_169 (x : XT)  (S : ST) (t0 : Int32) (r : Int32) (S' : ST) (hm : bfX11_meet_130_169 x  S t0 = some (r, S')) : Agr wX11_meet_130 S S' := by
    unfold bfX11_meet_130_169 at hm
    cases hm
    exact Agr.rf
set_option maxHeartbeats 4000000 in
set_option maxRecDepth 20000 in
theorem fbX11_meet_130_162 (x : XT)  (S : ST) (v4 : Int32) (r : Int32) (S' : ST) (hm : bfX11_meet_130_162 x  S v4 = some (r, S')) : Agr wX11_meet_130 S S' := by
    unfold bfX11_meet_130_162 at hm
    exact Agr.tr Agr.rf (fbX11_meet_130_169 x  S v4 _ _ hm)
set_option maxHeartbeats 4000000 in
set_option maxRecDepth 20000 in
theorem fbX11_meet_130_146 (x : XT) (k102 : ST → Int32 → Int32 → Int32 → Int32 → Option (Int32 × ST)) (ak102 : ∀ (S : ST) (v3 : Int32) (v4 : Int32) (v5 : Int32) (v6 : Int32) (r : Int32) (S' : ST), k102 S v3 v4 v5 v6 = some (r, S') → Agr wX11_meet_130 S S') (S : ST) (v3 : Int32) (v4 : Int32) (v5 : Int32) (v6 : Int32) (r : Int32) (S' : ST) (hm : bfX11_meet_130_146 x k102 S v3 v4 v5 v6 = some (r, S')) : Agr wX11_meet_130 S S' := by
    unfold bfX11_meet_130_146 at hm
    exact Agr.tr Agr.rf (ak102 S v3 v4 v5 (v6 + 1) _ _ hm)
set_option maxHeartbeats 4000000 in
set_option maxRecDepth 20000 in
theorem fbX11_meet_130_102 (x : XT) (k102 : ST → Int32 → Int32 → Int32 → Int32 → Option (Int32 × ST)) (ak102 : ∀ (S : ST) (v3 : Int32) (v4 : Int32) (v5 : Int32) (v6 : Int32) (r : Int32) (S' : ST), k102 S v3 v4 v5 v6 = some (r, S') → Agr wX11_meet_130 S S') (S : ST) (v3 : Int32) (v4 : Int32) (v5 : Int32) (v6 : Int32) (r : Int32) (S' : ST) (hm : bfX11_meet_130_102 x k102 S v3 v4 v5 v6 = some (r, S')) : Agr wX11_meet_130 S S' := by
    unfold bfX11_meet_130_102 at hm
    by_cases c1 : 120 ≤ v6
    · rw [if_pos c1] at hm
      by_cases c2 : v4 = (-1)
      · rw [if_pos c2] at hm
        exact Agr.tr Agr.rf (fbX11_meet_130_162 x  S v4 _ _ hm)
      · rw [if_neg c2] at hm
        by_cases c3 : ¬ v3 = 0
        · rw [if_pos c3] at hm
          exact Agr.tr Agr.rf (fbX11_meet_130_169 x  S v5 _ _ hm)
        · rw [if_neg c3] at hm
          exact Agr.tr Agr.rf (fbX11_meet_130_162 x  S v4 _ _ hm)
    · rw [if_neg c1] at hm
      obtain ⟨o4, hm⟩ := oblk hm
      obtain ⟨o5, hm⟩ := oblk hm
      cases h6 : gfX11_greater x S (S.2.1 153 v6.toNatClampNeg) (S.2.1 148 v6.toNatClampNeg) with
      | none => rw [h6] at hm; cases hm
      | some q7 =>
        obtain ⟨r8, S9⟩ := q7
        rw [h6] at hm
        dsimp only at hm
        have a_S9 : Agr wX11_meet_130 S S9 := Agr.tr Agr.rf (Agr.sub (frX11_greater x S (S.2.1 153 v6.toNatClampNeg) (S.2.1 148 v6.toNatClampNeg) _ _ h6) (by decide))
        by_cases c10 : r8 < v5
        · rw [if_pos c10] at hm
          exact Agr.tr a_S9 (fbX11_meet_130_146 x k102 ak102 S9 v3 v6 r8 v6 _ _ hm)
        · rw [if_neg c10] at hm
          exact Agr.tr a_S9 (fbX11_meet_130_146 x k102 ak102 S9 v3 v4 v5 v6 _ _ hm)
theorem flX11_meet_130_102 (x : XT)  : ∀ (n : Nat) (S : ST) (v3 : Int32) (v4 : Int32) (v5 : Int32) (v6 : Int32) (r : Int32) (S' : ST), lfX11_meet_130_102 x  n S v3 v4 v5 v6 = some (r, S') → Agr wX11_meet_130 S S'
  | 0, _, _, _, _, _, _, _, hm => by cases hm
  | n + 1, S, v3, v4, v5, v6, r, S', hm => fbX11_meet_130_102 x (lfX11_meet_130_102 x  n) (flX11_meet_130_102 x  n) S v3 v4 v5 v6 r S' hm
set_option maxHeartbeats 4000000 in
set_option maxRecDepth 20000 in
theorem fbX11_meet_130_50 (x : XT) (k50 : ST → Int32 → Int32 → Int32 → Option (Int32 × ST)) (ak50 : ∀ (S : ST) (v2 : Int32) (v3 : Int32) (v4 : Int32) (r : Int32) (S' : ST), k50 S v2 v3 v4 = some (r, S') → Agr wX11_meet_130 S S') (S : ST) (v2 : Int32) (v3 : Int32) (v4 : Int32) (r : Int32) (S' : ST) (hm : bfX11_meet_130_50 x k50 S v2 v3 v4 = some (r, S')) : Agr wX11_meet_130 S S' := by
    unfold bfX11_meet_130_50 at hm
    by_cases c1 : 120 ≤ v4
    · rw [if_pos c1] at hm
      cases h2 : gfX11_laysOut_130 x S v2 with
      | none => rw [h2] at hm; cases hm
      | some q3 =>
        obtain ⟨r4, S5⟩ := q3
        rw [h2] at hm
        dsimp only at hm
        have a_S5 : Agr wX11_meet_130 S S5 := Agr.tr Agr.rf (Agr.sub (frX11_laysOut_130 x S v2 _ _ h2) (by decide))
        cases h6 : gfX11_placeOf_130 x S5 v2 with
        | none => rw [h6] at hm; cases hm
        | some q7 =>
          obtain ⟨r8, S9⟩ := q7
          rw [h6] at hm
          dsimp only at hm
          have a_S9 : Agr wX11_meet_130 S S9 := Agr.tr a_S5 (Agr.sub (frX11_placeOf_130 x S5 v2 _ _ h6) (by decide))
          cases h10 : gfX11_laysGone_130 x S9 r8 0 with
          | none => rw [h10] at hm; cases hm
          | some q11 =>
            obtain ⟨r12, S13⟩ := q11
            rw [h10] at hm
            dsimp only at hm
            have a_S13 : Agr wX11_meet_130 S S13 := Agr.tr a_S9 (Agr.sub (frX11_laysGone_130 x S9 r8 0 _ _ h10) (by decide))
            exact Agr.tr a_S13 (flX11_meet_130_102 x  20000 S13 v3 (-1) 1000000 0 _ _ hm)
    · rw [if_neg c1] at hm
      obtain ⟨o14, hm⟩ := oblk hm
      obtain ⟨o15, hm⟩ := oblk hm
      exact Agr.tr (Agr.i Agr.rf 153 v4.toNatClampNeg (S.2.1 148 v4.toNatClampNeg) (by decide)) (ak50 (S.1, (u2 S.2.1 153 v4.toNatClampNeg (S.2.1 148 v4.toNatClampNeg)), S.2.2.1, S.2.2.2) v2 v3 (v4 + 1) _ _ hm)
theorem flX11_meet_130_50 (x : XT)  : ∀ (n : Nat) (S : ST) (v2 : Int32) (v3 : Int32) (v4 : Int32) (r : Int32) (S' : ST), lfX11_meet_130_50 x  n S v2 v3 v4 = some (r, S') → Agr wX11_meet_130 S S'
  | 0, _, _, _, _, _, _, hm => by cases hm
  | n + 1, S, v2, v3, v4, r, S', hm => fbX11_meet_130_50 x (lfX11_meet_130_50 x  n) (flX11_meet_130_50 x  n) S v2 v3 v4 r S' hm
set_option maxHeartbeats 4000000 in
set_option maxRecDepth 20000 in
theorem fbX11_meet_130_0 (x : XT)  (S : ST) (p1 : Int32) (p2 : Int32) (p3 : Int32) (r : Int32) (S' : ST) (hm : bfX11_meet_130_0 x  S p1 p2 p3 = some (r, S')) : Agr wX11_meet_130 S S' := by
    unfold bfX11_meet_130_0 at hm
    cases h1 : gfX11_isGoer_130 x S p1 with
    | none => rw [h1] at hm; cases hm
    | some q2 =>
      obtain ⟨r3, S4⟩ := q2
      rw [h1] at hm
      dsimp only at hm
      have a_S4 : Agr wX11_meet_130 S S4 := Agr.tr Agr.rf (Agr.sub (frX11_isGoer_130 x S p1 _ _ h1) (by decide))
      by_cases c5 : r3 = 0
      · rw [if_pos c5] at hm
        exact Agr.tr a_S4 (fbX11_meet_130_30 x  S4 _ _ hm)
      · rw [if_neg c5] at hm
        cases h6 : gfX11_isGoer_130 x S4 p2 with
        | none => rw [h6] at hm; cases hm
        | some q7 =>
          obtain ⟨r8, S9⟩ := q7
          rw [h6] at hm
          dsimp only at hm
          have a_S9 : Agr wX11_meet_130 S S9 := Agr.tr a_S4 (Agr.sub (frX11_isGoer_130 x S4 p2 _ _ h6) (by decide))
          by_cases c10 : r8 = 0
          · rw [if_pos c10] at hm
            exact Agr.tr a_S9 (fbX11_meet_130_30 x  S9 _ _ hm)
          · rw [if_neg c10] at hm
            by_cases c11 : p1 = p2
            · rw [if_pos c11] at hm
              exact Agr.tr a_S9 (fbX11_meet_130_30 x  S9 _ _ hm)
            · rw [if_neg c11] at hm
              cases h12 : gfX11_lies x S9 p3 0 1 with
              | none => rw [h12] at hm; cases hm
              | some q13 =>
                obtain ⟨r14, S15⟩ := q13
                rw [h12] at hm
                dsimp only at hm
                have a_S15 : Agr wX11_meet_130 S S15 := Agr.tr a_S9 (Agr.sub (frX11_lies x S9 p3 0 1 _ _ h12) (by decide))
                by_cases c16 : ¬ r14 = 0
                · rw [if_pos c16] at hm
                  cases h17 : gfX11_laysOut_130 x S15 p1 with
                  | none => rw [h17] at hm; cases hm
                  | some q18 =>
                    obtain ⟨r19, S20⟩ := q18
                    rw [h17] at hm
                    dsimp only at hm
                    have a_S20 : Agr wX11_meet_130 S S20 := Agr.tr a_S15 (Agr.sub (frX11_laysOut_130 x S15 p1 _ _ h17) (by decide))
                    cases h21 : gfX11_placeOf_130 x S20 p1 with
                    | none => rw [h21] at hm; cases hm
                    | some q22 =>
                      obtain ⟨r23, S24⟩ := q22
                      rw [h21] at hm
                      dsimp only at hm
                      have a_S24 : Agr wX11_meet_130 S S24 := Agr.tr a_S20 (Agr.sub (frX11_placeOf_130 x S20 p1 _ _ h21) (by decide))
                      cases h25 : gfX11_laysGone_130 x S24 r23 0 with
                      | none => rw [h25] at hm; cases hm
                      | some q26 =>
                        obtain ⟨r27, S28⟩ := q26
                        rw [h25] at hm
                        dsimp only at hm
                        have a_S28 : Agr wX11_meet_130 S S28 := Agr.tr a_S24 (Agr.sub (frX11_laysGone_130 x S24 r23 0 _ _ h25) (by decide))
                        exact Agr.tr a_S28 (flX11_meet_130_50 x  20000 S28 p2 p3 0 _ _ hm)
                · rw [if_neg c16] at hm
                  exact Agr.tr a_S15 (fbX11_meet_130_30 x  S15 _ _ hm)
theorem frX11_meet_130 (x : XT) (S : ST) (p1 : Int32) (p2 : Int32) (p3 : Int32) (r : Int32) (S' : ST) (hm : gfX11_meet_130 x S p1 p2 p3 = some (r, S')) : Agr wX11_meet_130 S S' := fbX11_meet_130_0 x S p1 p2 p3 r S' hm
end FRA
