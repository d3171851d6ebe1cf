section FRA
def wX11_readTest_130 : List (Nat × Nat) × List Nat × List Nat × List Nat := ([(130, 19), (130, 20), (130, 21)], [], [], [])
set_option maxHeartbeats 4000000 in
set_option maxRecDepth 20000 in
theorem fbX11_readTest_130_5 (x : XT) (rec_X11_readTest : ST → Int32 → Option (Unit × ST)) (arec_X11_readTest : ∀ (S : ST) (z0 : Int32) (r : Unit) (S' : ST), rec_X11_readTest S z0 = some (r, S') → Agr wX11_readTest_130 S S') (rec_X11_readBoth : ST → Int32 → Option (Unit × ST)) (arec_X11_readBoth : ∀ (S : ST) (z0 : Int32) (r : Unit) (S' : ST), rec_X11_readBoth S z0 = some (r, S') → Agr wX11_readTest_130 S S') (rec_X11_readPlain : ST → Int32 → Option (Unit × ST)) (arec_X11_readPlain : ∀ (S : ST) (z0 : Int32) (r : Unit) (S' : ST), rec_X11_readPlain S z0 = some (r, S') → Agr wX11_readTest_130 S S') (k5 : ST → Int32 → Option (Unit × ST)) (ak5 : ∀ (S : ST) (v1 : Int32) (r : Unit) (S' : ST), k5 S v1 = some (r, S') → Agr wX11_readTest_130 S S') (S : ST) (v1 : Int32) (r : Unit) (S' : ST) (hm : bfX11_readTest_130_5 x rec_X11_readTest rec_X11_readBoth rec_X11_readPlain k5 S v1 = some (r, S')) : Agr wX11_readTest_130 S S' := by
    unfold bfX11_readTest_130_5 at hm
    cases h1 : gfX11_takes0_130 x S 5 with
    | none => rw [h1] at hm; cases hm
    | some q2 =>
      obtain ⟨r3, S4⟩ := q2
      rw [h1] at hm
      dsimp only at hm
      have a_S4 : Agr wX11_readTest_130 S S4 := Agr.tr Agr.rf (Agr.sub (frX11_takes0_130 x S 5 _ _ h1) (by decide))
      by_cases c5 : r3 = 0
      · rw [if_pos c5] at hm
        cases hm
        exact a_S4
      · rw [if_neg c5] at hm
        cases h6 : rec_X11_readBoth S4 v1 with
        | none => rw [h6] at hm; cases hm
        | some q7 =>
          obtain ⟨r8, S9⟩ := q7
          rw [h6] at hm
          dsimp only at hm
          have a_S9 : Agr wX11_readTest_130 S S9 := Agr.tr a_S4 (arec_X11_readBoth S4 v1 _ _ h6)
          exact Agr.tr a_S9 (ak5 S9 v1 _ _ hm)
theorem flX11_readTest_130_5 (x : XT) (rec_X11_readTest : ST → Int32 → Option (Unit × ST)) (arec_X11_readTest : ∀ (S : ST) (z0 : Int32) (r : Unit) (S' : ST), rec_X11_readTest S z0 = some (r, S') → Agr wX11_readTest_130 S S') (rec_X11_readBoth : ST → Int32 → Option (Unit × ST)) (arec_X11_readBoth : ∀ (S : ST) (z0 : Int32) (r : Unit) (S' : ST), rec_X11_readBoth S z0 = some (r, S') → Agr wX11_readTest_130 S S') (rec_X11_readPlain : ST → Int32 → Option (Unit × ST)) (arec_X11_readPlain : ∀ (S : ST) (z0 : Int32) (r : Unit) (S' : ST), rec_X11_readPlain S z0 = some (r, S') → Agr wX11_readTest_130 S S')  : ∀ (n : Nat) (S : ST) (v1 : Int32) (r : Unit) (S' : ST), lfX11_readTest_130_5 x rec_X11_readTest rec_X11_readBoth rec_X11_readPlain  n S v1 = some (r, S') → Agr wX11_readTest_130 S S'
  | 0, _, _, _, _, hm => by cases hm
  | n + 1, S, v1, r, S', hm => fbX11_readTest_130_5 x rec_X11_readTest arec_X11_readTest rec_X11_readBoth arec_X11_readBoth rec_X11_readPlain arec_X11_readPlain (lfX11_readTest_130_5 x rec_X11_readTest rec_X11_readBoth rec_X11_readPlain  n) (flX11_readTest_130_5 x rec_X11_readTest arec_X11_readTest rec_X11_readBoth arec_X11_readBoth rec_X11_readPlain arec_X11_readPlain  n) S v1 r S' hm
set_option maxHeartbeats 4000000 in
set_option maxRecDepth 20000 in
theorem fbX11_readTest_130_0 (x : XT) (rec_X11_readTest : ST → Int32 → Option (Unit × ST)) (arec_X11_readTest : ∀ (S : ST) (z0 : Int32) (r : Unit) (S' : ST), rec_X11_readTest S z0 = some (r, S') → Agr wX11_readTest_130 S S') (rec_X11_readBoth : ST → Int32 → Option (Unit × ST)) (arec_X11_readBoth : ∀ (S : ST) (z0 : Int32) (r : Unit) (S' : ST), rec_X11_readBoth S z0 = some (r, S') → Agr wX11_readTest_130 S S') (rec_X11_readPlain : ST → Int32 → Option (Unit × ST)) (arec_X11_readPlain : ∀ (S : ST) (z0 : Int32) (r : Unit) (S' : ST), rec_X11_readPlain S z0 = some (r, S') → Agr wX11_readTest_130 S S')  (S : ST) (p1 : Int32) (r : Unit) (S' : ST) (hm : bfX11_readTest_130_0 x rec_X11_readTest rec_X11_readBoth rec_X11_readPlain  S p1 = some (r, S')) : Agr wX11_readTest_130 S S' := by
    unfold bfX11_readTest_130_0 at hm
    cases h1 : rec_X11_readBoth S p1 with
    | none => rw [h1] at hm; cases hm
    | some q2 =>
      obtain ⟨r3, S4⟩ := q2
      rw [h1] at hm
      dsimp only at hm
      have a_S4 : Agr wX11_readTest_130 S S4 := Agr.tr Agr.rf (arec_X11_readBoth S p1 _ _ h1)
      exact Agr.tr a_S4 (flX11_readTest_130_5 x rec_X11_readTest arec_X11_readTest rec_X11_readBoth arec_X11_readBoth rec_X11_readPlain arec_X11_readPlain  20000 S4 p1 _ _ hm)
theorem frrX11_readTest_130 (x : XT) (rec_X11_readTest : ST → Int32 → Option (Unit × ST)) (arec_X11_readTest : ∀ (S : ST) (z0 : Int32) (r : Unit) (S' : ST), rec_X11_readTest S z0 = some (r, S') → Agr wX11_readTest_130 S S') (rec_X11_readBoth : ST → Int32 → Option (Unit × ST)) (arec_X11_readBoth : ∀ (S : ST) (z0 : Int32) (r : Unit) (S' : ST), rec_X11_readBoth S z0 = some (r, S') → Agr wX11_readTest_130 S S') (rec_X11_readPlain : ST → Int32 → Option (Unit × ST)) (arec_X11_readPlain : ∀ (S : ST) (z0 : Int32) (r : Unit) (S' : ST), rec_X11_readPlain S z0 = some (r, S') → Agr wX11_readTest_130 S S') (S : ST) (p1 : Int32) (r : Unit) (S' : ST) (hm : grfX11_readTest_130 x rec_X11_readTest rec_X11_readBoth rec_X11_readPlain S p1 = some (r, S')) : Agr wX11_readTest_130 S S' := fbX11_readTest_130_0 x rec_X11_readTest arec_X11_readTest rec_X11_readBoth arec_X11_readBoth rec_X11_readPlain arec_X11_readPlain S p1 r S' hm
set_option maxHeartbeats 4000000 in
set_option maxRecDepth 20000 in
theorem fbX11_readBoth_130_5 (x : XT) (rec_X11_readTest : ST → Int32 → Option (Unit × ST)) (arec_X11_readTest : ∀ (S : ST) (z0 : Int32) (r : Unit) (S' : ST), rec_X11_readTest S z0 = some (r, S') → Agr wX11_readTest_130 S S') (rec_X11_readBoth : ST → Int32 → Option (Unit × ST)) (arec_X11_readBoth : ∀ (S : ST) (z0 : Int32) (r : Unit) (S' : ST), rec_X11_readBoth S z0 = some (r, S') → Agr wX11_readTest_130 S S') (rec_X11_readPlain : ST → Int32 → Option (Unit × ST)) (arec_X11_readPlain : ∀ (S : ST) (z0 : Int32) (r : Unit) (S' : ST), rec_X11_readPlain S z0 = some (r, S') → Agr wX11_readTest_130 S S') (k5 : ST → Int32 → Option (Unit × ST)) (ak5 : ∀ (S : ST) (v1 : Int32) (r : Unit) (S' : ST), k5 S v1 = some (r, S') → Agr wX11_readTest_130 S S') (S : ST) (v1 : Int32) (r : Unit) (S' : ST) (hm : bfX11_readBoth_130_5 x rec_X11_readTest rec_X11_readBoth rec_X11_readPlain k5 S v1 = some (r, S')) : Agr wX11_readTest_130 S S' := by
    unfold bfX11_readBoth_130_5 at hm
    cases h1 : gfX11_takes0_130 x S 6 with
    | none => rw [h1] at hm; cases hm
    | some q2 =>
      obtain ⟨r3, S4⟩ := q2
      rw [h1] at hm
      dsimp only at hm
      have a_S4 : Agr wX11_readTest_130 S S4 := Agr.tr Agr.rf (Agr.sub (frX11_takes0_130 x S 6 _ _ h1) (by decide))
      by_cases c5 : r3 = 0
      · rw [if_pos c5] at hm
        cases hm
        exact a_S4
      · rw [if_neg c5] at hm
        cases h6 : rec_X11_readPlain S4 v1 with
        | none => rw [h6] at hm; cases hm
        | some q7 =>
          obtain ⟨r8, S9⟩ := q7
          rw [h6] at hm
          dsimp only at hm
          have a_S9 : Agr wX11_readTest_130 S S9 := Agr.tr a_S4 (arec_X11_readPlain S4 v1 _ _ h6)
          exact Agr.tr a_S9 (ak5 S9 v1 _ _ hm)
theorem flX11_readBoth_130_5 (x : XT) (rec_X11_readTest : ST → Int32 → Option (Unit × ST)) (arec_X11_readTest : ∀ (S : ST) (z0 : Int32) (r : Unit) (S' : ST), rec_X11_readTest S z0 = some (r, S') → Agr wX11_readTest_130 S S') (rec_X11_readBoth : ST → Int32 → Option (Unit × ST)) (arec_X11_readBoth : ∀ (S : ST) (z0 : Int32) (r : Unit) (S' : ST), rec_X11_readBoth S z0 = some (r, S') → Agr wX11_readTest_130 S S') (rec_X11_readPlain : ST → Int32 → Option (Unit × ST)) (arec_X11_readPlain : ∀ (S : ST) (z0 : Int32) (r : Unit) (S' : ST), rec_X11_readPlain S z0 = some (r, S') → Agr wX11_readTest_130 S S')  : ∀ (n : Nat) (S : ST) (v1 : Int32) (r : Unit) (S' : ST), lfX11_readBoth_130_5 x rec_X11_readTest rec_X11_readBoth rec_X11_readPlain  n S v1 = some (r, S') → Agr wX11_readTest_130 S S'
  | 0, _, _, _, _, hm => by cases hm
  | n + 1, S, v1, r, S', hm => fbX11_readBoth_130_5 x rec_X11_readTest arec_X11_readTest rec_X11_readBoth arec_X11_readBoth rec_X11_readPlain arec_X11_readPlain (lfX11_readBoth_130_5 x rec_X11_readTest rec_X11_readBoth rec_X11_readPlain  n) (flX11_readBoth_130_5 x rec_X11_readTest arec_X11_readTest rec_X11_readBoth arec_X11_readBoth rec_X11_readPlain arec_X11_readPlain  n) S v1 r S' hm
set_option maxHeartbeats 4000000 in
set_option maxRecDepth 20000 in
theorem fbX11_readBoth_130_0 (x : XT) (rec_X11_readTest : ST → Int32 → Option (Unit × ST)) (arec_X11_readTest : ∀ (S : ST) (z0 : Int32) (r : Unit) (S' : ST), rec_X11_readTest S z0 = some (r, S') → Agr wX11_readTest_130 S S') (rec_X11_readBoth : ST → Int32 → Option (Unit × ST)) (arec_X11_readBoth : ∀ (S : ST) (z0 : Int32) (r : Unit) (S' : ST), rec_X11_readBoth S z0 = some (r, S') → Agr wX11_readTest_130 S S') (rec_X11_readPlain : ST → Int32 → Option (Unit × ST)) (arec_X11_readPlain : ∀ (S : ST) (z0 : Int32) (r : Unit) (S' : ST), rec_X11_readPlain S z0 = some (r, S') → Agr wX11_readTest_130 S S')  (S : ST) (p1 : Int32) (r : Unit) (S' : ST) (hm : bfX11_readBoth_130_0 x rec_X11_readTest rec_X11_readBoth rec_X11_readPlain  S p1 = some (r, S')) : Agr wX11_readTest_130 S S' := by
    unfold bfX11_readBoth_130_0 at hm
    cases h1 : rec_X11_readPlain S p1 with
    | none => rw [h1] at hm; cases hm
    | some q2 =>
      obtain ⟨r3, S4⟩ := q2
      rw [h1] at hm
      dsimp only at hm
      have a_S4 : Agr wX11_readTest_130 S S4 := Agr.tr Agr.rf (arec_X11_readPlain S p1 _ _ h1)
      exact Agr.tr a_S4 (flX11_readBoth_130_5 x rec_X11_readTest arec_X11_readTest rec_X11_readBoth arec_X11_readBoth rec_X11_readPlain arec_X11_readPlain  20000 S4 p1 _ _ hm)
theorem frrX11_readBoth_130 (x : XT) (rec_X11_readTest : ST → Int32 → Option (Unit × ST)) (arec_X11_readTest : ∀ (S : ST) (z0 : Int32) (r : Unit) (S' : ST), rec_X11_readTest S z0 = some (r, S') → Agr wX11_readTest_130 S S') (rec_X11_readBoth : ST → Int32 → Option (Unit × ST)) (arec_X11_readBoth : ∀ (S : ST) (z0 : Int32) (r : Unit) (S' : ST), rec_X11_readBoth S z0 = some (r, S') → Agr wX11_readTest_130 S S') (rec_X11_readPlain : ST → Int32 → Option (Unit × ST)) (arec_X11_readPlain : ∀ (S : ST) (z0 : Int32) (r : Unit) (S' : ST), rec_X11_readPlain S z0 = some (r, S') → Agr wX11_readTest_130 S S') (S : ST) (p1 : Int32) (r : Unit) (S' : ST) (hm : grfX11_readBoth_130 x rec_X11_readTest rec_X11_readBoth rec_X11_readPlain S p1 = some (r, S')) : Agr wX11_readTest_130 S S' := fbX11_readBoth_130_0 x rec_X11_readTest arec_X11_readTest rec_X11_readBoth arec_X11_readBoth rec_X11_readPlain arec_X11_readPlain S p1 r S' hm
set_option maxHeartbeats 4000000 in
set_option maxRecDepth 20000 in
theorem fbX11_readPlain_130_133 (x : XT) (rec_X11_readTest : ST → Int32 → Option (Unit × ST)) (arec_X11_readTest : ∀ (S : ST) (z0 : Int32) (r : Unit) (S' : ST), rec_X11_readTest S z0 = some (r, S') → Agr wX11_readTest_130 S S') (rec_X11_readBoth : ST → Int32 → Option (Unit × ST)) (arec_X11_readBoth : ∀ (S : ST) (z0 : Int32) (r : Unit) (S' : ST), rec_X11_readBoth S z0 = some (r, S') → Agr wX11_readTest_130 S S') (rec_X11_readPlain : ST → Int32 → Option (Unit × ST)) (arec_X11_readPlain : ∀ (S : ST) (z0 : Int32) (r : Unit) (S' : ST), rec_X11_readPlain S z0 = some (r, S') → Agr wX11_readTest_130 S S')  (S : ST)  (r : Unit) (S' : ST) (hm : bfX11_readPlain_130_133 x rec_X11_readTest rec_X11_readBoth rec_X11_readPlain  S  = some (r, S')) : Agr wX11_readTest_130 S S' := by
    unfold bfX11_readPlain_130_133 at hm
    cases hm
    exact Agr.rf
set_option maxHeartbeats 4000000 in
set_option maxRecDepth 20000 in
theorem fbX11_readPlain_130_128 (x : XT) (rec_X11_readTest : ST → Int32 → Option (Unit × ST)) (arec_X11_readTest : ∀ (S : ST) (z0 : Int32) (r : Unit) (S' : ST), rec_X11_readTest S z0 = some (r, S') → Agr wX11_readTest_130 S S') (rec_X11_readBoth : ST → Int32 → Option (Unit × ST)) (arec_X11_readBoth : ∀ (S : ST) (z0 : Int32) (r : Unit) (S' : ST), rec_X11_readBoth S z0 = some (r, S') → Agr wX11_readTest_130 S S') (rec_X11_readPlain : ST → Int32 → Option (Unit × ST)) (arec_X11_readPlain : ∀ (S : ST) (z0 : Int32) (r : Unit) (S' : ST), rec_X11_readPlain S z0 = some (r, S') → Agr wX11_readTest_130 S S')  (S : ST) (v1 : Int32) (r : Unit) (S' : ST) (hm : bfX11_readPlain_130_128 x rec_X11_readTest rec_X11_readBoth rec_X11_readPlain  S v1 = some (r, S')) : Agr wX11_readTest_130 S S' := by
    unfold bfX11_readPlain_130_128 at hm
    cases h1 : gfX11_readSum_130 x S v1 with
    | none => rw [h1] at hm; cases hm
    | some q2 =>
      obtain ⟨r3, S4⟩ := q2
      rw [h1] at hm
      dsimp only at hm
      have a_S4 : Agr wX11_readTest_130 S S4 := Agr.tr Agr.rf (Agr.sub (frX11_readSum_130 x S v1 _ _ h1) (by decide))
      exact Agr.tr a_S4 (fbX11_readPlain_130_133 x rec_X11_readTest arec_X11_readTest rec_X11_readBoth arec_X11_readBoth rec_X11_readPlain arec_X11_readPlain  S4 _ _ hm)
set_option maxHeartbeats 4000000 in
set_option maxRecDepth 20000 in
theorem fbX11_readPlain_130_53 (x : XT) (rec_X11_readTest : ST → Int32 → Option (Unit × ST)) (arec_X11_readTest : ∀ (S : ST) (z0 : Int32) (r : Unit) (S' : ST), rec_X11_readTest S z0 = some (r, S') → Agr wX11_readTest_130 S S') (rec_X11_readBoth : ST → Int32 → Option (Unit × ST)) (arec_X11_readBoth : ∀ (S : ST) (z0 : Int32) (r : Unit) (S' : ST), rec_X11_readBoth S z0 = some (r, S') → Agr wX11_readTest_130 S S') (rec_X11_readPlain : ST → Int32 → Option (Unit × ST)) (arec_X11_readPlain : ∀ (S : ST) (z0 : Int32) (r : Unit) (S' : ST), rec_X11_readPlain S z0 = some (r, S') → Agr wX11_readTest_130 S S')  (S : ST) (v1 : Int32) (r : Unit) (S' : ST) (hm : bfX11_readPlain_130_53 x rec_X11_readTest rec_X11_readBoth rec_X11_readPlain  S v1 = some (r, S')) : Agr wX11_readTest_130 S S' := by
    unfold bfX11_readPlain_130_53 at hm
    cases h1 : gfX11_fine_130 x S with
    | none => rw [h1] at hm; cases hm
    | some q2 =>
      obtain ⟨r3, S4⟩ := q2
      rw [h1] at hm
      dsimp only at hm
      have a_S4 : Agr wX11_readTest_130 S S4 := Agr.tr Agr.rf (Agr.sub (frX11_fine_130 x S _ _ h1) (by decide))
      by_cases c5 : ¬ r3 = 0
      · rw [if_pos c5] at hm
        cases h6 : rec_X11_readTest ((u2 S4.1 130 19 ((S4.1 130 19) + 1)), S4.2.1, S4.2.2.1, S4.2.2.2) (v1 + 1) with
        | none => rw [h6] at hm; cases hm
        | some q7 =>
          obtain ⟨r8, S9⟩ := q7
          rw [h6] at hm
          dsimp only at hm
          have a_S9 : Agr wX11_readTest_130 S S9 := Agr.tr (Agr.f a_S4 130 19 ((S4.1 130 19) + 1) (by decide)) (arec_X11_readTest ((u2 S4.1 130 19 ((S4.1 130 19) + 1)), S4.2.1, S4.2.2.1, S4.2.2.2) (v1 + 1) _ _ h6)
          cases h10 : gfX11_sign x S9 41 with
          | none => rw [h10] at hm; cases hm
          | some q11 =>
            obtain ⟨r12, S13⟩ := q11
            rw [h10] at hm
            dsimp only at hm
            have a_S13 : Agr wX11_readTest_130 S S13 := Agr.tr a_S9 (Agr.sub (frX11_sign x S9 41 _ _ h10) (by decide))
            cases h14 : gfX11_must_130 x S13 r12 with
            | none => rw [h14] at hm; cases hm
            | some q15 =>
              obtain ⟨r16, S17⟩ := q15
              rw [h14] at hm
              dsimp only at hm
              have a_S17 : Agr wX11_readTest_130 S S17 := Agr.tr a_S13 (Agr.sub (frX11_must_130 x S13 r12 _ _ h14) (by decide))
              exact Agr.tr a_S17 (fbX11_readPlain_130_133 x rec_X11_readTest arec_X11_readTest rec_X11_readBoth arec_X11_readBoth rec_X11_readPlain arec_X11_readPlain  S17 _ _ hm)
      · rw [if_neg c5] at hm
        cases hm
        exact a_S4
set_option maxHeartbeats 4000000 in
set_option maxRecDepth 20000 in
theorem fbX11_readPlain_130_2 (x : XT) (rec_X11_readTest : ST → Int32 → Option (Unit × ST)) (arec_X11_readTest : ∀ (S : ST) (z0 : Int32) (r : Unit) (S' : ST), rec_X11_readTest S z0 = some (r, S') → Agr wX11_readTest_130 S S') (rec_X11_readBoth : ST → Int32 → Option (Unit × ST)) (arec_X11_readBoth : ∀ (S : ST) (z0 : Int32) (r : Unit) (S' : ST), rec_X11_readBoth S z0 = some (r, S') → Agr wX11_readTest_130 S S') (rec_X11_readPlain : ST → Int32 → Option (Unit × ST)) (arec_X11_readPlain : ∀ (S : ST) (z0 : Int32) (r : Unit) (S' : ST), rec_X11_readPlain S z0 = some (r, S') → Agr wX11_readTest_130 S S') (k2 : ST → Int32 → Int32 → Option (Unit × ST)) (ak2 : ∀ (S : ST) (v1 : Int32) (v2 : Int32) (r : Unit) (S' : ST), k2 S v1 v2 = some (r, S') → Agr wX11_readTest_130 S S') (S : ST) (v1 : Int32) (v2 : Int32) (r : Unit) (S' : ST) (hm : bfX11_readPlain_130_2 x rec_X11_readTest rec_X11_readBoth rec_X11_readPlain k2 S v1 v2 = some (r, S')) : Agr wX11_readTest_130 S S' := by
    unfold bfX11_readPlain_130_2 at hm
    by_cases c1 : v2 = 0
    · rw [if_pos c1] at hm
      cases h2 : gfX11_fine_130 x S with
      | none => rw [h2] at hm; cases hm
      | some q3 =>
        obtain ⟨r4, S5⟩ := q3
        rw [h2] at hm
        dsimp only at hm
        have a_S5 : Agr wX11_readTest_130 S S5 := Agr.tr Agr.rf (Agr.sub (frX11_fine_130 x S _ _ h2) (by decide))
        by_cases c6 : ¬ r4 = 0
        · rw [if_pos c6] at hm
          obtain ⟨o7, hm⟩ := oblk hm
          cases h8 : gfX11_sign x S5 40 with
          | none => rw [h8] at hm; cases hm
          | some q9 =>
            obtain ⟨r10, S11⟩ := q9
            rw [h8] at hm
            dsimp only at hm
            have a_S11 : Agr wX11_readTest_130 S S11 := Agr.tr a_S5 (Agr.sub (frX11_sign x S5 40 _ _ h8) (by decide))
            by_cases c12 : ¬ (S5.2.1 139 ((S5.1 130 19).toNatClampNeg)) = r10
            · rw [if_pos c12] at hm
              cases h13 : gfX11_readSum_130 x S11 v1 with
              | none => rw [h13] at hm; cases hm
              | some q14 =>
                obtain ⟨r15, S16⟩ := q14
                rw [h13] at hm
                dsimp only at hm
                have a_S16 : Agr wX11_readTest_130 S S16 := Agr.tr a_S11 (Agr.sub (frX11_readSum_130 x S11 v1 _ _ h13) (by decide))
                cases h17 : gfX11_sign x S16 60 with
                | none => rw [h17] at hm; cases hm
                | some q18 =>
                  obtain ⟨r19, S20⟩ := q18
                  rw [h17] at hm
                  dsimp only at hm
                  have a_S20 : Agr wX11_readTest_130 S S20 := Agr.tr a_S16 (Agr.sub (frX11_sign x S16 60 _ _ h17) (by decide))
                  cases h21 : gfX11_takes0_130 x S20 r19 with
                  | none => rw [h21] at hm; cases hm
                  | some q22 =>
                    obtain ⟨r23, S24⟩ := q22
                    rw [h21] at hm
                    dsimp only at hm
                    have a_S24 : Agr wX11_readTest_130 S S24 := Agr.tr a_S20 (Agr.sub (frX11_takes0_130 x S20 r19 _ _ h21) (by decide))
                    by_cases c25 : ¬ r23 = 0
                    · rw [if_pos c25] at hm
                      exact Agr.tr a_S24 (fbX11_readPlain_130_128 x rec_X11_readTest arec_X11_readTest rec_X11_readBoth arec_X11_readBoth rec_X11_readPlain arec_X11_readPlain  S24 v1 _ _ hm)
                    · rw [if_neg c25] at hm
                      cases h26 : gfX11_sign x S24 62 with
                      | none => rw [h26] at hm; cases hm
                      | some q27 =>
                        obtain ⟨r28, S29⟩ := q27
                        rw [h26] at hm
                        dsimp only at hm
                        have a_S29 : Agr wX11_readTest_130 S S29 := Agr.tr a_S24 (Agr.sub (frX11_sign x S24 62 _ _ h26) (by decide))
                        cases h30 : gfX11_takes0_130 x S29 r28 with
                        | none => rw [h30] at hm; cases hm
                        | some q31 =>
                          obtain ⟨r32, S33⟩ := q31
                          rw [h30] at hm
                          dsimp only at hm
                          have a_S33 : Agr wX11_readTest_130 S S33 := Agr.tr a_S29 (Agr.sub (frX11_takes0_130 x S29 r28 _ _ h30) (by decide))
                          by_cases c34 : ¬ r32 = 0
                          · rw [if_pos c34] at hm
                            exact Agr.tr a_S33 (fbX11_readPlain_130_128 x rec_X11_readTest arec_X11_readTest rec_X11_readBoth arec_X11_readBoth rec_X11_readPlain arec_X11_readPlain  S33 v1 _ _ hm)
                          · rw [if_neg c34] at hm
                            cases h35 : gfX11_sign x S33 61 with
                            | none => rw [h35] at hm; cases hm
                            | some q36 =>
                              obtain ⟨r37, S38⟩ := q36
                              rw [h35] at hm
                              dsimp only at hm
                              have a_S38 : Agr wX11_readTest_130 S S38 := Agr.tr a_S33 (Agr.sub (frX11_sign x S33 61 _ _ h35) (by decide))
                              cases h39 : gfX11_must_130 x S38 r37 with
                              | none => rw [h39] at hm; cases hm
                              | some q40 =>
                                obtain ⟨r41, S42⟩ := q40
                                rw [h39] at hm
                                dsimp only at hm
                                have a_S42 : Agr wX11_readTest_130 S S42 := Agr.tr a_S38 (Agr.sub (frX11_must_130 x S38 r37 _ _ h39) (by decide))
                                exact Agr.tr a_S42 (fbX11_readPlain_130_128 x rec_X11_readTest arec_X11_readTest rec_X11_readBoth arec_X11_readBoth rec_X11_readPlain arec_X11_readPlain  S42 v1 _ _ hm)
            · rw [if_neg c12] at hm
              by_cases c43 : ¬ v1 = 8
              · rw [if_pos c43] at hm
                exact Agr.tr a_S11 (fbX11_readPlain_130_53 x rec_X11_readTest arec_X11_readTest rec_X11_readBoth arec_X11_readBoth rec_X11_readPlain arec_X11_readPlain  S11 v1 _ _ hm)
              · rw [if_neg c43] at hm
                cases h44 : gfX11_faults_130 x S11 with
                | none => rw [h44] at hm; cases hm
                | some q45 =>
                  obtain ⟨r46, S47⟩ := q45
                  rw [h44] at hm
                  dsimp only at hm
                  have a_S47 : Agr wX11_readTest_130 S S47 := Agr.tr a_S11 (Agr.sub (frX11_faults_130 x S11 _ _ h44) (by decide))
                  exact Agr.tr a_S47 (fbX11_readPlain_130_53 x rec_X11_readTest arec_X11_readTest rec_X11_readBoth arec_X11_readBoth rec_X11_readPlain arec_X11_readPlain  S47 v1 _ _ hm)
        · rw [if_neg c6] at hm
          cases hm
          exact a_S5
    · rw [if_neg c1] at hm
      cases h48 : gfX11_takes0_130 x S 7 with
      | none => rw [h48] at hm; cases hm
      | some q49 =>
        obtain ⟨r50, S51⟩ := q49
        rw [h48] at hm
        dsimp only at hm
        have a_S51 : Agr wX11_readTest_130 S S51 := Agr.tr Agr.rf (Agr.sub (frX11_takes0_130 x S 7 _ _ h48) (by decide))
        exact Agr.tr a_S51 (ak2 S51 v1 r50 _ _ hm)
theorem flX11_readPlain_130_2 (x : XT) (rec_X11_readTest : ST → Int32 → Option (Unit × ST)) (arec_X11_readTest : ∀ (S : ST) (z0 : Int32) (r : Unit) (S' : ST), rec_X11_readTest S z0 = some (r, S') → Agr wX11_readTest_130 S S') (rec_X11_readBoth : ST → Int32 → Option (Unit × ST)) (arec_X11_readBoth : ∀ (S : ST) (z0 : Int32) (r : Unit) (S' : ST), rec_X11_readBoth S z0 = some (r, S') → Agr wX11_readTest_130 S S') (rec_X11_readPlain : ST → Int32 → Option (Unit × ST)) (arec_X11_readPlain : ∀ (S : ST) (z0 : Int32) (r : Unit) (S' : ST), rec_X11_readPlain S z0 = some (r, S') → Agr wX11_readTest_130 S S')  : ∀ (n : Nat) (S : ST) (v1 : Int32) (v2 : Int32) (r : Unit) (S' : ST), lfX11_readPlain_130_2 x rec_X11_readTest rec_X11_readBoth rec_X11_readPlain  n S v1 v2 = some (r, S') → Agr wX11_readTest_130 S S'
  | 0, _, _, _, _, _, hm => by cases hm
  | n + 1, S, v1, v2, r, S', hm => fbX11_readPlain_130_2 x rec_X11_readTest arec_X11_readTest rec_X11_readBoth arec_X11_readBoth rec_X11_readPlain arec_X11_readPlain (lfX11_readPlain_130_2 x rec_X11_readTest rec_X11_readBoth rec_X11_readPlain  n) (flX11_readPlain_130_2 x rec_X11_readTest arec_X11_readTest rec_X11_readBoth arec_X11_readBoth rec_X11_readPlain arec_X11_readPlain  n) S v1 v2 r S' hm
set_option maxHeartbeats 4000000 in
set_option maxRecDepth 20000 in
theorem fbX11_readPlain_130_0 (x : XT) (rec_X11_readTest : ST → Int32 → Option (Unit × ST)) (arec_X11_readTest : ∀ (S : ST) (z0 : Int32) (r : Unit) (S' : ST), rec_X11_readTest S z0 = some (r, S') → Agr wX11_readTest_130 S S') (rec_X11_readBoth : ST → Int32 → Option (Unit × ST)) (arec_X11_readBoth : ∀ (S : ST) (z0 : Int32) (r : Unit) (S' : ST), rec_X11_readBoth S z0 = some (r, S') → Agr wX11_readTest_130 S S') (rec_X11_readPlain : ST → Int32 → Option (Unit × ST)) (arec_X11_readPlain : ∀ (S : ST) (z0 : Int32) (r : Unit) (S' : ST), rec_X11_readPlain S z0 = some (r, S') → Agr wX11_readTest_130 S S')  (S : ST) (p1 : Int32) (r : Unit) (S' : ST) (hm : bfX11_readPlain_130_0 x rec_X11_readTest rec_X11_readBoth rec_X11_readPlain  S p1 = some (r, S')) : Agr wX11_readTest_130 S S' := by
    unfold bfX11_readPlain_130_0 at hm
    exact Agr.tr Agr.rf (flX11_readPlain_130_2 x rec_X11_readTest arec_X11_readTest rec_X11_readBoth arec_X11_readBoth rec_X11_readPlain arec_X11_readPlain  20000 S p1 1 _ _ hm)
theorem frrX11_readPlain_130 (x : XT) (rec_X11_readTest : ST → Int32 → Option (Unit × ST)) (arec_X11_readTest : ∀ (S : ST) (z0 : Int32) (r : Unit) (S' : ST), rec_X11_readTest S z0 = some (r, S') → Agr wX11_readTest_130 S S') (rec_X11_readBoth : ST → Int32 → Option (Unit × ST)) (arec_X11_readBoth : ∀ (S : ST) (z0 : Int32) (r : Unit) (S' : ST), rec_X11_readBoth S z0 = some (r, S') → Agr wX11_readTest_130 S S') (rec_X11_readPlain : ST → Int32 → Option (Unit × ST)) (arec_X11_readPlain : ∀ (S : ST) (z0 : Int32) (r : Unit) (S' : ST), rec_X11_readPlain S z0 = some (r, S') → Agr wX11_readTest_130 S S') (S : ST) (p1 : Int32) (r : Unit) (S' : ST) (hm : grfX11_readPlain_130 x rec_X11_readTest rec_X11_readBoth rec_X11_readPlain S p1 = some (r, S')) : Agr wX11_readTest_130 S S' := fbX11_readPlain_130_0 x rec_X11_readTest arec_X11_readTest rec_X11_readBoth arec_X11_readBoth rec_X11_readPlain arec_X11_readPlain S p1 r S' hm
theorem frqX11_readTest_130 (x : XT) (n : Nat) : (∀ (S : ST) (a b : Int32) (r : Unit) (S' : ST), gqX11_readTest_130 x n 0 S a b = some (r, S') → Agr wX11_readTest_130 S S') ∧ (∀ (S : ST) (a b : Int32) (r : Unit) (S' : ST), gqX11_readTest_130 x n 1 S a b = some (r, S') → Agr wX11_readTest_130 S S') ∧ (∀ (S : ST) (a b : Int32) (r : Unit) (S' : ST), gqX11_readTest_130 x n 2 S a b = some (r, S') → Agr wX11_readTest_130 S S') := by
  induction n with
  | zero => exact ⟨(fun _ _ _ _ _ hm => (by cases hm)), (fun _ _ _ _ _ hm => (by cases hm)), (fun _ _ _ _ _ hm => (by cases hm))⟩
  | succ n ih =>
    refine ⟨?_, ?_, ?_⟩
    · intro S a b r S' hm
      rw [gqX11_readTest_130] at hm
      rw [show Nat.beq 0 0 = true from rfl, cond_true] at hm
      exact frrX11_readTest_130 x (fun S z0 => gqX11_readTest_130 x n 0 S z0 0) (fun S z0 r S' h => ih.1 S z0 0 r S' h) (fun S z0 => gqX11_readTest_130 x n 1 S z0 0) (fun S z0 r S' h => ih.2.1 S z0 0 r S' h) (fun S z0 => gqX11_readTest_130 x n 2 S z0 0) (fun S z0 r S' h => ih.2.2 S z0 0 r S' h) S a r S' hm
    · intro S a b r S' hm
      rw [gqX11_readTest_130] at hm
      rw [show Nat.beq 1 0 = false from rfl, cond_false, show Nat.beq 1 1 = true from rfl, cond_true] at hm
      exact frrX11_readBoth_130 x (fun S z0 => gqX11_readTest_130 x n 0 S z0 0) (fun S z0 r S' h => ih.1 S z0 0 r S' h) (fun S z0 => gqX11_readTest_130 x n 1 S z0 0) (fun S z0 r S' h => ih.2.1 S z0 0 r S' h) (fun S z0 => gqX11_readTest_130 x n 2 S z0 0) (fun S z0 r S' h => ih.2.2 S z0 0 r S' h) S a r S' hm
    · intro S a b r S' hm
      rw [gqX11_readTest_130] at hm
      rw [show Nat.beq 2 0 = false from rfl, cond_false, show Nat.beq 2 1 = false from rfl, cond_false, show Nat.beq 2 2 = true from rfl, cond_true] at hm
      exact frrX11_readPlain_130 x (fun S z0 => gqX11_readTest_130 x n 0 S z0 0) (fun S z0 r S' h => ih.1 S z0 0 r S' h) (fun S z0 => gqX11_readTest_130 x n 1 S z0 0) (fun S z0 r S' h => ih.2.1 S z0 0 r S' h) (fun S z0 => gqX11_readTest_130 x n 2 S z0 0) (fun S z0 r S' h => ih.2.2 S z0 0 r S' h) S a r S' hm
theorem frX11_readTest_130 (x : XT) (S : ST) (p1 : Int32) (r : Unit) (S' : ST) (hm : gfX11_readTest_130 x S p1 = some (r, S')) : Agr wX11_readTest_130 S S' :=
  (frqX11_readTest_130 x 60).1 S p1 0 r S' hm
theorem frX11_readBoth_130 (x : XT) (S : ST) (p1 : Int32) (r : Unit) (S' : ST) (hm : gfX11_readBoth_130 x S p1 = some (r, S')) : Agr wX11_readTest_130 S S' :=
  (frqX11_readTest_130 x 60).2.1 S p1 0 r S' hm
theorem frX11_readPlain_130 (x : XT) (S : ST) (p1 : Int32) (r : Unit) (S' : ST) (hm : gfX11_readPlain_130 x S p1 = some (r, S')) : Agr wX11_readTest_130 S S' :=
  (frqX11_readTest_130 x 60).2.2 S p1 0 r S' hm
def wX11_readClause_130 : List (Nat × Nat) × List Nat × List Nat × List Nat := ([(130, 19), (130, 20), (130, 21)], [], [], [])
set_option maxHeartbeats 4000000 in
set_option maxRecDepth 20000 in
theorem fbX11_readClause_130_42 (x : XT)  (S : ST)  (r : Unit) (S' : ST) (hm : bfX11_readClause_130_42 x  S  = some (r, S')) : Agr wX11_readClause_130 S S' := by
    unfold bfX11_readClause_130_42 at hm
    cases hm
    exact Agr.rf
set_option maxHeartbeats 4000000 in
set_option maxRecDepth 20000 in
theorem fbX11_readClause_130_29 (x : XT)  (S : ST)  (r : Unit) (S' : ST) (hm : bfX11_readClause_130_29 x  S  = some (r, S')) : Agr wX11_readClause_130 S S' := by
    unfold bfX11_readClause_130_29 at hm
    cases h1 : gfX11_takes0_130 x S 4 with
    | none => rw [h1] at hm; cases hm
    | some q2 =>
      obtain ⟨r3, S4⟩ := q2
      rw [h1] at hm
      dsimp only at hm
      have a_S4 : Agr wX11_readClause_130 S S4 := Agr.tr Agr.rf (Agr.sub (frX11_takes0_130 x S 4 _ _ h1) (by decide))
      by_cases c5 : r3 = 0
      · rw [if_pos c5] at hm
        exact Agr.tr a_S4 (fbX11_readClause_130_42 x  S4 _ _ hm)
      · rw [if_neg c5] at hm
        cases h6 : gfX11_readTest_130 x S4 0 with
        | none => rw [h6] at hm; cases hm
        | some q7 =>
          obtain ⟨r8, S9⟩ := q7
          rw [h6] at hm
          dsimp only at hm
          have a_S9 : Agr wX11_readClause_130 S S9 := Agr.tr a_S4 (Agr.sub (frX11_readTest_130 x S4 0 _ _ h6) (by decide))
          exact Agr.tr a_S9 (fbX11_readClause_130_42 x  S9 _ _ hm)
set_option maxHeartbeats 4000000 in
set_option maxRecDepth 20000 in
theorem fbX11_readClause_130_16 (x : XT)  (S : ST)  (r : Unit) (S' : ST) (hm : bfX11_readClause_130_16 x  S  = some (r, S')) : Agr wX11_readClause_130 S S' := by
    unfold bfX11_readClause_130_16 at hm
    cases h1 : gfX11_readSum_130 x S 0 with
    | none => rw [h1] at hm; cases hm
    | some q2 =>
      obtain ⟨r3, S4⟩ := q2
      rw [h1] at hm
      dsimp only at hm
      have a_S4 : Agr wX11_readClause_130 S S4 := Agr.tr Agr.rf (Agr.sub (frX11_readSum_130 x S 0 _ _ h1) (by decide))
      exact Agr.tr a_S4 (fbX11_readClause_130_29 x  S4 _ _ hm)
set_option maxHeartbeats 4000000 in
set_option maxRecDepth 20000 in
theorem fbX11_readClause_130_0 (x : XT)  (S : ST)  (r : Unit) (S' : ST) (hm : bfX11_readClause_130_0 x  S  = some (r, S')) : Agr wX11_readClause_130 S S' := by
    unfold bfX11_readClause_130_0 at hm
    cases h1 : gfX11_takes0_130 x S 1 with
    | none => rw [h1] at hm; cases hm
    | some q2 =>
      obtain ⟨r3, S4⟩ := q2
      rw [h1] at hm
      dsimp only at hm
      have a_S4 : Agr wX11_readClause_130 S S4 := Agr.tr Agr.rf (Agr.sub (frX11_takes0_130 x S 1 _ _ h1) (by decide))
      by_cases c5 : ¬ r3 = 0
      · rw [if_pos c5] at hm
        exact Agr.tr a_S4 (fbX11_readClause_130_16 x  S4 _ _ hm)
      · rw [if_neg c5] at hm
        cases h6 : gfX11_takes0_130 x S4 2 with
        | none => rw [h6] at hm; cases hm
        | some q7 =>
          obtain ⟨r8, S9⟩ := q7
          rw [h6] at hm
          dsimp only at hm
          have a_S9 : Agr wX11_readClause_130 S S9 := Agr.tr a_S4 (Agr.sub (frX11_takes0_130 x S4 2 _ _ h6) (by decide))
          by_cases c10 : r8 = 0
          · rw [if_pos c10] at hm
            cases h11 : gfX11_must_130 x S9 3 with
            | none => rw [h11] at hm; cases hm
            | some q12 =>
              obtain ⟨r13, S14⟩ := q12
              rw [h11] at hm
              dsimp only at hm
              have a_S14 : Agr wX11_readClause_130 S S14 := Agr.tr a_S9 (Agr.sub (frX11_must_130 x S9 3 _ _ h11) (by decide))
              exact Agr.tr a_S14 (fbX11_readClause_130_29 x  S14 _ _ hm)
          · rw [if_neg c10] at hm
            exact Agr.tr a_S9 (fbX11_readClause_130_16 x  S9 _ _ hm)
theorem frX11_readClause_130 (x : XT) (S : ST)  (r : Unit) (S' : ST) (hm : gfX11_readClause_130 x S  = some (r, S')) : Agr wX11_readClause_130 S S' := fbX11_readClause_130_0 x S  r S' hm
def wX11_readTwo_130 : List (Nat × Nat) × List Nat × List Nat × List Nat := ([(130, 19), (130, 20), (130, 21)], [], [], [])
set_option maxHeartbeats 4000000 in
set_option maxRecDepth 20000 in
theorem fbX11_readTwo_130_0 (x : XT)  (S : ST) (p1 : Int32) (r : Unit) (S' : ST) (hm : bfX11_readTwo_130_0 x  S p1 = some (r, S')) : Agr wX11_readTwo_130 S S' := by
    unfold bfX11_readTwo_130_0 at hm
    cases h1 : gfX11_readSum_130 x S 0 with
    | none => rw [h1] at hm; cases hm
    | some q2 =>
      obtain ⟨r3, S4⟩ := q2
      rw [h1] at hm
      dsimp only at hm
      have a_S4 : Agr wX11_readTwo_130 S S4 := Agr.tr Agr.rf (Agr.sub (frX11_readSum_130 x S 0 _ _ h1) (by decide))
      cases h5 : gfX11_must_130 x S4 p1 with
      | none => rw [h5] at hm; cases hm
      | some q6 =>
        obtain ⟨r7, S8⟩ := q6
        rw [h5] at hm
        dsimp only at hm
        have a_S8 : Agr wX11_readTwo_130 S S8 := Agr.tr a_S4 (Agr.sub (frX11_must_130 x S4 p1 _ _ h5) (by decide))
        cases h9 : gfX11_readSum_130 x S8 0 with
        | none => rw [h9] at hm; cases hm
        | some q10 =>
          obtain ⟨r11, S12⟩ := q10
          rw [h9] at hm
          dsimp only at hm
          have a_S12 : Agr wX11_readTwo_130 S S12 := Agr.tr a_S8 (Agr.sub (frX11_readSum_130 x S8 0 _ _ h9) (by decide))
          cases hm
          exact a_S12
theorem frX11_readTwo_130 (x : XT) (S : ST) (p1 : Int32) (r : Unit) (S' : ST) (hm : gfX11_readTwo_130 x S p1 = some (r, S')) : Agr wX11_readTwo_130 S S' := fbX11_readTwo_130_0 x S p1 r S' hm
def wX11_readOrder_130 : List (Nat × Nat) × List Nat × List Nat × List Nat := ([(130, 19), (130, 20), (130, 21)], [], [], [])
set_option maxHeartbeats 4000000 in
set_option maxRecDepth 20000 in
theorem fbX11_readOrder_130_88 (x : XT)  (S : ST)  (r : Unit) (S' : ST) (hm : bfX11_readOrder_130_88 x  S  = some (r, S')) : Agr wX11_readOrder_130 S S' := by
    unfold bfX11_readOrder_130_88 at hm
    cases hm
    exact Agr.rf
set_option maxHeartbeats 4000000 in
set_option maxRecDepth 20000 in
theorem fbX11_readOrder_130_75 (x : XT)  (S : ST)  (r : Unit) (S' : ST) (hm : bfX11_readOrder_130_75 x  S  = some (r, S')) : Agr wX11_readOrder_130 S S' := by
    unfold bfX11_readOrder_130_75 at hm
    cases h1 : gfX11_takes0_130 x S 4 with
    | none => rw [h1] at hm; cases hm
    | some q2 =>
      obtain ⟨r3, S4⟩ := q2
      rw [h1] at hm
      dsimp only at hm
      have a_S4 : Agr wX11_readOrder_130 S S4 := Agr.tr Agr.rf (Agr.sub (frX11_takes0_130 x S 4 _ _ h1) (by decide))
      by_cases c5 : r3 = 0
      · rw [if_pos c5] at hm
        exact Agr.tr a_S4 (fbX11_readOrder_130_88 x  S4 _ _ hm)
      · rw [if_neg c5] at hm
        cases h6 : gfX11_readTest_130 x S4 0 with
        | none => rw [h6] at hm; cases hm
        | some q7 =>
          obtain ⟨r8, S9⟩ := q7
          rw [h6] at hm
          dsimp only at hm
          have a_S9 : Agr wX11_readOrder_130 S S9 := Agr.tr a_S4 (Agr.sub (frX11_readTest_130 x S4 0 _ _ h6) (by decide))
          exact Agr.tr a_S9 (fbX11_readOrder_130_88 x  S9 _ _ hm)
set_option maxHeartbeats 4000000 in
set_option maxRecDepth 20000 in
theorem fbX11_readOrder_130_59 (x : XT)  (S : ST)  (r : Unit) (S' : ST) (hm : bfX11_readOrder_130_59 x  S  = some (r, S')) : Agr wX11_readOrder_130 S S' := by
    unfold bfX11_readOrder_130_59 at hm
    cases h1 : gfX11_takes0_130 x S 26 with
    | none => rw [h1] at hm; cases hm
    | some q2 =>
      obtain ⟨r3, S4⟩ := q2
      rw [h1] at hm
      dsimp only at hm
      have a_S4 : Agr wX11_readOrder_130 S S4 := Agr.tr Agr.rf (Agr.sub (frX11_takes0_130 x S 26 _ _ h1) (by decide))
      by_cases c5 : r3 = 0
      · rw [if_pos c5] at hm
        exact Agr.tr a_S4 (fbX11_readOrder_130_75 x  S4 _ _ hm)
      · rw [if_neg c5] at hm
        cases h6 : gfX11_mustNumber_130 x S4 1 20 with
        | none => rw [h6] at hm; cases hm
        | some q7 =>
          obtain ⟨r8, S9⟩ := q7
          rw [h6] at hm
          dsimp only at hm
          have a_S9 : Agr wX11_readOrder_130 S S9 := Agr.tr a_S4 (Agr.sub (frX11_mustNumber_130 x S4 1 20 _ _ h6) (by decide))
          exact Agr.tr a_S9 (fbX11_readOrder_130_75 x  S9 _ _ hm)
set_option maxHeartbeats 4000000 in
set_option maxRecDepth 20000 in
theorem fbX11_readOrder_130_0 (x : XT)  (S : ST)  (r : Unit) (S' : ST) (hm : bfX11_readOrder_130_0 x  S  = some (r, S')) : Agr wX11_readOrder_130 S S' := by
    unfold bfX11_readOrder_130_0 at hm
    cases h1 : gfX11_takes0_130 x S 20 with
    | none => rw [h1] at hm; cases hm
    | some q2 =>
      obtain ⟨r3, S4⟩ := q2
      rw [h1] at hm
      dsimp only at hm
      have a_S4 : Agr wX11_readOrder_130 S S4 := Agr.tr Agr.rf (Agr.sub (frX11_takes0_130 x S 20 _ _ h1) (by decide))
      by_cases c5 : r3 = 0
      · rw [if_pos c5] at hm
        cases h6 : gfX11_takes0_130 x S4 23 with
        | none => rw [h6] at hm; cases hm
        | some q7 =>
          obtain ⟨r8, S9⟩ := q7
          rw [h6] at hm
          dsimp only at hm
          have a_S9 : Agr wX11_readOrder_130 S S9 := Agr.tr a_S4 (Agr.sub (frX11_takes0_130 x S4 23 _ _ h6) (by decide))
          by_cases c10 : r8 = 0
          · rw [if_pos c10] at hm
            cases h11 : gfX11_takes0_130 x S9 22 with
            | none => rw [h11] at hm; cases hm
            | some q12 =>
              obtain ⟨r13, S14⟩ := q12
              rw [h11] at hm
              dsimp only at hm
              have a_S14 : Agr wX11_readOrder_130 S S14 := Agr.tr a_S9 (Agr.sub (frX11_takes0_130 x S9 22 _ _ h11) (by decide))
              by_cases c15 : r13 = 0
              · rw [if_pos c15] at hm
                cases h16 : gfX11_must_130 x S14 25 with
                | none => rw [h16] at hm; cases hm
                | some q17 =>
                  obtain ⟨r18, S19⟩ := q17
                  rw [h16] at hm
                  dsimp only at hm
                  have a_S19 : Agr wX11_readOrder_130 S S19 := Agr.tr a_S14 (Agr.sub (frX11_must_130 x S14 25 _ _ h16) (by decide))
                  exact Agr.tr a_S19 (fbX11_readOrder_130_59 x  S19 _ _ hm)
              · rw [if_neg c15] at hm
                cases h20 : gfX11_readSum_130 x S14 0 with
                | none => rw [h20] at hm; cases hm
                | some q21 =>
                  obtain ⟨r22, S23⟩ := q21
                  rw [h20] at hm
                  dsimp only at hm
                  have a_S23 : Agr wX11_readOrder_130 S S23 := Agr.tr a_S14 (Agr.sub (frX11_readSum_130 x S14 0 _ _ h20) (by decide))
                  exact Agr.tr a_S23 (fbX11_readOrder_130_59 x  S23 _ _ hm)
          · rw [if_neg c10] at hm
            cases h24 : gfX11_readTwo_130 x S9 24 with
            | none => rw [h24] at hm; cases hm
            | some q25 =>
              obtain ⟨r26, S27⟩ := q25
              rw [h24] at hm
              dsimp only at hm
              have a_S27 : Agr wX11_readOrder_130 S S27 := Agr.tr a_S9 (Agr.sub (frX11_readTwo_130 x S9 24 _ _ h24) (by decide))
              exact Agr.tr a_S27 (fbX11_readOrder_130_59 x  S27 _ _ hm)
      · rw [if_neg c5] at hm
        cases h28 : gfX11_readTwo_130 x S4 21 with
        | none => rw [h28] at hm; cases hm
        | some q29 =>
          obtain ⟨r30, S31⟩ := q29
          rw [h28] at hm
          dsimp only at hm
          have a_S31 : Agr wX11_readOrder_130 S S31 := Agr.tr a_S4 (Agr.sub (frX11_readTwo_130 x S4 21 _ _ h28) (by decide))
          exact Agr.tr a_S31 (fbX11_readOrder_130_59 x  S31 _ _ hm)
theorem frX11_readOrder_130 (x : XT) (S : ST)  (r : Unit) (S' : ST) (hm : gfX11_readOrder_130 x S  = some (r, S')) : Agr wX11_readOrder_130 S S' := fbX11_readOrder_130_0 x S  r S' hm
def wX11_readOne_130 : List (Nat × Nat) × List Nat × List Nat × List Nat := ([(130, 19), (130, 20), (130, 21)], [], [], [])
set_option maxHeartbeats 4000000 in
set_option maxRecDepth 20000 in
theorem fbX11_readOne_130_18 (x : XT)  (S : ST)  (r : Unit) (S' : ST) (hm : bfX11_readOne_130_18 x  S  = some (r, S')) : Agr wX11_readOne_130 S S' := by
    unfold bfX11_readOne_130_18 at hm
    cases hm
    exact Agr.rf
set_option maxHeartbeats 4000000 in
set_option maxRecDepth 20000 in
theorem fbX11_readOne_130_0 (x : XT)  (S : ST)  (r : Unit) (S' : ST) (hm : bfX11_readOne_130_0 x  S  = some (r, S')) : Agr wX11_readOne_130 S S' := by
    unfold bfX11_readOne_130_0 at hm
    by_cases c1 : (S.1 130 10) = 0
    · rw [if_pos c1] at hm
      cases h2 : gfX11_readClause_130 x S with
      | none => rw [h2] at hm; cases hm
      | some q3 =>
        obtain ⟨r4, S5⟩ := q3
        rw [h2] at hm
        dsimp only at hm
        have a_S5 : Agr wX11_readOne_130 S S5 := Agr.tr Agr.rf (Agr.sub (frX11_readClause_130 x S _ _ h2) (by decide))
        exact Agr.tr a_S5 (fbX11_readOne_130_18 x  S5 _ _ hm)
    · rw [if_neg c1] at hm
      cases h6 : gfX11_readOrder_130 x S with
      | none => rw [h6] at hm; cases hm
      | some q7 =>
        obtain ⟨r8, S9⟩ := q7
        rw [h6] at hm
        dsimp only at hm
        have a_S9 : Agr wX11_readOne_130 S S9 := Agr.tr Agr.rf (Agr.sub (frX11_readOrder_130 x S _ _ h6) (by decide))
        exact Agr.tr a_S9 (fbX11_readOne_130_18 x  S9 _ _ hm)
theorem frX11_readOne_130 (x : XT) (S : ST)  (r : Unit) (S' : ST) (hm : gfX11_readOne_130 x S  = some (r, S')) : Agr wX11_readOne_130 S S' := fbX11_readOne_130_0 x S  r S' hm
def wX11_reads_130 : List (Nat × Nat) × List Nat × List Nat × List Nat := ([(130, 13), (130, 14), (130, 18), (130, 19), (130, 20), (130, 21)], [139, 140, 141], [], [])
set_option maxHeartbeats 4000000 in
set_option maxRecDepth 20000 in
theorem fbX11_reads_130_95 (x : XT)  (S : ST)  (r : Int32) (S' : ST) (hm : bfX11_reads_130_95 x  S  = some (r, S')) : Agr wX11_reads_130 S S' := by
    unfold bfX11_reads_130_95 at hm
    cases h1 : gfX11_fine_130 x ((u2 S.1 130 14 (S.1 130 21)), S.2.1, S.2.2.1, S.2.2.2) with
    | none => rw [h1] at hm; cases hm
    | some q2 =>
      obtain ⟨r3, S4⟩ := q2
      rw [h1] at hm
      dsimp only at hm
      have a_S4 : Agr wX11_reads_130 S S4 := Agr.tr (Agr.f Agr.rf 130 14 (S.1 130 21) (by decide)) (Agr.sub (frX11_fine_130 x ((u2 S.1 130 14 (S.1 130 21)), S.2.1, S.2.2.1, S.2.2.2) _ _ h1) (by decide))
      obtain ⟨o5, hm⟩ := oblk hm
      cases hm
      exact a_S4
set_option maxHeartbeats 4000000 in
set_option maxRecDepth 20000 in
theorem fbX11_reads_130_67 (x : XT) (k34 : ST → Int32 → Option (Int32 × ST)) (ak34 : ∀ (S : ST) (v1 : Int32) (r : Int32) (S' : ST), k34 S v1 = some (r, S') → Agr wX11_reads_130 S S') (S : ST) (v1 : Int32) (r : Int32) (S' : ST) (hm : bfX11_reads_130_67 x k34 S v1 = some (r, S')) : Agr wX11_reads_130 S S' := by
    unfold bfX11_reads_130_67 at hm
    exact Agr.tr Agr.rf (ak34 S (v1 + 1) _ _ hm)
set_option maxHeartbeats 4000000 in
set_option maxRecDepth 20000 in
theorem fbX11_reads_130_56 (x : XT) (k34 : ST → Int32 → Option (Int32 × ST)) (ak34 : ∀ (S : ST) (v1 : Int32) (r : Int32) (S' : ST), k34 S v1 = some (r, S') → Agr wX11_reads_130 S S') (S : ST) (v1 : Int32) (r : Int32) (S' : ST) (hm : bfX11_reads_130_56 x k34 S v1 = some (r, S')) : Agr wX11_reads_130 S S' := by
    unfold bfX11_reads_130_56 at hm
    cases h1 : gfX11_fine_130 x S with
    | none => rw [h1] at hm; cases hm
    | some q2 =>
      obtain ⟨r3, S4⟩ := q2
      rw [h1] at hm
      dsimp only at hm
      have a_S4 : Agr wX11_reads_130 S S4 := Agr.tr Agr.rf (Agr.sub (frX11_fine_130 x S _ _ h1) (by decide))
      by_cases c5 : r3 = 0
      · rw [if_pos c5] at hm
        exact Agr.tr a_S4 (fbX11_reads_130_67 x k34 ak34 S4 v1 _ _ hm)
      · rw [if_neg c5] at hm
        cases h6 : gfX11_readOne_130 x S4 with
        | none => rw [h6] at hm; cases hm
        | some q7 =>
          obtain ⟨r8, S9⟩ := q7
          rw [h6] at hm
          dsimp only at hm
          have a_S9 : Agr wX11_reads_130 S S9 := Agr.tr a_S4 (Agr.sub (frX11_readOne_130 x S4 _ _ h6) (by decide))
          exact Agr.tr a_S9 (fbX11_reads_130_67 x k34 ak34 S9 v1 _ _ hm)
set_option maxHeartbeats 4000000 in
set_option maxRecDepth 20000 in
theorem fbX11_reads_130_34 (x : XT) (k34 : ST → Int32 → Option (Int32 × ST)) (ak34 : ∀ (S : ST) (v1 : Int32) (r : Int32) (S' : ST), k34 S v1 = some (r, S') → Agr wX11_reads_130 S S') (S : ST) (v1 : Int32) (r : Int32) (S' : ST) (hm : bfX11_reads_130_34 x k34 S v1 = some (r, S')) : Agr wX11_reads_130 S S' := by
    unfold bfX11_reads_130_34 at hm
    cases h1 : gfX11_sign x S 59 with
    | none => rw [h1] at hm; cases hm
    | some q2 =>
      obtain ⟨r3, S4⟩ := q2
      rw [h1] at hm
      dsimp only at hm
      have a_S4 : Agr wX11_reads_130 S S4 := Agr.tr Agr.rf (Agr.sub (frX11_sign x S 59 _ _ h1) (by decide))
      cases h5 : gfX11_takes0_130 x S4 r3 with
      | none => rw [h5] at hm; cases hm
      | some q6 =>
        obtain ⟨r7, S8⟩ := q6
        rw [h5] at hm
        dsimp only at hm
        have a_S8 : Agr wX11_reads_130 S S8 := Agr.tr a_S4 (Agr.sub (frX11_takes0_130 x S4 r3 _ _ h5) (by decide))
        by_cases c9 : r7 = 0
        · rw [if_pos c9] at hm
          cases h10 : gfX11_fine_130 x S8 with
          | none => rw [h10] at hm; cases hm
          | some q11 =>
            obtain ⟨r12, S13⟩ := q11
            rw [h10] at hm
            dsimp only at hm
            have a_S13 : Agr wX11_reads_130 S S13 := Agr.tr a_S8 (Agr.sub (frX11_fine_130 x S8 _ _ h10) (by decide))
            by_cases c14 : r12 = 0
            · rw [if_pos c14] at hm
              exact Agr.tr a_S13 (fbX11_reads_130_95 x  S13 _ _ hm)
            · rw [if_neg c14] at hm
              by_cases c15 : (S13.1 130 18) ≤ (S13.1 130 19)
              · rw [if_pos c15] at hm
                exact Agr.tr a_S13 (fbX11_reads_130_95 x  S13 _ _ hm)
              · rw [if_neg c15] at hm
                cases h16 : gfX11_faults_130 x S13 with
                | none => rw [h16] at hm; cases hm
                | some q17 =>
                  obtain ⟨r18, S19⟩ := q17
                  rw [h16] at hm
                  dsimp only at hm
                  have a_S19 : Agr wX11_reads_130 S S19 := Agr.tr a_S13 (Agr.sub (frX11_faults_130 x S13 _ _ h16) (by decide))
                  exact Agr.tr a_S19 (fbX11_reads_130_95 x  S19 _ _ hm)
        · rw [if_neg c9] at hm
          by_cases c20 : ¬ v1 = 12
          · rw [if_pos c20] at hm
            exact Agr.tr a_S8 (fbX11_reads_130_56 x k34 ak34 S8 v1 _ _ hm)
          · rw [if_neg c20] at hm
            cases h21 : gfX11_faults_130 x S8 with
            | none => rw [h21] at hm; cases hm
            | some q22 =>
              obtain ⟨r23, S24⟩ := q22
              rw [h21] at hm
              dsimp only at hm
              have a_S24 : Agr wX11_reads_130 S S24 := Agr.tr a_S8 (Agr.sub (frX11_faults_130 x S8 _ _ h21) (by decide))
              exact Agr.tr a_S24 (fbX11_reads_130_56 x k34 ak34 S24 v1 _ _ hm)
theorem flX11_reads_130_34 (x : XT)  : ∀ (n : Nat) (S : ST) (v1 : Int32) (r : Int32) (S' : ST), lfX11_reads_130_34 x  n S v1 = some (r, S') → Agr wX11_reads_130 S S'
  | 0, _, _, _, _, hm => by cases hm
  | n + 1, S, v1, r, S', hm => fbX11_reads_130_34 x (lfX11_reads_130_34 x  n) (flX11_reads_130_34 x  n) S v1 r S' hm
set_option maxHeartbeats 4000000 in
set_option maxRecDepth 20000 in
theorem fbX11_reads_130_0 (x : XT)  (S : ST)  (r : Int32) (S' : ST) (hm : bfX11_reads_130_0 x  S  = some (r, S')) : Agr wX11_reads_130 S S' := by
    unfold bfX11_reads_130_0 at hm
    cases h1 : gfX11_splits_130 x S (S.1 130 13) with
    | none => rw [h1] at hm; cases hm
    | some q2 =>
      obtain ⟨r3, S4⟩ := q2
      rw [h1] at hm
      dsimp only at hm
      have a_S4 : Agr wX11_reads_130 S S4 := Agr.tr Agr.rf (Agr.sub (frX11_splits_130 x S (S.1 130 13) _ _ h1) (by decide))
      cases h5 : gfX11_readOne_130 x ((u2 (u2 (u2 (u2 S4.1 130 13 0) 130 19 0) 130 20 0) 130 21 (-1)), S4.2.1, S4.2.2.1, S4.2.2.2) with
      | none => rw [h5] at hm; cases hm
      | some q6 =>
        obtain ⟨r7, S8⟩ := q6
        rw [h5] at hm
        dsimp only at hm
        have a_S8 : Agr wX11_reads_130 S S8 := Agr.tr (Agr.f (Agr.f (Agr.f (Agr.f a_S4 130 13 0 (by decide)) 130 19 0 (by decide)) 130 20 0 (by decide)) 130 21 (-1) (by decide)) (Agr.sub (frX11_readOne_130 x ((u2 (u2 (u2 (u2 S4.1 130 13 0) 130 19 0) 130 20 0) 130 21 (-1)), S4.2.1, S4.2.2.1, S4.2.2.2) _ _ h5) (by decide))
        exact Agr.tr a_S8 (flX11_reads_130_34 x  20000 S8 1 _ _ hm)
theorem frX11_reads_130 (x : XT) (S : ST)  (r : Int32) (S' : ST) (hm : gfX11_reads_130 x S  = some (r, S')) : Agr wX11_reads_130 S S' := fbX11_reads_130_0 x S  r S' hm
def wX11_readsAs_130 : List (Nat × Nat) × List Nat × List Nat × List Nat := ([(130, 8), (130, 9), (130, 10), (130, 13), (130, 14), (130, 18), (130, 19), (130, 20), (130, 21)], [139, 140, 141], [], [])
set_option maxHeartbeats 4000000 in
set_option maxRecDepth 20000 in
theorem fbX11_readsAs_130_32 (x : XT)  (S : ST) (t1 : Int32) (r : Int32) (S' : ST) (hm : bfX11_readsAs_130_32 x  S t1 = some (r, S')) : Agr wX11_readsAs_130 S S' := by
    unfold bfX11_readsAs_130_32 at hm
    cases h1 : gfX11_reads_130 x ((u2 S.1 130 9 t1), S.2.1, S.2.2.1, S.2.2.2) with
    | none => rw [h1] at hm; cases hm
    | some q2 =>
      obtain ⟨r3, S4⟩ := q2
      rw [h1] at hm
      dsimp only at hm
      have a_S4 : Agr wX11_readsAs_130 S S4 := Agr.tr (Agr.f Agr.rf 130 9 t1 (by decide)) (Agr.sub (frX11_reads_130 x ((u2 S.1 130 9 t1), S.2.1, S.2.2.1, S.2.2.2) _ _ h1) (by decide))
      obtain ⟨o5, hm⟩ := oblk hm
      cases hm
      exact a_S4
set_option maxHeartbeats 4000000 in
set_option maxRecDepth 20000 in
theorem fbX11_readsAs_130_17 (x : XT)  (S : ST) (v1 : Int32) (t1 : Int32) (r : Int32) (S' : ST) (hm : bfX11_readsAs_130_17 x  S v1 t1 = some (r, S')) : Agr wX11_readsAs_130 S S' := by
    unfold bfX11_readsAs_130_17 at hm
    by_cases c1 : v1 = 0
    · rw [if_pos c1] at hm
      exact Agr.tr (Agr.f Agr.rf 130 8 t1 (by decide)) (fbX11_readsAs_130_32 x  ((u2 S.1 130 8 t1), S.2.1, S.2.2.1, S.2.2.2) 15 _ _ hm)
    · rw [if_neg c1] at hm
      exact Agr.tr (Agr.f Agr.rf 130 8 t1 (by decide)) (fbX11_readsAs_130_32 x  ((u2 S.1 130 8 t1), S.2.1, S.2.2.1, S.2.2.2) 19 _ _ hm)
set_option maxHeartbeats 4000000 in
set_option maxRecDepth 20000 in
theorem fbX11_readsAs_130_0 (x : XT)  (S : ST) (p1 : Int32) (r : Int32) (S' : ST) (hm : bfX11_readsAs_130_0 x  S p1 = some (r, S')) : Agr wX11_readsAs_130 S S' := by
    unfold bfX11_readsAs_130_0 at hm
    obtain ⟨o1, hm⟩ := oblk hm
    by_cases c2 : p1 = 0
    · rw [if_pos c2] at hm
      exact Agr.tr (Agr.f Agr.rf 130 10 p1 (by decide)) (fbX11_readsAs_130_17 x  ((u2 S.1 130 10 p1), S.2.1, S.2.2.1, S.2.2.2) p1 8 _ _ hm)
    · rw [if_neg c2] at hm
      exact Agr.tr (Agr.f Agr.rf 130 10 p1 (by decide)) (fbX11_readsAs_130_17 x  ((u2 S.1 130 10 p1), S.2.1, S.2.2.1, S.2.2.2) p1 13 _ _ hm)
theorem frX11_readsAs_130 (x : XT) (S : ST) (p1 : Int32) (r : Int32) (S' : ST) (hm : gfX11_readsAs_130 x S p1 = some (r, S')) : Agr wX11_readsAs_130 S S' := fbX11_readsAs_130_0 x S p1 r S' hm
def wX11_lays_130 : List (Nat × Nat) × List Nat × List Nat × List Nat := ([], [132], [], [])
set_option maxHeartbeats 4000000 in
set_option maxRecDepth 20000 in
theorem fbX11_lays_130_15 (x : XT) (k15 : ST → Int32 → Int32 → Option (Unit × ST)) (ak15 : ∀ (S : ST) (v1 : Int32) (v2 : Int32) (r : Unit) (S' : ST), k15 S v1 v2 = some (r, S') → Agr wX11_lays_130 S S') (S : ST) (v1 : Int32) (v2 : Int32) (r : Unit) (S' : ST) (hm : bfX11_lays_130_15 x k15 S v1 v2 = some (r, S')) : Agr wX11_lays_130 S S' := by
    unfold bfX11_lays_130_15 at hm
    by_cases c1 : (S.1 130 18) ≤ v2
    · rw [if_pos c1] at hm
      cases hm
      exact Agr.rf
    · rw [if_neg c1] at hm
      obtain ⟨o2, hm⟩ := oblk hm
      obtain ⟨o3, hm⟩ := oblk hm
      obtain ⟨o4, hm⟩ := oblk hm
      obtain ⟨o5, hm⟩ := oblk hm
      exact Agr.tr (Agr.i (Agr.i Agr.rf 132 (((103 + (400 * v1)) + v2).toNatClampNeg) (S.2.1 139 v2.toNatClampNeg) (by decide)) 132 (((2903 + (400 * v1)) + v2).toNatClampNeg) (S.2.1 140 v2.toNatClampNeg) (by decide)) (ak15 (S.1, (u2 (u2 S.2.1 132 (((103 + (400 * v1)) + v2).toNatClampNeg) (S.2.1 139 v2.toNatClampNeg)) 132 (((2903 + (400 * v1)) + v2).toNatClampNeg) (S.2.1 140 v2.toNatClampNeg)), S.2.2.1, S.2.2.2) v1 (v2 + 1) _ _ hm)
theorem flX11_lays_130_15 (x : XT)  : ∀ (n : Nat) (S : ST) (v1 : Int32) (v2 : Int32) (r : Unit) (S' : ST), lfX11_lays_130_15 x  n S v1 v2 = some (r, S') → Agr wX11_lays_130 S S'
  | 0, _, _, _, _, _, hm => by cases hm
  | n + 1, S, v1, v2, r, S', hm => fbX11_lays_130_15 x (lfX11_lays_130_15 x  n) (flX11_lays_130_15 x  n) S v1 v2 r S' hm
set_option maxHeartbeats 4000000 in
set_option maxRecDepth 20000 in
theorem fbX11_lays_130_0 (x : XT)  (S : ST) (p1 : Int32) (r : Unit) (S' : ST) (hm : bfX11_lays_130_0 x  S p1 = some (r, S')) : Agr wX11_lays_130 S S' := by
    unfold bfX11_lays_130_0 at hm
    obtain ⟨o1, hm⟩ := oblk hm
    exact Agr.tr (Agr.i Agr.rf 132 ((96 + p1).toNatClampNeg) (S.1 130 18) (by decide)) (flX11_lays_130_15 x  20000 (S.1, (u2 S.2.1 132 ((96 + p1).toNatClampNeg) (S.1 130 18)), S.2.2.1, S.2.2.2) p1 0 _ _ hm)
theorem frX11_lays_130 (x : XT) (S : ST) (p1 : Int32) (r : Unit) (S' : ST) (hm : gfX11_lays_130 x S p1 = some (r, S')) : Agr wX11_lays_130 S S' := fbX11_lays_130_0 x S p1 r S' hm
def wX11_law_130 : List (Nat × Nat) × List Nat × List Nat × List Nat := ([(130, 0), (130, 8), (130, 9), (130, 10), (130, 13), (130, 14), (130, 18), (130, 19), (130, 20), (130, 21)], [131, 132, 139, 140, 141], [], [])
set_option maxHeartbeats 4000000 in
set_option maxRecDepth 20000 in
theorem fbX11_law_130_0 (x : XT)  (S : ST)  (r : Int32) (S' : ST) (hm : bfX11_law_130_0 x  S  = some (r, S')) : Agr wX11_law_130 S S' := by
    unfold bfX11_law_130_0 at hm
    by_cases c1 : ¬ (S.2.1 132 94) = 6
    · rw [if_pos c1] at hm
      cases h2 : gfX11_readsAs_130 x S 0 with
      | none => rw [h2] at hm; cases hm
      | some q3 =>
        obtain ⟨r4, S5⟩ := q3
        rw [h2] at hm
        dsimp only at hm
        have a_S5 : Agr wX11_law_130 S S5 := Agr.tr Agr.rf (Agr.sub (frX11_readsAs_130 x S 0 _ _ h2) (by decide))
        by_cases c6 : ¬ r4 = 0
        · rw [if_pos c6] at hm
          cases h7 : gfX11_lays_130 x S5 (S5.2.1 132 94) with
          | none => rw [h7] at hm; cases hm
          | some q8 =>
            obtain ⟨r9, S10⟩ := q8
            rw [h7] at hm
            dsimp only at hm
            have a_S10 : Agr wX11_law_130 S S10 := Agr.tr a_S5 (Agr.sub (frX11_lays_130 x S5 (S5.2.1 132 94) _ _ h7) (by decide))
            cases h11 : gfX11_good_130 x (S10.1, (u2 S10.2.1 132 94 ((S10.2.1 132 94) + 1)), S10.2.2.1, S10.2.2.2) (((S10.2.1 132 94) + 1) - 1) with
            | none => rw [h11] at hm; cases hm
            | some q12 =>
              obtain ⟨r13, S14⟩ := q12
              rw [h11] at hm
              dsimp only at hm
              have a_S14 : Agr wX11_law_130 S S14 := Agr.tr (Agr.i a_S10 132 94 ((S10.2.1 132 94) + 1) (by decide)) (Agr.sub (frX11_good_130 x (S10.1, (u2 S10.2.1 132 94 ((S10.2.1 132 94) + 1)), S10.2.2.1, S10.2.2.2) (((S10.2.1 132 94) + 1) - 1) _ _ h11) (by decide))
              cases hm
              exact a_S14
        · rw [if_neg c6] at hm
          cases h15 : gfX11_refuses_130 x S5 (-6) with
          | none => rw [h15] at hm; cases hm
          | some q16 =>
            obtain ⟨r17, S18⟩ := q16
            rw [h15] at hm
            dsimp only at hm
            have a_S18 : Agr wX11_law_130 S S18 := Agr.tr a_S5 (Agr.sub (frX11_refuses_130 x S5 (-6) _ _ h15) (by decide))
            cases hm
            exact a_S18
    · rw [if_neg c1] at hm
      cases h19 : gfX11_refuses_130 x ((u2 S.1 130 13 0), S.2.1, S.2.2.1, S.2.2.2) (-5) with
      | none => rw [h19] at hm; cases hm
      | some q20 =>
        obtain ⟨r21, S22⟩ := q20
        rw [h19] at hm
        dsimp only at hm
        have a_S22 : Agr wX11_law_130 S S22 := Agr.tr (Agr.f Agr.rf 130 13 0 (by decide)) (Agr.sub (frX11_refuses_130 x ((u2 S.1 130 13 0), S.2.1, S.2.2.1, S.2.2.2) (-5) _ _ h19) (by decide))
        cases hm
        exact a_S22
theorem frX11_law_130 (x : XT) (S : ST)  (r : Int32) (S' : ST) (hm : gfX11_law_130 x S  = some (r, S')) : Agr wX11_law_130 S S' := fbX11_law_130_0 x S  r S' hm
def wX11_fault_130 : List (Nat × Nat) × List Nat × List Nat × List Nat := ([], [], [], [])
set_option maxHeartbeats 4000000 in
set_option maxRecDepth 20000 in
theorem fbX11_fault_130_0 (x : XT)  (S : ST)  (r : Int32) (S' : ST) (hm : bfX11_fault_130_0 x  S  = some (r, S')) : Agr wX11_fault_130 S S' := by
    unfold bfX11_fault_130_0 at hm
    cases hm
    exact Agr.rf
theorem frX11_fault_130 (x : XT) (S : ST)  (r : Int32) (S' : ST) (hm : gfX11_fault_130 x S  = some (r, S')) : Agr wX11_fault_130 S S' := fbX11_fault_130_0 x S  r S' hm
def wX11_isLaw_130 : List (Nat × Nat) × List Nat × List Nat × List Nat := ([], [], [], [])
set_option maxHeartbeats 4000000 in
set_option maxRecDepth 20000 in
theorem fbX11_isLaw_130_0 (x : XT)  (S : ST) (p1 : Int32) (r : Int32) (S' : ST) (hm : bfX11_isLaw_130_0 x  S p1 = some (r, S')) : Agr wX11_isLaw_130 S S' := by
    unfold bfX11_isLaw_130_0 at hm
    cases h1 : gfX11_lies x S p1 (-1) ((S.2.1 132 94) - 1) with
    | none => rw [h1] at hm; cases hm
    | some q2 =>
      obtain ⟨r3, S4⟩ := q2
      rw [h1] at hm
      dsimp only at hm
      have a_S4 : Agr wX11_isLaw_130 S S4 := Agr.tr Agr.rf (Agr.sub (frX11_lies x S p1 (-1) ((S.2.1 132 94) - 1) _ _ h1) (by decide))
      obtain ⟨o5, hm⟩ := oblk hm
      cases hm
      exact a_S4
theorem frX11_isLaw_130 (x : XT) (S : ST) (p1 : Int32) (r : Int32) (S' : ST) (hm : gfX11_isLaw_130 x S p1 = some (r, S')) : Agr wX11_isLaw_130 S S' := fbX11_isLaw_130_0 x S p1 r S' hm
def wX11_force_130 : List (Nat × Nat) × List Nat × List Nat × List Nat := ([(130, 0)], [131, 132], [], [])
set_option maxHeartbeats 4000000 in
set_option maxRecDepth 20000 in
theorem fbX11_force_130_0 (x : XT)  (S : ST) (p1 : Int32) (r : Int32) (S' : ST) (hm : bfX11_force_130_0 x  S p1 = some (r, S')) : Agr wX11_force_130 S S' := by
    unfold bfX11_force_130_0 at hm
    cases h1 : gfX11_isLaw_130 x S p1 with
    | none => rw [h1] at hm; cases hm
    | some q2 =>
      obtain ⟨r3, S4⟩ := q2
      rw [h1] at hm
      dsimp only at hm
      have a_S4 : Agr wX11_force_130 S S4 := Agr.tr Agr.rf (Agr.sub (frX11_isLaw_130 x S p1 _ _ h1) (by decide))
      by_cases c5 : ¬ r3 = 0
      · rw [if_pos c5] at hm
        cases h6 : gfX11_good_130 x (S4.1, (u2 S4.2.1 132 95 p1), S4.2.2.1, S4.2.2.2) (S4.2.1 132 95) with
        | none => rw [h6] at hm; cases hm
        | some q7 =>
          obtain ⟨r8, S9⟩ := q7
          rw [h6] at hm
          dsimp only at hm
          have a_S9 : Agr wX11_force_130 S S9 := Agr.tr (Agr.i a_S4 132 95 p1 (by decide)) (Agr.sub (frX11_good_130 x (S4.1, (u2 S4.2.1 132 95 p1), S4.2.2.1, S4.2.2.2) (S4.2.1 132 95) _ _ h6) (by decide))
          cases hm
          exact a_S9
      · rw [if_neg c5] at hm
        cases h10 : gfX11_refuses_130 x S4 (-2) with
        | none => rw [h10] at hm; cases hm
        | some q11 =>
          obtain ⟨r12, S13⟩ := q11
          rw [h10] at hm
          dsimp only at hm
          have a_S13 : Agr wX11_force_130 S S13 := Agr.tr a_S4 (Agr.sub (frX11_refuses_130 x S4 (-2) _ _ h10) (by decide))
          cases hm
          exact a_S13
theorem frX11_force_130 (x : XT) (S : ST) (p1 : Int32) (r : Int32) (S' : ST) (hm : gfX11_force_130 x S p1 = some (r, S')) : Agr wX11_force_130 S S' := fbX11_force_130_0 x S p1 r S' hm
def wX11_goesNow_130 : List (Nat × Nat) × List Nat × List Nat × List Nat := ([(130, 22), (130, 23), (130, 24), (130, 25)], [132, 142], [], [])
set_option maxHeartbeats 4000000 in
set_option maxRecDepth 20000 in
theorem fbX11_goesNow_130_0 (x : XT)  (S : ST) (p1 : Int32) (p2 : Int32) (r : Int32) (S' : ST) (hm : bfX11_goesNow_130_0 x  S p1 p2 = some (r, S')) : Agr wX11_goesNow_130 S S' := by
    unfold bfX11_goesNow_130_0 at hm
    obtain ⟨o1, hm⟩ := oblk hm
    cases h2 : gfX11_setsGate_130 x S p1 p2 (S.2.1 132 ((5 + p1).toNatClampNeg)) with
    | none => rw [h2] at hm; cases hm
    | some q3 =>
      obtain ⟨r4, S5⟩ := q3
      rw [h2] at hm
      dsimp only at hm
      have a_S5 : Agr wX11_goesNow_130 S S5 := Agr.tr Agr.rf (Agr.sub (frX11_setsGate_130 x S p1 p2 (S.2.1 132 ((5 + p1).toNatClampNeg)) _ _ h2) (by decide))
      cases h6 : gfX11_turnsNow_130 x S5 with
      | none => rw [h6] at hm; cases hm
      | some q7 =>
        obtain ⟨r8, S9⟩ := q7
        rw [h6] at hm
        dsimp only at hm
        have a_S9 : Agr wX11_goesNow_130 S S9 := Agr.tr a_S5 (Agr.sub (frX11_turnsNow_130 x S5 _ _ h6) (by decide))
        cases h10 : gfX11_paysNow_130 x S9 with
        | none => rw [h10] at hm; cases hm
        | some q11 =>
          obtain ⟨r12, S13⟩ := q11
          rw [h10] at hm
          dsimp only at hm
          have a_S13 : Agr wX11_goesNow_130 S S13 := Agr.tr a_S9 (Agr.sub (frX11_paysNow_130 x S9 _ _ h10) (by decide))
          obtain ⟨o14, hm⟩ := oblk hm
          obtain ⟨o15, hm⟩ := oblk hm
          obtain ⟨o16, hm⟩ := oblk hm
          obtain ⟨o17, hm⟩ := oblk hm
          cases h18 : gfX11_lesser x (S13.1, (u2 (u2 S13.2.1 132 ((0 + p1).toNatClampNeg) (S13.2.1 132 ((46 + p2).toNatClampNeg))) 132 ((5 + p1).toNatClampNeg) r8), S13.2.2.1, S13.2.2.2) 9999 (((u2 (u2 S13.2.1 132 ((0 + p1).toNatClampNeg) (S13.2.1 132 ((46 + p2).toNatClampNeg))) 132 ((5 + p1).toNatClampNeg) r8) 132 ((10 + p1).toNatClampNeg)) + r12) with
          | none => rw [h18] at hm; cases hm
          | some q19 =>
            obtain ⟨r20, S21⟩ := q19
            rw [h18] at hm
            dsimp only at hm
            have a_S21 : Agr wX11_goesNow_130 S S21 := Agr.tr (Agr.i (Agr.i a_S13 132 ((0 + p1).toNatClampNeg) (S13.2.1 132 ((46 + p2).toNatClampNeg)) (by decide)) 132 ((5 + p1).toNatClampNeg) r8 (by decide)) (Agr.sub (frX11_lesser x (S13.1, (u2 (u2 S13.2.1 132 ((0 + p1).toNatClampNeg) (S13.2.1 132 ((46 + p2).toNatClampNeg))) 132 ((5 + p1).toNatClampNeg) r8), S13.2.2.1, S13.2.2.2) 9999 (((u2 (u2 S13.2.1 132 ((0 + p1).toNatClampNeg) (S13.2.1 132 ((46 + p2).toNatClampNeg))) 132 ((5 + p1).toNatClampNeg) r8) 132 ((10 + p1).toNatClampNeg)) + r12) _ _ h18) (by decide))
            obtain ⟨o22, hm⟩ := oblk hm
            cases hm
            exact (Agr.i a_S21 132 ((10 + p1).toNatClampNeg) r20 (by decide))
theorem frX11_goesNow_130 (x : XT) (S : ST) (p1 : Int32) (p2 : Int32) (r : Int32) (S' : ST) (hm : gfX11_goesNow_130 x S p1 p2 = some (r, S')) : Agr wX11_goesNow_130 S S' := fbX11_goesNow_130_0 x S p1 p2 r S' hm
def wX11_keeps_130 : List (Nat × Nat) × List Nat × List Nat × List Nat := ([(130, 31)], [143], [], [])
set_option maxHeartbeats 4000000 in
set_option maxRecDepth 20000 in
theorem fbX11_keeps_130_54 (x : XT) (k54 : ST → Int32 → Int32 → Int32 → Option (Unit × ST)) (ak54 : ∀ (S : ST) (v1 : Int32) (v2 : Int32) (v3 : Int32) (r : Unit) (S' : ST), k54 S v1 v2 v3 = some (r, S') → Agr wX11_keeps_130 S S') (S : ST) (v1 : Int32) (v2 : Int32) (v3 : Int32) (r : Unit) (S' : ST) (hm : bfX11_keeps_130_54 x k54 S v1 v2 v3 = some (r, S')) : Agr wX11_keeps_130 S S' := by
    unfold bfX11_keeps_130_54 at hm
    by_cases c1 : 36 ≤ v3
    · rw [if_pos c1] at hm
      obtain ⟨o2, hm⟩ := oblk hm
      cases hm
      exact (Agr.i (Agr.f Agr.rf 130 31 ((S.1 130 31) + 1) (by decide)) 143 (((v2 * (S.1 130 31)) + 36).toNatClampNeg) v1 (by decide))
    · rw [if_neg c1] at hm
      obtain ⟨o3, hm⟩ := oblk hm
      obtain ⟨o4, hm⟩ := oblk hm
      exact Agr.tr (Agr.i Agr.rf 143 (((v2 * (S.1 130 31)) + v3).toNatClampNeg) (S.2.1 132 v3.toNatClampNeg) (by decide)) (ak54 (S.1, (u2 S.2.1 143 (((v2 * (S.1 130 31)) + v3).toNatClampNeg) (S.2.1 132 v3.toNatClampNeg)), S.2.2.1, S.2.2.2) v1 v2 (v3 + 1) _ _ hm)
theorem flX11_keeps_130_54 (x : XT)  : ∀ (n : Nat) (S : ST) (v1 : Int32) (v2 : Int32) (v3 : Int32) (r : Unit) (S' : ST), lfX11_keeps_130_54 x  n S v1 v2 v3 = some (r, S') → Agr wX11_keeps_130 S S'
  | 0, _, _, _, _, _, _, hm => by cases hm
  | n + 1, S, v1, v2, v3, r, S', hm => fbX11_keeps_130_54 x (lfX11_keeps_130_54 x  n) (flX11_keeps_130_54 x  n) S v1 v2 v3 r S' hm
set_option maxHeartbeats 4000000 in
set_option maxRecDepth 20000 in
theorem fbX11_keeps_130_52 (x : XT)  (S : ST) (v1 : Int32) (v2 : Int32) (r : Unit) (S' : ST) (hm : bfX11_keeps_130_52 x  S v1 v2 = some (r, S')) : Agr wX11_keeps_130 S S' := by
    unfold bfX11_keeps_130_52 at hm
    exact Agr.tr Agr.rf (flX11_keeps_130_54 x  20000 S v1 v2 0 _ _ hm)
set_option maxHeartbeats 4000000 in
set_option maxRecDepth 20000 in
theorem fbX11_keeps_130_14 (x : XT) (k14 : ST → Int32 → Int32 → Int32 → Option (Unit × ST)) (ak14 : ∀ (S : ST) (v1 : Int32) (v2 : Int32) (v3 : Int32) (r : Unit) (S' : ST), k14 S v1 v2 v3 = some (r, S') → Agr wX11_keeps_130 S S') (S : ST) (v1 : Int32) (v2 : Int32) (v3 : Int32) (r : Unit) (S' : ST) (hm : bfX11_keeps_130_14 x k14 S v1 v2 v3 = some (r, S')) : Agr wX11_keeps_130 S S' := by
    unfold bfX11_keeps_130_14 at hm
    by_cases c1 : (15 * v2) ≤ v3
    · rw [if_pos c1] at hm
      exact Agr.tr (Agr.f Agr.rf 130 31 ((S.1 130 31) - 1) (by decide)) (fbX11_keeps_130_52 x  ((u2 S.1 130 31 ((S.1 130 31) - 1)), S.2.1, S.2.2.1, S.2.2.2) v1 v2 _ _ hm)
    · rw [if_neg c1] at hm
      obtain ⟨o2, hm⟩ := oblk hm
      obtain ⟨o3, hm⟩ := oblk hm
      exact Agr.tr (Agr.i Agr.rf 143 v3.toNatClampNeg (S.2.1 143 ((v3 + v2).toNatClampNeg)) (by decide)) (ak14 (S.1, (u2 S.2.1 143 v3.toNatClampNeg (S.2.1 143 ((v3 + v2).toNatClampNeg))), S.2.2.1, S.2.2.2) v1 v2 (v3 + 1) _ _ hm)
theorem flX11_keeps_130_14 (x : XT)  : ∀ (n : Nat) (S : ST) (v1 : Int32) (v2 : Int32) (v3 : Int32) (r : Unit) (S' : ST), lfX11_keeps_130_14 x  n S v1 v2 v3 = some (r, S') → Agr wX11_keeps_130 S S'
  | 0, _, _, _, _, _, _, hm => by cases hm
  | n + 1, S, v1, v2, v3, r, S', hm => fbX11_keeps_130_14 x (lfX11_keeps_130_14 x  n) (flX11_keeps_130_14 x  n) S v1 v2 v3 r S' hm
set_option maxHeartbeats 4000000 in
set_option maxRecDepth 20000 in
theorem fbX11_keeps_130_0 (x : XT)  (S : ST) (p1 : Int32) (r : Unit) (S' : ST) (hm : bfX11_keeps_130_0 x  S p1 = some (r, S')) : Agr wX11_keeps_130 S S' := by
    unfold bfX11_keeps_130_0 at hm
    by_cases c1 : ¬ (S.1 130 31) = 16
    · rw [if_pos c1] at hm
      exact Agr.tr Agr.rf (fbX11_keeps_130_52 x  S p1 37 _ _ hm)
    · rw [if_neg c1] at hm
      exact Agr.tr Agr.rf (flX11_keeps_130_14 x  20000 S p1 37 0 _ _ hm)
theorem frX11_keeps_130 (x : XT) (S : ST) (p1 : Int32) (r : Unit) (S' : ST) (hm : gfX11_keeps_130 x S p1 = some (r, S')) : Agr wX11_keeps_130 S S' := fbX11_keeps_130_0 x S p1 r S' hm
def wX11_undo_130 : List (Nat × Nat) × List Nat × List Nat × List Nat := ([(130, 0), (130, 31)], [131, 132], [], [])
set_option maxHeartbeats 4000000 in
set_option maxRecDepth 20000 in
theorem fbX11_undo_130_34 (x : XT) (k34 : ST → Int32 → Int32 → Option (Int32 × ST)) (ak34 : ∀ (S : ST) (v1 : Int32) (v2 : Int32) (r : Int32) (S' : ST), k34 S v1 v2 = some (r, S') → Agr wX11_undo_130 S S') (S : ST) (v1 : Int32) (v2 : Int32) (r : Int32) (S' : ST) (hm : bfX11_undo_130_34 x k34 S v1 v2 = some (r, S')) : Agr wX11_undo_130 S S' := by
    unfold bfX11_undo_130_34 at hm
    by_cases c1 : 36 ≤ v2
    · rw [if_pos c1] at hm
      obtain ⟨o2, hm⟩ := oblk hm
      cases h3 : gfX11_good_130 x S (S.2.1 143 ((v1 + 36).toNatClampNeg)) with
      | none => rw [h3] at hm; cases hm
      | some q4 =>
        obtain ⟨r5, S6⟩ := q4
        rw [h3] at hm
        dsimp only at hm
        have a_S6 : Agr wX11_undo_130 S S6 := Agr.tr Agr.rf (Agr.sub (frX11_good_130 x S (S.2.1 143 ((v1 + 36).toNatClampNeg)) _ _ h3) (by decide))
        cases hm
        exact a_S6
    · rw [if_neg c1] at hm
      obtain ⟨o7, hm⟩ := oblk hm
      obtain ⟨o8, hm⟩ := oblk hm
      exact Agr.tr (Agr.i Agr.rf 132 v2.toNatClampNeg (S.2.1 143 ((v1 + v2).toNatClampNeg)) (by decide)) (ak34 (S.1, (u2 S.2.1 132 v2.toNatClampNeg (S.2.1 143 ((v1 + v2).toNatClampNeg))), S.2.2.1, S.2.2.2) v1 (v2 + 1) _ _ hm)
theorem flX11_undo_130_34 (x : XT)  : ∀ (n : Nat) (S : ST) (v1 : Int32) (v2 : Int32) (r : Int32) (S' : ST), lfX11_undo_130_34 x  n S v1 v2 = some (r, S') → Agr wX11_undo_130 S S'
  | 0, _, _, _, _, _, hm => by cases hm
  | n + 1, S, v1, v2, r, S', hm => fbX11_undo_130_34 x (lfX11_undo_130_34 x  n) (flX11_undo_130_34 x  n) S v1 v2 r S' hm
set_option maxHeartbeats 4000000 in
set_option maxRecDepth 20000 in
theorem fbX11_undo_130_0 (x : XT)  (S : ST)  (r : Int32) (S' : ST) (hm : bfX11_undo_130_0 x  S  = some (r, S')) : Agr wX11_undo_130 S S' := by
    unfold bfX11_undo_130_0 at hm
    by_cases c1 : ¬ (S.1 130 31) = 0
    · rw [if_pos c1] at hm
      exact Agr.tr (Agr.f Agr.rf 130 31 ((S.1 130 31) - 1) (by decide)) (flX11_undo_130_34 x  20000 ((u2 S.1 130 31 ((S.1 130 31) - 1)), S.2.1, S.2.2.1, S.2.2.2) (37 * ((S.1 130 31) - 1)) 0 _ _ hm)
    · rw [if_neg c1] at hm
      cases h2 : gfX11_refuses_130 x S (-3) with
      | none => rw [h2] at hm; cases hm
      | some q3 =>
        obtain ⟨r4, S5⟩ := q3
        rw [h2] at hm
        dsimp only at hm
        have a_S5 : Agr wX11_undo_130 S S5 := Agr.tr Agr.rf (Agr.sub (frX11_refuses_130 x S (-3) _ _ h2) (by decide))
        cases hm
        exact a_S5
theorem frX11_undo_130 (x : XT) (S : ST)  (r : Int32) (S' : ST) (hm : gfX11_undo_130 x S  = some (r, S')) : Agr wX11_undo_130 S S' := fbX11_undo_130_0 x S  r S' hm
def wX11_goodOr_130 : List (Nat × Nat) × List Nat × List Nat × List Nat := ([(130, 0)], [131], [], [])
set_option maxHeartbeats 4000000 in
set_option maxRecDepth 20000 in
theorem fbX11_goodOr_130_17 (x : XT)  (S : ST) (t0 : Int32) (r : Int32) (S' : ST) (hm : bfX11_goodOr_130_17 x  S t0 = some (r, S')) : Agr wX11_goodOr_130 S S' := by
    unfold bfX11_goodOr_130_17 at hm
    cases hm
    exact Agr.rf
set_option maxHeartbeats 4000000 in
set_option maxRecDepth 20000 in
theorem fbX11_goodOr_130_0 (x : XT)  (S : ST) (p1 : Int32) (r : Int32) (S' : ST) (hm : bfX11_goodOr_130_0 x  S p1 = some (r, S')) : Agr wX11_goodOr_130 S S' := by
    unfold bfX11_goodOr_130_0 at hm
    by_cases c1 : 0 ≤ p1
    · rw [if_pos c1] at hm
      cases h2 : gfX11_good_130 x S p1 with
      | none => rw [h2] at hm; cases hm
      | some q3 =>
        obtain ⟨r4, S5⟩ := q3
        rw [h2] at hm
        dsimp only at hm
        have a_S5 : Agr wX11_goodOr_130 S S5 := Agr.tr Agr.rf (Agr.sub (frX11_good_130 x S p1 _ _ h2) (by decide))
        exact Agr.tr a_S5 (fbX11_goodOr_130_17 x  S5 r4 _ _ hm)
    · rw [if_neg c1] at hm
      cases h6 : gfX11_refuses_130 x S p1 with
      | none => rw [h6] at hm; cases hm
      | some q7 =>
        obtain ⟨r8, S9⟩ := q7
        rw [h6] at hm
        dsimp only at hm
        have a_S9 : Agr wX11_goodOr_130 S S9 := Agr.tr Agr.rf (Agr.sub (frX11_refuses_130 x S p1 _ _ h6) (by decide))
        exact Agr.tr a_S9 (fbX11_goodOr_130_17 x  S9 r8 _ _ hm)
theorem frX11_goodOr_130 (x : XT) (S : ST) (p1 : Int32) (r : Int32) (S' : ST) (hm : gfX11_goodOr_130 x S p1 = some (r, S')) : Agr wX11_goodOr_130 S S' := fbX11_goodOr_130_0 x S p1 r S' hm
end FRA
