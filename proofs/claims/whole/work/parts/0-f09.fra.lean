section FRA
def wX11_testOf_130 : List (Nat × Nat) × List Nat × List Nat × List Nat := ([(130, 22), (130, 24)], [], [], [])
set_option maxHeartbeats 4000000 in
set_option maxRecDepth 20000 in
theorem fbX11_testOf_130_45 (x : XT) (rec_X11_testOf : ST → Int32 → Option (Int32 × ST)) (arec_X11_testOf : ∀ (S : ST) (z0 : Int32) (r : Int32) (S' : ST), rec_X11_testOf S z0 = some (r, S') → Agr wX11_testOf_130 S S') (rec_X11_bothOf : ST → Int32 → Option (Int32 × ST)) (arec_X11_bothOf : ∀ (S : ST) (z0 : Int32) (r : Int32) (S' : ST), rec_X11_bothOf S z0 = some (r, S') → Agr wX11_testOf_130 S S') (rec_X11_plainOf : ST → Int32 → Option (Int32 × ST)) (arec_X11_plainOf : ∀ (S : ST) (z0 : Int32) (r : Int32) (S' : ST), rec_X11_plainOf S z0 = some (r, S') → Agr wX11_testOf_130 S S') (rec_X11_positiveOf : ST → Int32 → Option (Int32 × ST)) (arec_X11_positiveOf : ∀ (S : ST) (z0 : Int32) (r : Int32) (S' : ST), rec_X11_positiveOf S z0 = some (r, S') → Agr wX11_testOf_130 S S') (k6 : ST → Int32 → Int32 → Option (Int32 × ST)) (ak6 : ∀ (S : ST) (v1 : Int32) (v2 : Int32) (r : Int32) (S' : ST), k6 S v1 v2 = some (r, S') → Agr wX11_testOf_130 S S') (S : ST) (v1 : Int32) (t0 : Int32) (r : Int32) (S' : ST) (hm : bfX11_testOf_130_45 x rec_X11_testOf rec_X11_bothOf rec_X11_plainOf rec_X11_positiveOf k6 S v1 t0 = some (r, S')) : Agr wX11_testOf_130 S S' := by
    unfold bfX11_testOf_130_45 at hm
    exact Agr.tr Agr.rf (ak6 S v1 t0 _ _ hm)
set_option maxHeartbeats 4000000 in
set_option maxRecDepth 20000 in
theorem fbX11_testOf_130_40 (x : XT) (rec_X11_testOf : ST → Int32 → Option (Int32 × ST)) (arec_X11_testOf : ∀ (S : ST) (z0 : Int32) (r : Int32) (S' : ST), rec_X11_testOf S z0 = some (r, S') → Agr wX11_testOf_130 S S') (rec_X11_bothOf : ST → Int32 → Option (Int32 × ST)) (arec_X11_bothOf : ∀ (S : ST) (z0 : Int32) (r : Int32) (S' : ST), rec_X11_bothOf S z0 = some (r, S') → Agr wX11_testOf_130 S S') (rec_X11_plainOf : ST → Int32 → Option (Int32 × ST)) (arec_X11_plainOf : ∀ (S : ST) (z0 : Int32) (r : Int32) (S' : ST), rec_X11_plainOf S z0 = some (r, S') → Agr wX11_testOf_130 S S') (rec_X11_positiveOf : ST → Int32 → Option (Int32 × ST)) (arec_X11_positiveOf : ∀ (S : ST) (z0 : Int32) (r : Int32) (S' : ST), rec_X11_positiveOf S z0 = some (r, S') → Agr wX11_testOf_130 S S') (k6 : ST → Int32 → Int32 → Option (Int32 × ST)) (ak6 : ∀ (S : ST) (v1 : Int32) (v2 : Int32) (r : Int32) (S' : ST), k6 S v1 v2 = some (r, S') → Agr wX11_testOf_130 S S') (S : ST) (v1 : Int32) (r : Int32) (S' : ST) (hm : bfX11_testOf_130_40 x rec_X11_testOf rec_X11_bothOf rec_X11_plainOf rec_X11_positiveOf k6 S v1 = some (r, S')) : Agr wX11_testOf_130 S S' := by
    unfold bfX11_testOf_130_40 at hm
    exact Agr.tr Agr.rf (fbX11_testOf_130_45 x rec_X11_testOf arec_X11_testOf rec_X11_bothOf arec_X11_bothOf rec_X11_plainOf arec_X11_plainOf rec_X11_positiveOf arec_X11_positiveOf k6 ak6 S v1 1 _ _ hm)
set_option maxHeartbeats 4000000 in
set_option maxRecDepth 20000 in
theorem fbX11_testOf_130_28 (x : XT) (rec_X11_testOf : ST → Int32 → Option (Int32 × ST)) (arec_X11_testOf : ∀ (S : ST) (z0 : Int32) (r : Int32) (S' : ST), rec_X11_testOf S z0 = some (r, S') → Agr wX11_testOf_130 S S') (rec_X11_bothOf : ST → Int32 → Option (Int32 × ST)) (arec_X11_bothOf : ∀ (S : ST) (z0 : Int32) (r : Int32) (S' : ST), rec_X11_bothOf S z0 = some (r, S') → Agr wX11_testOf_130 S S') (rec_X11_plainOf : ST → Int32 → Option (Int32 × ST)) (arec_X11_plainOf : ∀ (S : ST) (z0 : Int32) (r : Int32) (S' : ST), rec_X11_plainOf S z0 = some (r, S') → Agr wX11_testOf_130 S S') (rec_X11_positiveOf : ST → Int32 → Option (Int32 × ST)) (arec_X11_positiveOf : ∀ (S : ST) (z0 : Int32) (r : Int32) (S' : ST), rec_X11_positiveOf S z0 = some (r, S') → Agr wX11_testOf_130 S S') (k6 : ST → Int32 → Int32 → Option (Int32 × ST)) (ak6 : ∀ (S : ST) (v1 : Int32) (v2 : Int32) (r : Int32) (S' : ST), k6 S v1 v2 = some (r, S') → Agr wX11_testOf_130 S S') (S : ST) (v1 : Int32) (v2 : Int32) (t1 : Int32) (r : Int32) (S' : ST) (hm : bfX11_testOf_130_28 x rec_X11_testOf rec_X11_bothOf rec_X11_plainOf rec_X11_positiveOf k6 S v1 v2 t1 = some (r, S')) : Agr wX11_testOf_130 S S' := by
    unfold bfX11_testOf_130_28 at hm
    cases h1 : rec_X11_bothOf S t1 with
    | none => rw [h1] at hm; cases hm
    | some q2 =>
      obtain ⟨r3, S4⟩ := q2
      rw [h1] at hm
      dsimp only at hm
      have a_S4 : Agr wX11_testOf_130 S S4 := Agr.tr Agr.rf (arec_X11_bothOf S t1 _ _ h1)
      by_cases c5 : ¬ v2 = 0
      · rw [if_pos c5] at hm
        exact Agr.tr a_S4 (fbX11_testOf_130_40 x rec_X11_testOf arec_X11_testOf rec_X11_bothOf arec_X11_bothOf rec_X11_plainOf arec_X11_plainOf rec_X11_positiveOf arec_X11_positiveOf k6 ak6 S4 v1 _ _ hm)
      · rw [if_neg c5] at hm
        by_cases c6 : r3 = 0
        · rw [if_pos c6] at hm
          exact Agr.tr a_S4 (fbX11_testOf_130_45 x rec_X11_testOf arec_X11_testOf rec_X11_bothOf arec_X11_bothOf rec_X11_plainOf arec_X11_plainOf rec_X11_positiveOf arec_X11_positiveOf k6 ak6 S4 v1 0 _ _ hm)
        · rw [if_neg c6] at hm
          exact Agr.tr a_S4 (fbX11_testOf_130_40 x rec_X11_testOf arec_X11_testOf rec_X11_bothOf arec_X11_bothOf rec_X11_plainOf arec_X11_plainOf rec_X11_positiveOf arec_X11_positiveOf k6 ak6 S4 v1 _ _ hm)
set_option maxHeartbeats 4000000 in
set_option maxRecDepth 20000 in
theorem fbX11_testOf_130_27 (x : XT) (rec_X11_testOf : ST → Int32 → Option (Int32 × ST)) (arec_X11_testOf : ∀ (S : ST) (z0 : Int32) (r : Int32) (S' : ST), rec_X11_testOf S z0 = some (r, S') → Agr wX11_testOf_130 S S') (rec_X11_bothOf : ST → Int32 → Option (Int32 × ST)) (arec_X11_bothOf : ∀ (S : ST) (z0 : Int32) (r : Int32) (S' : ST), rec_X11_bothOf S z0 = some (r, S') → Agr wX11_testOf_130 S S') (rec_X11_plainOf : ST → Int32 → Option (Int32 × ST)) (arec_X11_plainOf : ∀ (S : ST) (z0 : Int32) (r : Int32) (S' : ST), rec_X11_plainOf S z0 = some (r, S') → Agr wX11_testOf_130 S S') (rec_X11_positiveOf : ST → Int32 → Option (Int32 × ST)) (arec_X11_positiveOf : ∀ (S : ST) (z0 : Int32) (r : Int32) (S' : ST), rec_X11_positiveOf S z0 = some (r, S') → Agr wX11_testOf_130 S S') (k6 : ST → Int32 → Int32 → Option (Int32 × ST)) (ak6 : ∀ (S : ST) (v1 : Int32) (v2 : Int32) (r : Int32) (S' : ST), k6 S v1 v2 = some (r, S') → Agr wX11_testOf_130 S S') (S : ST) (v1 : Int32) (v2 : Int32) (r : Int32) (S' : ST) (hm : bfX11_testOf_130_27 x rec_X11_testOf rec_X11_bothOf rec_X11_plainOf rec_X11_positiveOf k6 S v1 v2 = some (r, S')) : Agr wX11_testOf_130 S S' := by
    unfold bfX11_testOf_130_27 at hm
    exact Agr.tr Agr.rf (fbX11_testOf_130_28 x rec_X11_testOf arec_X11_testOf rec_X11_bothOf arec_X11_bothOf rec_X11_plainOf arec_X11_plainOf rec_X11_positiveOf arec_X11_positiveOf k6 ak6 S v1 v2 0 _ _ hm)
set_option maxHeartbeats 4000000 in
set_option maxRecDepth 20000 in
theorem fbX11_testOf_130_6 (x : XT) (rec_X11_testOf : ST → Int32 → Option (Int32 × ST)) (arec_X11_testOf : ∀ (S : ST) (z0 : Int32) (r : Int32) (S' : ST), rec_X11_testOf S z0 = some (r, S') → Agr wX11_testOf_130 S S') (rec_X11_bothOf : ST → Int32 → Option (Int32 × ST)) (arec_X11_bothOf : ∀ (S : ST) (z0 : Int32) (r : Int32) (S' : ST), rec_X11_bothOf S z0 = some (r, S') → Agr wX11_testOf_130 S S') (rec_X11_plainOf : ST → Int32 → Option (Int32 × ST)) (arec_X11_plainOf : ∀ (S : ST) (z0 : Int32) (r : Int32) (S' : ST), rec_X11_plainOf S z0 = some (r, S') → Agr wX11_testOf_130 S S') (rec_X11_positiveOf : ST → Int32 → Option (Int32 × ST)) (arec_X11_positiveOf : ∀ (S : ST) (z0 : Int32) (r : Int32) (S' : ST), rec_X11_positiveOf S z0 = some (r, S') → Agr wX11_testOf_130 S S') (k6 : ST → Int32 → Int32 → Option (Int32 × ST)) (ak6 : ∀ (S : ST) (v1 : Int32) (v2 : Int32) (r : Int32) (S' : ST), k6 S v1 v2 = some (r, S') → Agr wX11_testOf_130 S S') (S : ST) (v1 : Int32) (v2 : Int32) (r : Int32) (S' : ST) (hm : bfX11_testOf_130_6 x rec_X11_testOf rec_X11_bothOf rec_X11_plainOf rec_X11_positiveOf k6 S v1 v2 = some (r, S')) : Agr wX11_testOf_130 S S' := by
    unfold bfX11_testOf_130_6 at hm
    cases h1 : gfX11_passes0_130 x S 5 with
    | none => rw [h1] at hm; cases hm
    | some q2 =>
      obtain ⟨r3, S4⟩ := q2
      rw [h1] at hm
      dsimp only at hm
      have a_S4 : Agr wX11_testOf_130 S S4 := Agr.tr Agr.rf (Agr.sub (frX11_passes0_130 x S 5 _ _ h1) (by decide))
      by_cases c5 : r3 = 0
      · rw [if_pos c5] at hm
        obtain ⟨o6, hm⟩ := oblk hm
        cases hm
        exact a_S4
      · rw [if_neg c5] at hm
        by_cases c7 : v1 = 0
        · rw [if_pos c7] at hm
          exact Agr.tr a_S4 (fbX11_testOf_130_27 x rec_X11_testOf arec_X11_testOf rec_X11_bothOf arec_X11_bothOf rec_X11_plainOf arec_X11_plainOf rec_X11_positiveOf arec_X11_positiveOf k6 ak6 S4 v1 v2 _ _ hm)
        · rw [if_neg c7] at hm
          by_cases c8 : ¬ v2 = 0
          · rw [if_pos c8] at hm
            exact Agr.tr a_S4 (fbX11_testOf_130_27 x rec_X11_testOf arec_X11_testOf rec_X11_bothOf arec_X11_bothOf rec_X11_plainOf arec_X11_plainOf rec_X11_positiveOf arec_X11_positiveOf k6 ak6 S4 v1 v2 _ _ hm)
          · rw [if_neg c8] at hm
            exact Agr.tr a_S4 (fbX11_testOf_130_28 x rec_X11_testOf arec_X11_testOf rec_X11_bothOf arec_X11_bothOf rec_X11_plainOf arec_X11_plainOf rec_X11_positiveOf arec_X11_positiveOf k6 ak6 S4 v1 v2 1 _ _ hm)
theorem flX11_testOf_130_6 (x : XT) (rec_X11_testOf : ST → Int32 → Option (Int32 × ST)) (arec_X11_testOf : ∀ (S : ST) (z0 : Int32) (r : Int32) (S' : ST), rec_X11_testOf S z0 = some (r, S') → Agr wX11_testOf_130 S S') (rec_X11_bothOf : ST → Int32 → Option (Int32 × ST)) (arec_X11_bothOf : ∀ (S : ST) (z0 : Int32) (r : Int32) (S' : ST), rec_X11_bothOf S z0 = some (r, S') → Agr wX11_testOf_130 S S') (rec_X11_plainOf : ST → Int32 → Option (Int32 × ST)) (arec_X11_plainOf : ∀ (S : ST) (z0 : Int32) (r : Int32) (S' : ST), rec_X11_plainOf S z0 = some (r, S') → Agr wX11_testOf_130 S S') (rec_X11_positiveOf : ST → Int32 → Option (Int32 × ST)) (arec_X11_positiveOf : ∀ (S : ST) (z0 : Int32) (r : Int32) (S' : ST), rec_X11_positiveOf S z0 = some (r, S') → Agr wX11_testOf_130 S S')  : ∀ (n : Nat) (S : ST) (v1 : Int32) (v2 : Int32) (r : Int32) (S' : ST), lfX11_testOf_130_6 x rec_X11_testOf rec_X11_bothOf rec_X11_plainOf rec_X11_positiveOf  n S v1 v2 = some (r, S') → Agr wX11_testOf_130 S S'
  | 0, _, _, _, _, _, hm => by cases hm
  | n + 1, S, v1, v2, r, S', hm => fbX11_testOf_130_6 x rec_X11_testOf arec_X11_testOf rec_X11_bothOf arec_X11_bothOf rec_X11_plainOf arec_X11_plainOf rec_X11_positiveOf arec_X11_positiveOf (lfX11_testOf_130_6 x rec_X11_testOf rec_X11_bothOf rec_X11_plainOf rec_X11_positiveOf  n) (flX11_testOf_130_6 x rec_X11_testOf arec_X11_testOf rec_X11_bothOf arec_X11_bothOf rec_X11_plainOf arec_X11_plainOf rec_X11_positiveOf arec_X11_positiveOf  n) S v1 v2 r S' hm
set_option maxHeartbeats 4000000 in
set_option maxRecDepth 20000 in
theorem fbX11_testOf_130_0 (x : XT) (rec_X11_testOf : ST → Int32 → Option (Int32 × ST)) (arec_X11_testOf : ∀ (S : ST) (z0 : Int32) (r : Int32) (S' : ST), rec_X11_testOf S z0 = some (r, S') → Agr wX11_testOf_130 S S') (rec_X11_bothOf : ST → Int32 → Option (Int32 × ST)) (arec_X11_bothOf : ∀ (S : ST) (z0 : Int32) (r : Int32) (S' : ST), rec_X11_bothOf S z0 = some (r, S') → Agr wX11_testOf_130 S S') (rec_X11_plainOf : ST → Int32 → Option (Int32 × ST)) (arec_X11_plainOf : ∀ (S : ST) (z0 : Int32) (r : Int32) (S' : ST), rec_X11_plainOf S z0 = some (r, S') → Agr wX11_testOf_130 S S') (rec_X11_positiveOf : ST → Int32 → Option (Int32 × ST)) (arec_X11_positiveOf : ∀ (S : ST) (z0 : Int32) (r : Int32) (S' : ST), rec_X11_positiveOf S z0 = some (r, S') → Agr wX11_testOf_130 S S')  (S : ST) (p1 : Int32) (r : Int32) (S' : ST) (hm : bfX11_testOf_130_0 x rec_X11_testOf rec_X11_bothOf rec_X11_plainOf rec_X11_positiveOf  S p1 = some (r, S')) : Agr wX11_testOf_130 S S' := by
    unfold bfX11_testOf_130_0 at hm
    cases h1 : rec_X11_bothOf S p1 with
    | none => rw [h1] at hm; cases hm
    | some q2 =>
      obtain ⟨r3, S4⟩ := q2
      rw [h1] at hm
      dsimp only at hm
      have a_S4 : Agr wX11_testOf_130 S S4 := Agr.tr Agr.rf (arec_X11_bothOf S p1 _ _ h1)
      exact Agr.tr a_S4 (flX11_testOf_130_6 x rec_X11_testOf arec_X11_testOf rec_X11_bothOf arec_X11_bothOf rec_X11_plainOf arec_X11_plainOf rec_X11_positiveOf arec_X11_positiveOf  20000 S4 p1 r3 _ _ hm)
theorem frrX11_testOf_130 (x : XT) (rec_X11_testOf : ST → Int32 → Option (Int32 × ST)) (arec_X11_testOf : ∀ (S : ST) (z0 : Int32) (r : Int32) (S' : ST), rec_X11_testOf S z0 = some (r, S') → Agr wX11_testOf_130 S S') (rec_X11_bothOf : ST → Int32 → Option (Int32 × ST)) (arec_X11_bothOf : ∀ (S : ST) (z0 : Int32) (r : Int32) (S' : ST), rec_X11_bothOf S z0 = some (r, S') → Agr wX11_testOf_130 S S') (rec_X11_plainOf : ST → Int32 → Option (Int32 × ST)) (arec_X11_plainOf : ∀ (S : ST) (z0 : Int32) (r : Int32) (S' : ST), rec_X11_plainOf S z0 = some (r, S') → Agr wX11_testOf_130 S S') (rec_X11_positiveOf : ST → Int32 → Option (Int32 × ST)) (arec_X11_positiveOf : ∀ (S : ST) (z0 : Int32) (r : Int32) (S' : ST), rec_X11_positiveOf S z0 = some (r, S') → Agr wX11_testOf_130 S S') (S : ST) (p1 : Int32) (r : Int32) (S' : ST) (hm : grfX11_testOf_130 x rec_X11_testOf rec_X11_bothOf rec_X11_plainOf rec_X11_positiveOf S p1 = some (r, S')) : Agr wX11_testOf_130 S S' := fbX11_testOf_130_0 x rec_X11_testOf arec_X11_testOf rec_X11_bothOf arec_X11_bothOf rec_X11_plainOf arec_X11_plainOf rec_X11_positiveOf arec_X11_positiveOf S p1 r S' hm
set_option maxHeartbeats 4000000 in
set_option maxRecDepth 20000 in
theorem fbX11_bothOf_130_46 (x : XT) (rec_X11_testOf : ST → Int32 → Option (Int32 × ST)) (arec_X11_testOf : ∀ (S : ST) (z0 : Int32) (r : Int32) (S' : ST), rec_X11_testOf S z0 = some (r, S') → Agr wX11_testOf_130 S S') (rec_X11_bothOf : ST → Int32 → Option (Int32 × ST)) (arec_X11_bothOf : ∀ (S : ST) (z0 : Int32) (r : Int32) (S' : ST), rec_X11_bothOf S z0 = some (r, S') → Agr wX11_testOf_130 S S') (rec_X11_plainOf : ST → Int32 → Option (Int32 × ST)) (arec_X11_plainOf : ∀ (S : ST) (z0 : Int32) (r : Int32) (S' : ST), rec_X11_plainOf S z0 = some (r, S') → Agr wX11_testOf_130 S S') (rec_X11_positiveOf : ST → Int32 → Option (Int32 × ST)) (arec_X11_positiveOf : ∀ (S : ST) (z0 : Int32) (r : Int32) (S' : ST), rec_X11_positiveOf S z0 = some (r, S') → Agr wX11_testOf_130 S S') (k6 : ST → Int32 → Int32 → Option (Int32 × ST)) (ak6 : ∀ (S : ST) (v1 : Int32) (v2 : Int32) (r : Int32) (S' : ST), k6 S v1 v2 = some (r, S') → Agr wX11_testOf_130 S S') (S : ST) (v1 : Int32) (t0 : Int32) (r : Int32) (S' : ST) (hm : bfX11_bothOf_130_46 x rec_X11_testOf rec_X11_bothOf rec_X11_plainOf rec_X11_positiveOf k6 S v1 t0 = some (r, S')) : Agr wX11_testOf_130 S S' := by
    unfold bfX11_bothOf_130_46 at hm
    exact Agr.tr Agr.rf (ak6 S v1 t0 _ _ hm)
set_option maxHeartbeats 4000000 in
set_option maxRecDepth 20000 in
theorem fbX11_bothOf_130_45 (x : XT) (rec_X11_testOf : ST → Int32 → Option (Int32 × ST)) (arec_X11_testOf : ∀ (S : ST) (z0 : Int32) (r : Int32) (S' : ST), rec_X11_testOf S z0 = some (r, S') → Agr wX11_testOf_130 S S') (rec_X11_bothOf : ST → Int32 → Option (Int32 × ST)) (arec_X11_bothOf : ∀ (S : ST) (z0 : Int32) (r : Int32) (S' : ST), rec_X11_bothOf S z0 = some (r, S') → Agr wX11_testOf_130 S S') (rec_X11_plainOf : ST → Int32 → Option (Int32 × ST)) (arec_X11_plainOf : ∀ (S : ST) (z0 : Int32) (r : Int32) (S' : ST), rec_X11_plainOf S z0 = some (r, S') → Agr wX11_testOf_130 S S') (rec_X11_positiveOf : ST → Int32 → Option (Int32 × ST)) (arec_X11_positiveOf : ∀ (S : ST) (z0 : Int32) (r : Int32) (S' : ST), rec_X11_positiveOf S z0 = some (r, S') → Agr wX11_testOf_130 S S') (k6 : ST → Int32 → Int32 → Option (Int32 × ST)) (ak6 : ∀ (S : ST) (v1 : Int32) (v2 : Int32) (r : Int32) (S' : ST), k6 S v1 v2 = some (r, S') → Agr wX11_testOf_130 S S') (S : ST) (v1 : Int32) (r : Int32) (S' : ST) (hm : bfX11_bothOf_130_45 x rec_X11_testOf rec_X11_bothOf rec_X11_plainOf rec_X11_positiveOf k6 S v1 = some (r, S')) : Agr wX11_testOf_130 S S' := by
    unfold bfX11_bothOf_130_45 at hm
    exact Agr.tr Agr.rf (fbX11_bothOf_130_46 x rec_X11_testOf arec_X11_testOf rec_X11_bothOf arec_X11_bothOf rec_X11_plainOf arec_X11_plainOf rec_X11_positiveOf arec_X11_positiveOf k6 ak6 S v1 0 _ _ hm)
set_option maxHeartbeats 4000000 in
set_option maxRecDepth 20000 in
theorem fbX11_bothOf_130_29 (x : XT) (rec_X11_testOf : ST → Int32 → Option (Int32 × ST)) (arec_X11_testOf : ∀ (S : ST) (z0 : Int32) (r : Int32) (S' : ST), rec_X11_testOf S z0 = some (r, S') → Agr wX11_testOf_130 S S') (rec_X11_bothOf : ST → Int32 → Option (Int32 × ST)) (arec_X11_bothOf : ∀ (S : ST) (z0 : Int32) (r : Int32) (S' : ST), rec_X11_bothOf S z0 = some (r, S') → Agr wX11_testOf_130 S S') (rec_X11_plainOf : ST → Int32 → Option (Int32 × ST)) (arec_X11_plainOf : ∀ (S : ST) (z0 : Int32) (r : Int32) (S' : ST), rec_X11_plainOf S z0 = some (r, S') → Agr wX11_testOf_130 S S') (rec_X11_positiveOf : ST → Int32 → Option (Int32 × ST)) (arec_X11_positiveOf : ∀ (S : ST) (z0 : Int32) (r : Int32) (S' : ST), rec_X11_positiveOf S z0 = some (r, S') → Agr wX11_testOf_130 S S') (k6 : ST → Int32 → Int32 → Option (Int32 × ST)) (ak6 : ∀ (S : ST) (v1 : Int32) (v2 : Int32) (r : Int32) (S' : ST), k6 S v1 v2 = some (r, S') → Agr wX11_testOf_130 S S') (S : ST) (v1 : Int32) (v2 : Int32) (t1 : Int32) (r : Int32) (S' : ST) (hm : bfX11_bothOf_130_29 x rec_X11_testOf rec_X11_bothOf rec_X11_plainOf rec_X11_positiveOf k6 S v1 v2 t1 = some (r, S')) : Agr wX11_testOf_130 S S' := by
    unfold bfX11_bothOf_130_29 at hm
    cases h1 : rec_X11_plainOf S t1 with
    | none => rw [h1] at hm; cases hm
    | some q2 =>
      obtain ⟨r3, S4⟩ := q2
      rw [h1] at hm
      dsimp only at hm
      have a_S4 : Agr wX11_testOf_130 S S4 := Agr.tr Agr.rf (arec_X11_plainOf S t1 _ _ h1)
      by_cases c5 : v2 = 0
      · rw [if_pos c5] at hm
        exact Agr.tr a_S4 (fbX11_bothOf_130_45 x rec_X11_testOf arec_X11_testOf rec_X11_bothOf arec_X11_bothOf rec_X11_plainOf arec_X11_plainOf rec_X11_positiveOf arec_X11_positiveOf k6 ak6 S4 v1 _ _ hm)
      · rw [if_neg c5] at hm
        by_cases c6 : r3 = 0
        · rw [if_pos c6] at hm
          exact Agr.tr a_S4 (fbX11_bothOf_130_45 x rec_X11_testOf arec_X11_testOf rec_X11_bothOf arec_X11_bothOf rec_X11_plainOf arec_X11_plainOf rec_X11_positiveOf arec_X11_positiveOf k6 ak6 S4 v1 _ _ hm)
        · rw [if_neg c6] at hm
          exact Agr.tr a_S4 (fbX11_bothOf_130_46 x rec_X11_testOf arec_X11_testOf rec_X11_bothOf arec_X11_bothOf rec_X11_plainOf arec_X11_plainOf rec_X11_positiveOf arec_X11_positiveOf k6 ak6 S4 v1 1 _ _ hm)
set_option maxHeartbeats 4000000 in
set_option maxRecDepth 20000 in
theorem fbX11_bothOf_130_28 (x : XT) (rec_X11_testOf : ST → Int32 → Option (Int32 × ST)) (arec_X11_testOf : ∀ (S : ST) (z0 : Int32) (r : Int32) (S' : ST), rec_X11_testOf S z0 = some (r, S') → Agr wX11_testOf_130 S S') (rec_X11_bothOf : ST → Int32 → Option (Int32 × ST)) (arec_X11_bothOf : ∀ (S : ST) (z0 : Int32) (r : Int32) (S' : ST), rec_X11_bothOf S z0 = some (r, S') → Agr wX11_testOf_130 S S') (rec_X11_plainOf : ST → Int32 → Option (Int32 × ST)) (arec_X11_plainOf : ∀ (S : ST) (z0 : Int32) (r : Int32) (S' : ST), rec_X11_plainOf S z0 = some (r, S') → Agr wX11_testOf_130 S S') (rec_X11_positiveOf : ST → Int32 → Option (Int32 × ST)) (arec_X11_positiveOf : ∀ (S : ST) (z0 : Int32) (r : Int32) (S' : ST), rec_X11_positiveOf S z0 = some (r, S') → Agr wX11_testOf_130 S S') (k6 : ST → Int32 → Int32 → Option (Int32 × ST)) (ak6 : ∀ (S : ST) (v1 : Int32) (v2 : Int32) (r : Int32) (S' : ST), k6 S v1 v2 = some (r, S') → Agr wX11_testOf_130 S S') (S : ST) (v1 : Int32) (v2 : Int32) (r : Int32) (S' : ST) (hm : bfX11_bothOf_130_28 x rec_X11_testOf rec_X11_bothOf rec_X11_plainOf rec_X11_positiveOf k6 S v1 v2 = some (r, S')) : Agr wX11_testOf_130 S S' := by
    unfold bfX11_bothOf_130_28 at hm
    exact Agr.tr Agr.rf (fbX11_bothOf_130_29 x rec_X11_testOf arec_X11_testOf rec_X11_bothOf arec_X11_bothOf rec_X11_plainOf arec_X11_plainOf rec_X11_positiveOf arec_X11_positiveOf k6 ak6 S v1 v2 0 _ _ hm)
set_option maxHeartbeats 4000000 in
set_option maxRecDepth 20000 in
theorem fbX11_bothOf_130_6 (x : XT) (rec_X11_testOf : ST → Int32 → Option (Int32 × ST)) (arec_X11_testOf : ∀ (S : ST) (z0 : Int32) (r : Int32) (S' : ST), rec_X11_testOf S z0 = some (r, S') → Agr wX11_testOf_130 S S') (rec_X11_bothOf : ST → Int32 → Option (Int32 × ST)) (arec_X11_bothOf : ∀ (S : ST) (z0 : Int32) (r : Int32) (S' : ST), rec_X11_bothOf S z0 = some (r, S') → Agr wX11_testOf_130 S S') (rec_X11_plainOf : ST → Int32 → Option (Int32 × ST)) (arec_X11_plainOf : ∀ (S : ST) (z0 : Int32) (r : Int32) (S' : ST), rec_X11_plainOf S z0 = some (r, S') → Agr wX11_testOf_130 S S') (rec_X11_positiveOf : ST → Int32 → Option (Int32 × ST)) (arec_X11_positiveOf : ∀ (S : ST) (z0 : Int32) (r : Int32) (S' : ST), rec_X11_positiveOf S z0 = some (r, S') → Agr wX11_testOf_130 S S') (k6 : ST → Int32 → Int32 → Option (Int32 × ST)) (ak6 : ∀ (S : ST) (v1 : Int32) (v2 : Int32) (r : Int32) (S' : ST), k6 S v1 v2 = some (r, S') → Agr wX11_testOf_130 S S') (S : ST) (v1 : Int32) (v2 : Int32) (r : Int32) (S' : ST) (hm : bfX11_bothOf_130_6 x rec_X11_testOf rec_X11_bothOf rec_X11_plainOf rec_X11_positiveOf k6 S v1 v2 = some (r, S')) : Agr wX11_testOf_130 S S' := by
    unfold bfX11_bothOf_130_6 at hm
    cases h1 : gfX11_passes0_130 x S 6 with
    | none => rw [h1] at hm; cases hm
    | some q2 =>
      obtain ⟨r3, S4⟩ := q2
      rw [h1] at hm
      dsimp only at hm
      have a_S4 : Agr wX11_testOf_130 S S4 := Agr.tr Agr.rf (Agr.sub (frX11_passes0_130 x S 6 _ _ h1) (by decide))
      by_cases c5 : r3 = 0
      · rw [if_pos c5] at hm
        obtain ⟨o6, hm⟩ := oblk hm
        cases hm
        exact a_S4
      · rw [if_neg c5] at hm
        by_cases c7 : v1 = 0
        · rw [if_pos c7] at hm
          exact Agr.tr a_S4 (fbX11_bothOf_130_28 x rec_X11_testOf arec_X11_testOf rec_X11_bothOf arec_X11_bothOf rec_X11_plainOf arec_X11_plainOf rec_X11_positiveOf arec_X11_positiveOf k6 ak6 S4 v1 v2 _ _ hm)
        · rw [if_neg c7] at hm
          by_cases c8 : v2 = 0
          · rw [if_pos c8] at hm
            exact Agr.tr a_S4 (fbX11_bothOf_130_28 x rec_X11_testOf arec_X11_testOf rec_X11_bothOf arec_X11_bothOf rec_X11_plainOf arec_X11_plainOf rec_X11_positiveOf arec_X11_positiveOf k6 ak6 S4 v1 v2 _ _ hm)
          · rw [if_neg c8] at hm
            exact Agr.tr a_S4 (fbX11_bothOf_130_29 x rec_X11_testOf arec_X11_testOf rec_X11_bothOf arec_X11_bothOf rec_X11_plainOf arec_X11_plainOf rec_X11_positiveOf arec_X11_positiveOf k6 ak6 S4 v1 v2 1 _ _ hm)
theorem flX11_bothOf_130_6 (x : XT) (rec_X11_testOf : ST → Int32 → Option (Int32 × ST)) (arec_X11_testOf : ∀ (S : ST) (z0 : Int32) (r : Int32) (S' : ST), rec_X11_testOf S z0 = some (r, S') → Agr wX11_testOf_130 S S') (rec_X11_bothOf : ST → Int32 → Option (Int32 × ST)) (arec_X11_bothOf : ∀ (S : ST) (z0 : Int32) (r : Int32) (S' : ST), rec_X11_bothOf S z0 = some (r, S') → Agr wX11_testOf_130 S S') (rec_X11_plainOf : ST → Int32 → Option (Int32 × ST)) (arec_X11_plainOf : ∀ (S : ST) (z0 : Int32) (r : Int32) (S' : ST), rec_X11_plainOf S z0 = some (r, S') → Agr wX11_testOf_130 S S') (rec_X11_positiveOf : ST → Int32 → Option (Int32 × ST)) (arec_X11_positiveOf : ∀ (S : ST) (z0 : Int32) (r : Int32) (S' : ST), rec_X11_positiveOf S z0 = some (r, S') → Agr wX11_testOf_130 S S')  : ∀ (n : Nat) (S : ST) (v1 : Int32) (v2 : Int32) (r : Int32) (S' : ST), lfX11_bothOf_130_6 x rec_X11_testOf rec_X11_bothOf rec_X11_plainOf rec_X11_positiveOf  n S v1 v2 = some (r, S') → Agr wX11_testOf_130 S S'
  | 0, _, _, _, _, _, hm => by cases hm
  | n + 1, S, v1, v2, r, S', hm => fbX11_bothOf_130_6 x rec_X11_testOf arec_X11_testOf rec_X11_bothOf arec_X11_bothOf rec_X11_plainOf arec_X11_plainOf rec_X11_positiveOf arec_X11_positiveOf (lfX11_bothOf_130_6 x rec_X11_testOf rec_X11_bothOf rec_X11_plainOf rec_X11_positiveOf  n) (flX11_bothOf_130_6 x rec_X11_testOf arec_X11_testOf rec_X11_bothOf arec_X11_bothOf rec_X11_plainOf arec_X11_plainOf rec_X11_positiveOf arec_X11_positiveOf  n) S v1 v2 r S' hm
set_option maxHeartbeats 4000000 in
set_option maxRecDepth 20000 in
theorem fbX11_bothOf_130_0 (x : XT) (rec_X11_testOf : ST → Int32 → Option (Int32 × ST)) (arec_X11_testOf : ∀ (S : ST) (z0 : Int32) (r : Int32) (S' : ST), rec_X11_testOf S z0 = some (r, S') → Agr wX11_testOf_130 S S') (rec_X11_bothOf : ST → Int32 → Option (Int32 × ST)) (arec_X11_bothOf : ∀ (S : ST) (z0 : Int32) (r : Int32) (S' : ST), rec_X11_bothOf S z0 = some (r, S') → Agr wX11_testOf_130 S S') (rec_X11_plainOf : ST → Int32 → Option (Int32 × ST)) (arec_X11_plainOf : ∀ (S : ST) (z0 : Int32) (r : Int32) (S' : ST), rec_X11_plainOf S z0 = some (r, S') → Agr wX11_testOf_130 S S') (rec_X11_positiveOf : ST → Int32 → Option (Int32 × ST)) (arec_X11_positiveOf : ∀ (S : ST) (z0 : Int32) (r : Int32) (S' : ST), rec_X11_positiveOf S z0 = some (r, S') → Agr wX11_testOf_130 S S')  (S : ST) (p1 : Int32) (r : Int32) (S' : ST) (hm : bfX11_bothOf_130_0 x rec_X11_testOf rec_X11_bothOf rec_X11_plainOf rec_X11_positiveOf  S p1 = some (r, S')) : Agr wX11_testOf_130 S S' := by
    unfold bfX11_bothOf_130_0 at hm
    cases h1 : rec_X11_plainOf S p1 with
    | none => rw [h1] at hm; cases hm
    | some q2 =>
      obtain ⟨r3, S4⟩ := q2
      rw [h1] at hm
      dsimp only at hm
      have a_S4 : Agr wX11_testOf_130 S S4 := Agr.tr Agr.rf (arec_X11_plainOf S p1 _ _ h1)
      exact Agr.tr a_S4 (flX11_bothOf_130_6 x rec_X11_testOf arec_X11_testOf rec_X11_bothOf arec_X11_bothOf rec_X11_plainOf arec_X11_plainOf rec_X11_positiveOf arec_X11_positiveOf  20000 S4 p1 r3 _ _ hm)
theorem frrX11_bothOf_130 (x : XT) (rec_X11_testOf : ST → Int32 → Option (Int32 × ST)) (arec_X11_testOf : ∀ (S : ST) (z0 : Int32) (r : Int32) (S' : ST), rec_X11_testOf S z0 = some (r, S') → Agr wX11_testOf_130 S S') (rec_X11_bothOf : ST → Int32 → Option (Int32 × ST)) (arec_X11_bothOf : ∀ (S : ST) (z0 : Int32) (r : Int32) (S' : ST), rec_X11_bothOf S z0 = some (r, S') → Agr wX11_testOf_130 S S') (rec_X11_plainOf : ST → Int32 → Option (Int32 × ST)) (arec_X11_plainOf : ∀ (S : ST) (z0 : Int32) (r : Int32) (S' : ST), rec_X11_plainOf S z0 = some (r, S') → Agr wX11_testOf_130 S S') (rec_X11_positiveOf : ST → Int32 → Option (Int32 × ST)) (arec_X11_positiveOf : ∀ (S : ST) (z0 : Int32) (r : Int32) (S' : ST), rec_X11_positiveOf S z0 = some (r, S') → Agr wX11_testOf_130 S S') (S : ST) (p1 : Int32) (r : Int32) (S' : ST) (hm : grfX11_bothOf_130 x rec_X11_testOf rec_X11_bothOf rec_X11_plainOf rec_X11_positiveOf S p1 = some (r, S')) : Agr wX11_testOf_130 S S' := fbX11_bothOf_130_0 x rec_X11_testOf arec_X11_testOf rec_X11_bothOf arec_X11_bothOf rec_X11_plainOf arec_X11_plainOf rec_X11_positiveOf arec_X11_positiveOf S p1 r S' hm
set_option maxHeartbeats 4000000 in
set_option maxRecDepth 20000 in
theorem fbX11_plainOf_130_38 (x : XT) (rec_X11_testOf : ST → Int32 → Option (Int32 × ST)) (arec_X11_testOf : ∀ (S : ST) (z0 : Int32) (r : Int32) (S' : ST), rec_X11_testOf S z0 = some (r, S') → Agr wX11_testOf_130 S S') (rec_X11_bothOf : ST → Int32 → Option (Int32 × ST)) (arec_X11_bothOf : ∀ (S : ST) (z0 : Int32) (r : Int32) (S' : ST), rec_X11_bothOf S z0 = some (r, S') → Agr wX11_testOf_130 S S') (rec_X11_plainOf : ST → Int32 → Option (Int32 × ST)) (arec_X11_plainOf : ∀ (S : ST) (z0 : Int32) (r : Int32) (S' : ST), rec_X11_plainOf S z0 = some (r, S') → Agr wX11_testOf_130 S S') (rec_X11_positiveOf : ST → Int32 → Option (Int32 × ST)) (arec_X11_positiveOf : ∀ (S : ST) (z0 : Int32) (r : Int32) (S' : ST), rec_X11_positiveOf S z0 = some (r, S') → Agr wX11_testOf_130 S S')  (S : ST) (t0 : Int32) (r : Int32) (S' : ST) (hm : bfX11_plainOf_130_38 x rec_X11_testOf rec_X11_bothOf rec_X11_plainOf rec_X11_positiveOf  S t0 = some (r, S')) : Agr wX11_testOf_130 S S' := by
    unfold bfX11_plainOf_130_38 at hm
    obtain ⟨o1, hm⟩ := oblk hm
    cases hm
    exact Agr.rf
set_option maxHeartbeats 4000000 in
set_option maxRecDepth 20000 in
theorem fbX11_plainOf_130_20 (x : XT) (rec_X11_testOf : ST → Int32 → Option (Int32 × ST)) (arec_X11_testOf : ∀ (S : ST) (z0 : Int32) (r : Int32) (S' : ST), rec_X11_testOf S z0 = some (r, S') → Agr wX11_testOf_130 S S') (rec_X11_bothOf : ST → Int32 → Option (Int32 × ST)) (arec_X11_bothOf : ∀ (S : ST) (z0 : Int32) (r : Int32) (S' : ST), rec_X11_bothOf S z0 = some (r, S') → Agr wX11_testOf_130 S S') (rec_X11_plainOf : ST → Int32 → Option (Int32 × ST)) (arec_X11_plainOf : ∀ (S : ST) (z0 : Int32) (r : Int32) (S' : ST), rec_X11_plainOf S z0 = some (r, S') → Agr wX11_testOf_130 S S') (rec_X11_positiveOf : ST → Int32 → Option (Int32 × ST)) (arec_X11_positiveOf : ∀ (S : ST) (z0 : Int32) (r : Int32) (S' : ST), rec_X11_positiveOf S z0 = some (r, S') → Agr wX11_testOf_130 S S') (k2 : ST → Int32 → Int32 → Option (Int32 × ST)) (ak2 : ∀ (S : ST) (v1 : Int32) (v2 : Int32) (r : Int32) (S' : ST), k2 S v1 v2 = some (r, S') → Agr wX11_testOf_130 S S') (S : ST) (v1 : Int32) (t0 : Int32) (r : Int32) (S' : ST) (hm : bfX11_plainOf_130_20 x rec_X11_testOf rec_X11_bothOf rec_X11_plainOf rec_X11_positiveOf k2 S v1 t0 = some (r, S')) : Agr wX11_testOf_130 S S' := by
    unfold bfX11_plainOf_130_20 at hm
    exact Agr.tr Agr.rf (ak2 S v1 t0 _ _ hm)
set_option maxHeartbeats 4000000 in
set_option maxRecDepth 20000 in
theorem fbX11_plainOf_130_2 (x : XT) (rec_X11_testOf : ST → Int32 → Option (Int32 × ST)) (arec_X11_testOf : ∀ (S : ST) (z0 : Int32) (r : Int32) (S' : ST), rec_X11_testOf S z0 = some (r, S') → Agr wX11_testOf_130 S S') (rec_X11_bothOf : ST → Int32 → Option (Int32 × ST)) (arec_X11_bothOf : ∀ (S : ST) (z0 : Int32) (r : Int32) (S' : ST), rec_X11_bothOf S z0 = some (r, S') → Agr wX11_testOf_130 S S') (rec_X11_plainOf : ST → Int32 → Option (Int32 × ST)) (arec_X11_plainOf : ∀ (S : ST) (z0 : Int32) (r : Int32) (S' : ST), rec_X11_plainOf S z0 = some (r, S') → Agr wX11_testOf_130 S S') (rec_X11_positiveOf : ST → Int32 → Option (Int32 × ST)) (arec_X11_positiveOf : ∀ (S : ST) (z0 : Int32) (r : Int32) (S' : ST), rec_X11_positiveOf S z0 = some (r, S') → Agr wX11_testOf_130 S S') (k2 : ST → Int32 → Int32 → Option (Int32 × ST)) (ak2 : ∀ (S : ST) (v1 : Int32) (v2 : Int32) (r : Int32) (S' : ST), k2 S v1 v2 = some (r, S') → Agr wX11_testOf_130 S S') (S : ST) (v1 : Int32) (v2 : Int32) (r : Int32) (S' : ST) (hm : bfX11_plainOf_130_2 x rec_X11_testOf rec_X11_bothOf rec_X11_plainOf rec_X11_positiveOf k2 S v1 v2 = some (r, S')) : Agr wX11_testOf_130 S S' := by
    unfold bfX11_plainOf_130_2 at hm
    cases h1 : gfX11_passes0_130 x S 7 with
    | none => rw [h1] at hm; cases hm
    | some q2 =>
      obtain ⟨r3, S4⟩ := q2
      rw [h1] at hm
      dsimp only at hm
      have a_S4 : Agr wX11_testOf_130 S S4 := Agr.tr Agr.rf (Agr.sub (frX11_passes0_130 x S 7 _ _ h1) (by decide))
      by_cases c5 : r3 = 0
      · rw [if_pos c5] at hm
        cases h6 : rec_X11_positiveOf S4 v1 with
        | none => rw [h6] at hm; cases hm
        | some q7 =>
          obtain ⟨r8, S9⟩ := q7
          rw [h6] at hm
          dsimp only at hm
          have a_S9 : Agr wX11_testOf_130 S S9 := Agr.tr a_S4 (arec_X11_positiveOf S4 v1 _ _ h6)
          by_cases c10 : r8 = v2
          · rw [if_pos c10] at hm
            exact Agr.tr a_S9 (fbX11_plainOf_130_38 x rec_X11_testOf arec_X11_testOf rec_X11_bothOf arec_X11_bothOf rec_X11_plainOf arec_X11_plainOf rec_X11_positiveOf arec_X11_positiveOf  S9 0 _ _ hm)
          · rw [if_neg c10] at hm
            exact Agr.tr a_S9 (fbX11_plainOf_130_38 x rec_X11_testOf arec_X11_testOf rec_X11_bothOf arec_X11_bothOf rec_X11_plainOf arec_X11_plainOf rec_X11_positiveOf arec_X11_positiveOf  S9 1 _ _ hm)
      · rw [if_neg c5] at hm
        by_cases c11 : ¬ v2 = 0
        · rw [if_pos c11] at hm
          exact Agr.tr a_S4 (fbX11_plainOf_130_20 x rec_X11_testOf arec_X11_testOf rec_X11_bothOf arec_X11_bothOf rec_X11_plainOf arec_X11_plainOf rec_X11_positiveOf arec_X11_positiveOf k2 ak2 S4 v1 0 _ _ hm)
        · rw [if_neg c11] at hm
          exact Agr.tr a_S4 (fbX11_plainOf_130_20 x rec_X11_testOf arec_X11_testOf rec_X11_bothOf arec_X11_bothOf rec_X11_plainOf arec_X11_plainOf rec_X11_positiveOf arec_X11_positiveOf k2 ak2 S4 v1 1 _ _ hm)
theorem flX11_plainOf_130_2 (x : XT) (rec_X11_testOf : ST → Int32 → Option (Int32 × ST)) (arec_X11_testOf : ∀ (S : ST) (z0 : Int32) (r : Int32) (S' : ST), rec_X11_testOf S z0 = some (r, S') → Agr wX11_testOf_130 S S') (rec_X11_bothOf : ST → Int32 → Option (Int32 × ST)) (arec_X11_bothOf : ∀ (S : ST) (z0 : Int32) (r : Int32) (S' : ST), rec_X11_bothOf S z0 = some (r, S') → Agr wX11_testOf_130 S S') (rec_X11_plainOf : ST → Int32 → Option (Int32 × ST)) (arec_X11_plainOf : ∀ (S : ST) (z0 : Int32) (r : Int32) (S' : ST), rec_X11_plainOf S z0 = some (r, S') → Agr wX11_testOf_130 S S') (rec_X11_positiveOf : ST → Int32 → Option (Int32 × ST)) (arec_X11_positiveOf : ∀ (S : ST) (z0 : Int32) (r : Int32) (S' : ST), rec_X11_positiveOf S z0 = some (r, S') → Agr wX11_testOf_130 S S')  : ∀ (n : Nat) (S : ST) (v1 : Int32) (v2 : Int32) (r : Int32) (S' : ST), lfX11_plainOf_130_2 x rec_X11_testOf rec_X11_bothOf rec_X11_plainOf rec_X11_positiveOf  n S v1 v2 = some (r, S') → Agr wX11_testOf_130 S S'
  | 0, _, _, _, _, _, hm => by cases hm
  | n + 1, S, v1, v2, r, S', hm => fbX11_plainOf_130_2 x rec_X11_testOf arec_X11_testOf rec_X11_bothOf arec_X11_bothOf rec_X11_plainOf arec_X11_plainOf rec_X11_positiveOf arec_X11_positiveOf (lfX11_plainOf_130_2 x rec_X11_testOf rec_X11_bothOf rec_X11_plainOf rec_X11_positiveOf  n) (flX11_plainOf_130_2 x rec_X11_testOf arec_X11_testOf rec_X11_bothOf arec_X11_bothOf rec_X11_plainOf arec_X11_plainOf rec_X11_positiveOf arec_X11_positiveOf  n) S v1 v2 r S' hm
set_option maxHeartbeats 4000000 in
set_option maxRecDepth 20000 in
theorem fbX11_plainOf_130_0 (x : XT) (rec_X11_testOf : ST → Int32 → Option (Int32 × ST)) (arec_X11_testOf : ∀ (S : ST) (z0 : Int32) (r : Int32) (S' : ST), rec_X11_testOf S z0 = some (r, S') → Agr wX11_testOf_130 S S') (rec_X11_bothOf : ST → Int32 → Option (Int32 × ST)) (arec_X11_bothOf : ∀ (S : ST) (z0 : Int32) (r : Int32) (S' : ST), rec_X11_bothOf S z0 = some (r, S') → Agr wX11_testOf_130 S S') (rec_X11_plainOf : ST → Int32 → Option (Int32 × ST)) (arec_X11_plainOf : ∀ (S : ST) (z0 : Int32) (r : Int32) (S' : ST), rec_X11_plainOf S z0 = some (r, S') → Agr wX11_testOf_130 S S') (rec_X11_positiveOf : ST → Int32 → Option (Int32 × ST)) (arec_X11_positiveOf : ∀ (S : ST) (z0 : Int32) (r : Int32) (S' : ST), rec_X11_positiveOf S z0 = some (r, S') → Agr wX11_testOf_130 S S')  (S : ST) (p1 : Int32) (r : Int32) (S' : ST) (hm : bfX11_plainOf_130_0 x rec_X11_testOf rec_X11_bothOf rec_X11_plainOf rec_X11_positiveOf  S p1 = some (r, S')) : Agr wX11_testOf_130 S S' := by
    unfold bfX11_plainOf_130_0 at hm
    exact Agr.tr Agr.rf (flX11_plainOf_130_2 x rec_X11_testOf arec_X11_testOf rec_X11_bothOf arec_X11_bothOf rec_X11_plainOf arec_X11_plainOf rec_X11_positiveOf arec_X11_positiveOf  20000 S p1 0 _ _ hm)
theorem frrX11_plainOf_130 (x : XT) (rec_X11_testOf : ST → Int32 → Option (Int32 × ST)) (arec_X11_testOf : ∀ (S : ST) (z0 : Int32) (r : Int32) (S' : ST), rec_X11_testOf S z0 = some (r, S') → Agr wX11_testOf_130 S S') (rec_X11_bothOf : ST → Int32 → Option (Int32 × ST)) (arec_X11_bothOf : ∀ (S : ST) (z0 : Int32) (r : Int32) (S' : ST), rec_X11_bothOf S z0 = some (r, S') → Agr wX11_testOf_130 S S') (rec_X11_plainOf : ST → Int32 → Option (Int32 × ST)) (arec_X11_plainOf : ∀ (S : ST) (z0 : Int32) (r : Int32) (S' : ST), rec_X11_plainOf S z0 = some (r, S') → Agr wX11_testOf_130 S S') (rec_X11_positiveOf : ST → Int32 → Option (Int32 × ST)) (arec_X11_positiveOf : ∀ (S : ST) (z0 : Int32) (r : Int32) (S' : ST), rec_X11_positiveOf S z0 = some (r, S') → Agr wX11_testOf_130 S S') (S : ST) (p1 : Int32) (r : Int32) (S' : ST) (hm : grfX11_plainOf_130 x rec_X11_testOf rec_X11_bothOf rec_X11_plainOf rec_X11_positiveOf S p1 = some (r, S')) : Agr wX11_testOf_130 S S' := fbX11_plainOf_130_0 x rec_X11_testOf arec_X11_testOf rec_X11_bothOf arec_X11_bothOf rec_X11_plainOf arec_X11_plainOf rec_X11_positiveOf arec_X11_positiveOf S p1 r S' hm
set_option maxHeartbeats 4000000 in
set_option maxRecDepth 20000 in
theorem fbX11_positiveOf_130_126 (x : XT) (rec_X11_testOf : ST → Int32 → Option (Int32 × ST)) (arec_X11_testOf : ∀ (S : ST) (z0 : Int32) (r : Int32) (S' : ST), rec_X11_testOf S z0 = some (r, S') → Agr wX11_testOf_130 S S') (rec_X11_bothOf : ST → Int32 → Option (Int32 × ST)) (arec_X11_bothOf : ∀ (S : ST) (z0 : Int32) (r : Int32) (S' : ST), rec_X11_bothOf S z0 = some (r, S') → Agr wX11_testOf_130 S S') (rec_X11_plainOf : ST → Int32 → Option (Int32 × ST)) (arec_X11_plainOf : ∀ (S : ST) (z0 : Int32) (r : Int32) (S' : ST), rec_X11_plainOf S z0 = some (r, S') → Agr wX11_testOf_130 S S') (rec_X11_positiveOf : ST → Int32 → Option (Int32 × ST)) (arec_X11_positiveOf : ∀ (S : ST) (z0 : Int32) (r : Int32) (S' : ST), rec_X11_positiveOf S z0 = some (r, S') → Agr wX11_testOf_130 S S')  (S : ST) (t0 : Int32) (r : Int32) (S' : ST) (hm : bfX11_positiveOf_130_126 x rec_X11_testOf rec_X11_bothOf rec_X11_plainOf rec_X11_positiveOf  S t0 = some (r, S')) : Agr wX11_testOf_130 S S' := by
    unfold bfX11_positiveOf_130_126 at hm
    obtain ⟨o1, hm⟩ := oblk hm
    cases hm
    exact Agr.rf
set_option maxHeartbeats 4000000 in
set_option maxRecDepth 20000 in
theorem fbX11_positiveOf_130_125 (x : XT) (rec_X11_testOf : ST → Int32 → Option (Int32 × ST)) (arec_X11_testOf : ∀ (S : ST) (z0 : Int32) (r : Int32) (S' : ST), rec_X11_testOf S z0 = some (r, S') → Agr wX11_testOf_130 S S') (rec_X11_bothOf : ST → Int32 → Option (Int32 × ST)) (arec_X11_bothOf : ∀ (S : ST) (z0 : Int32) (r : Int32) (S' : ST), rec_X11_bothOf S z0 = some (r, S') → Agr wX11_testOf_130 S S') (rec_X11_plainOf : ST → Int32 → Option (Int32 × ST)) (arec_X11_plainOf : ∀ (S : ST) (z0 : Int32) (r : Int32) (S' : ST), rec_X11_plainOf S z0 = some (r, S') → Agr wX11_testOf_130 S S') (rec_X11_positiveOf : ST → Int32 → Option (Int32 × ST)) (arec_X11_positiveOf : ∀ (S : ST) (z0 : Int32) (r : Int32) (S' : ST), rec_X11_positiveOf S z0 = some (r, S') → Agr wX11_testOf_130 S S')  (S : ST)  (r : Int32) (S' : ST) (hm : bfX11_positiveOf_130_125 x rec_X11_testOf rec_X11_bothOf rec_X11_plainOf rec_X11_positiveOf  S  = some (r, S')) : Agr wX11_testOf_130 S S' := by
    unfold bfX11_positiveOf_130_125 at hm
    exact Agr.tr Agr.rf (fbX11_positiveOf_130_126 x rec_X11_testOf arec_X11_testOf rec_X11_bothOf arec_X11_bothOf rec_X11_plainOf arec_X11_plainOf rec_X11_positiveOf arec_X11_positiveOf  S 0 _ _ hm)
set_option maxHeartbeats 4000000 in
set_option maxRecDepth 20000 in
theorem fbX11_positiveOf_130_121 (x : XT) (rec_X11_testOf : ST → Int32 → Option (Int32 × ST)) (arec_X11_testOf : ∀ (S : ST) (z0 : Int32) (r : Int32) (S' : ST), rec_X11_testOf S z0 = some (r, S') → Agr wX11_testOf_130 S S') (rec_X11_bothOf : ST → Int32 → Option (Int32 × ST)) (arec_X11_bothOf : ∀ (S : ST) (z0 : Int32) (r : Int32) (S' : ST), rec_X11_bothOf S z0 = some (r, S') → Agr wX11_testOf_130 S S') (rec_X11_plainOf : ST → Int32 → Option (Int32 × ST)) (arec_X11_plainOf : ∀ (S : ST) (z0 : Int32) (r : Int32) (S' : ST), rec_X11_plainOf S z0 = some (r, S') → Agr wX11_testOf_130 S S') (rec_X11_positiveOf : ST → Int32 → Option (Int32 × ST)) (arec_X11_positiveOf : ∀ (S : ST) (z0 : Int32) (r : Int32) (S' : ST), rec_X11_positiveOf S z0 = some (r, S') → Agr wX11_testOf_130 S S')  (S : ST)  (r : Int32) (S' : ST) (hm : bfX11_positiveOf_130_121 x rec_X11_testOf rec_X11_bothOf rec_X11_plainOf rec_X11_positiveOf  S  = some (r, S')) : Agr wX11_testOf_130 S S' := by
    unfold bfX11_positiveOf_130_121 at hm
    exact Agr.tr Agr.rf (fbX11_positiveOf_130_126 x rec_X11_testOf arec_X11_testOf rec_X11_bothOf arec_X11_bothOf rec_X11_plainOf arec_X11_plainOf rec_X11_positiveOf arec_X11_positiveOf  S 1 _ _ hm)
set_option maxHeartbeats 4000000 in
set_option maxRecDepth 20000 in
theorem fbX11_positiveOf_130_0 (x : XT) (rec_X11_testOf : ST → Int32 → Option (Int32 × ST)) (arec_X11_testOf : ∀ (S : ST) (z0 : Int32) (r : Int32) (S' : ST), rec_X11_testOf S z0 = some (r, S') → Agr wX11_testOf_130 S S') (rec_X11_bothOf : ST → Int32 → Option (Int32 × ST)) (arec_X11_bothOf : ∀ (S : ST) (z0 : Int32) (r : Int32) (S' : ST), rec_X11_bothOf S z0 = some (r, S') → Agr wX11_testOf_130 S S') (rec_X11_plainOf : ST → Int32 → Option (Int32 × ST)) (arec_X11_plainOf : ∀ (S : ST) (z0 : Int32) (r : Int32) (S' : ST), rec_X11_plainOf S z0 = some (r, S') → Agr wX11_testOf_130 S S') (rec_X11_positiveOf : ST → Int32 → Option (Int32 × ST)) (arec_X11_positiveOf : ∀ (S : ST) (z0 : Int32) (r : Int32) (S' : ST), rec_X11_positiveOf S z0 = some (r, S') → Agr wX11_testOf_130 S S')  (S : ST) (p1 : Int32) (r : Int32) (S' : ST) (hm : bfX11_positiveOf_130_0 x rec_X11_testOf rec_X11_bothOf rec_X11_plainOf rec_X11_positiveOf  S p1 = some (r, S')) : Agr wX11_testOf_130 S S' := by
    unfold bfX11_positiveOf_130_0 at hm
    cases h1 : gfX11_sign x S 40 with
    | none => rw [h1] at hm; cases hm
    | some q2 =>
      obtain ⟨r3, S4⟩ := q2
      rw [h1] at hm
      dsimp only at hm
      have a_S4 : Agr wX11_testOf_130 S S4 := Agr.tr Agr.rf (Agr.sub (frX11_sign x S 40 _ _ h1) (by decide))
      cases h5 : gfX11_passes0_130 x S4 r3 with
      | none => rw [h5] at hm; cases hm
      | some q6 =>
        obtain ⟨r7, S8⟩ := q6
        rw [h5] at hm
        dsimp only at hm
        have a_S8 : Agr wX11_testOf_130 S S8 := Agr.tr a_S4 (Agr.sub (frX11_passes0_130 x S4 r3 _ _ h5) (by decide))
        by_cases c9 : r7 = 0
        · rw [if_pos c9] at hm
          cases h10 : gfX11_sumOf_130 x S8 p1 with
          | none => rw [h10] at hm; cases hm
          | some q11 =>
            obtain ⟨r12, S13⟩ := q11
            rw [h10] at hm
            dsimp only at hm
            have a_S13 : Agr wX11_testOf_130 S S13 := Agr.tr a_S8 (Agr.sub (frX11_sumOf_130 x S8 p1 _ _ h10) (by decide))
            cases h14 : gfX11_codeAt_130 x S13 (S13.1 130 22) with
            | none => rw [h14] at hm; cases hm
            | some q15 =>
              obtain ⟨r16, S17⟩ := q15
              rw [h14] at hm
              dsimp only at hm
              have a_S17 : Agr wX11_testOf_130 S S17 := Agr.tr a_S13 (Agr.sub (frX11_codeAt_130 x S13 (S13.1 130 22) _ _ h14) (by decide))
              cases h18 : gfX11_sumOf_130 x ((u2 S17.1 130 22 ((S17.1 130 22) + 1)), S17.2.1, S17.2.2.1, S17.2.2.2) p1 with
              | none => rw [h18] at hm; cases hm
              | some q19 =>
                obtain ⟨r20, S21⟩ := q19
                rw [h18] at hm
                dsimp only at hm
                have a_S21 : Agr wX11_testOf_130 S S21 := Agr.tr (Agr.f a_S17 130 22 ((S17.1 130 22) + 1) (by decide)) (Agr.sub (frX11_sumOf_130 x ((u2 S17.1 130 22 ((S17.1 130 22) + 1)), S17.2.1, S17.2.2.1, S17.2.2.2) p1 _ _ h18) (by decide))
                by_cases c22 : p1 = 0
                · rw [if_pos c22] at hm
                  exact Agr.tr a_S21 (fbX11_positiveOf_130_125 x rec_X11_testOf arec_X11_testOf rec_X11_bothOf arec_X11_bothOf rec_X11_plainOf arec_X11_plainOf rec_X11_positiveOf arec_X11_positiveOf  S21 _ _ hm)
                · rw [if_neg c22] at hm
                  by_cases c23 : ¬ (S21.1 130 24) = 0
                  · rw [if_pos c23] at hm
                    exact Agr.tr a_S21 (fbX11_positiveOf_130_125 x rec_X11_testOf arec_X11_testOf rec_X11_bothOf arec_X11_bothOf rec_X11_plainOf arec_X11_plainOf rec_X11_positiveOf arec_X11_positiveOf  S21 _ _ hm)
                  · rw [if_neg c23] at hm
                    cases h24 : gfX11_sign x S21 60 with
                    | none => rw [h24] at hm; cases hm
                    | some q25 =>
                      obtain ⟨r26, S27⟩ := q25
                      rw [h24] at hm
                      dsimp only at hm
                      have a_S27 : Agr wX11_testOf_130 S S27 := Agr.tr a_S21 (Agr.sub (frX11_sign x S21 60 _ _ h24) (by decide))
                      by_cases c28 : ¬ r16 = r26
                      · rw [if_pos c28] at hm
                        cases h29 : gfX11_sign x S27 62 with
                        | none => rw [h29] at hm; cases hm
                        | some q30 =>
                          obtain ⟨r31, S32⟩ := q30
                          rw [h29] at hm
                          dsimp only at hm
                          have a_S32 : Agr wX11_testOf_130 S S32 := Agr.tr a_S27 (Agr.sub (frX11_sign x S27 62 _ _ h29) (by decide))
                          by_cases c33 : ¬ r16 = r31
                          · rw [if_pos c33] at hm
                            by_cases c34 : ¬ (lg_cmp r12 r20) = 0
                            · rw [if_pos c34] at hm
                              exact Agr.tr a_S32 (fbX11_positiveOf_130_125 x rec_X11_testOf arec_X11_testOf rec_X11_bothOf arec_X11_bothOf rec_X11_plainOf arec_X11_plainOf rec_X11_positiveOf arec_X11_positiveOf  S32 _ _ hm)
                            · rw [if_neg c34] at hm
                              exact Agr.tr a_S32 (fbX11_positiveOf_130_121 x rec_X11_testOf arec_X11_testOf rec_X11_bothOf arec_X11_bothOf rec_X11_plainOf arec_X11_plainOf rec_X11_positiveOf arec_X11_positiveOf  S32 _ _ hm)
                          · rw [if_neg c33] at hm
                            by_cases c35 : (lg_cmp r12 r20) ≤ 0
                            · rw [if_pos c35] at hm
                              exact Agr.tr a_S32 (fbX11_positiveOf_130_125 x rec_X11_testOf arec_X11_testOf rec_X11_bothOf arec_X11_bothOf rec_X11_plainOf arec_X11_plainOf rec_X11_positiveOf arec_X11_positiveOf  S32 _ _ hm)
                            · rw [if_neg c35] at hm
                              exact Agr.tr a_S32 (fbX11_positiveOf_130_121 x rec_X11_testOf arec_X11_testOf rec_X11_bothOf arec_X11_bothOf rec_X11_plainOf arec_X11_plainOf rec_X11_positiveOf arec_X11_positiveOf  S32 _ _ hm)
                      · rw [if_neg c28] at hm
                        by_cases c36 : 0 ≤ (lg_cmp r12 r20)
                        · rw [if_pos c36] at hm
                          exact Agr.tr a_S27 (fbX11_positiveOf_130_125 x rec_X11_testOf arec_X11_testOf rec_X11_bothOf arec_X11_bothOf rec_X11_plainOf arec_X11_plainOf rec_X11_positiveOf arec_X11_positiveOf  S27 _ _ hm)
                        · rw [if_neg c36] at hm
                          exact Agr.tr a_S27 (fbX11_positiveOf_130_121 x rec_X11_testOf arec_X11_testOf rec_X11_bothOf arec_X11_bothOf rec_X11_plainOf arec_X11_plainOf rec_X11_positiveOf arec_X11_positiveOf  S27 _ _ hm)
        · rw [if_neg c9] at hm
          cases h37 : rec_X11_testOf S8 p1 with
          | none => rw [h37] at hm; cases hm
          | some q38 =>
            obtain ⟨r39, S40⟩ := q38
            rw [h37] at hm
            dsimp only at hm
            have a_S40 : Agr wX11_testOf_130 S S40 := Agr.tr a_S8 (arec_X11_testOf S8 p1 _ _ h37)
            obtain ⟨o41, hm⟩ := oblk hm
            cases hm
            exact (Agr.f a_S40 130 22 ((S40.1 130 22) + 1) (by decide))
theorem frrX11_positiveOf_130 (x : XT) (rec_X11_testOf : ST → Int32 → Option (Int32 × ST)) (arec_X11_testOf : ∀ (S : ST) (z0 : Int32) (r : Int32) (S' : ST), rec_X11_testOf S z0 = some (r, S') → Agr wX11_testOf_130 S S') (rec_X11_bothOf : ST → Int32 → Option (Int32 × ST)) (arec_X11_bothOf : ∀ (S : ST) (z0 : Int32) (r : Int32) (S' : ST), rec_X11_bothOf S z0 = some (r, S') → Agr wX11_testOf_130 S S') (rec_X11_plainOf : ST → Int32 → Option (Int32 × ST)) (arec_X11_plainOf : ∀ (S : ST) (z0 : Int32) (r : Int32) (S' : ST), rec_X11_plainOf S z0 = some (r, S') → Agr wX11_testOf_130 S S') (rec_X11_positiveOf : ST → Int32 → Option (Int32 × ST)) (arec_X11_positiveOf : ∀ (S : ST) (z0 : Int32) (r : Int32) (S' : ST), rec_X11_positiveOf S z0 = some (r, S') → Agr wX11_testOf_130 S S') (S : ST) (p1 : Int32) (r : Int32) (S' : ST) (hm : grfX11_positiveOf_130 x rec_X11_testOf rec_X11_bothOf rec_X11_plainOf rec_X11_positiveOf S p1 = some (r, S')) : Agr wX11_testOf_130 S S' := fbX11_positiveOf_130_0 x rec_X11_testOf arec_X11_testOf rec_X11_bothOf arec_X11_bothOf rec_X11_plainOf arec_X11_plainOf rec_X11_positiveOf arec_X11_positiveOf S p1 r S' hm
theorem frqX11_testOf_130 (x : XT) (n : Nat) : (∀ (S : ST) (a b : Int32) (r : Int32) (S' : ST), gqX11_testOf_130 x n 0 S a b = some (r, S') → Agr wX11_testOf_130 S S') ∧ (∀ (S : ST) (a b : Int32) (r : Int32) (S' : ST), gqX11_testOf_130 x n 1 S a b = some (r, S') → Agr wX11_testOf_130 S S') ∧ (∀ (S : ST) (a b : Int32) (r : Int32) (S' : ST), gqX11_testOf_130 x n 2 S a b = some (r, S') → Agr wX11_testOf_130 S S') ∧ (∀ (S : ST) (a b : Int32) (r : Int32) (S' : ST), gqX11_testOf_130 x n 3 S a b = some (r, S') → Agr wX11_testOf_130 S S') := by
  induction n with
  | zero => exact ⟨(fun _ _ _ _ _ hm => (by cases hm)), (fun _ _ _ _ _ hm => (by cases hm)), (fun _ _ _ _ _ hm => (by cases hm)), (fun _ _ _ _ _ hm => (by cases hm))⟩
  | succ n ih =>
    refine ⟨?_, ?_, ?_, ?_⟩
    · intro S a b r S' hm
      rw [gqX11_testOf_130] at hm
      rw [show Nat.beq 0 0 = true from rfl, cond_true] at hm
      exact frrX11_testOf_130 x (fun S z0 => gqX11_testOf_130 x n 0 S z0 0) (fun S z0 r S' h => ih.1 S z0 0 r S' h) (fun S z0 => gqX11_testOf_130 x n 1 S z0 0) (fun S z0 r S' h => ih.2.1 S z0 0 r S' h) (fun S z0 => gqX11_testOf_130 x n 2 S z0 0) (fun S z0 r S' h => ih.2.2.1 S z0 0 r S' h) (fun S z0 => gqX11_testOf_130 x n 3 S z0 0) (fun S z0 r S' h => ih.2.2.2 S z0 0 r S' h) S a r S' hm
    · intro S a b r S' hm
      rw [gqX11_testOf_130] at hm
      rw [show Nat.beq 1 0 = false from rfl, cond_false, show Nat.beq 1 1 = true from rfl, cond_true] at hm
      exact frrX11_bothOf_130 x (fun S z0 => gqX11_testOf_130 x n 0 S z0 0) (fun S z0 r S' h => ih.1 S z0 0 r S' h) (fun S z0 => gqX11_testOf_130 x n 1 S z0 0) (fun S z0 r S' h => ih.2.1 S z0 0 r S' h) (fun S z0 => gqX11_testOf_130 x n 2 S z0 0) (fun S z0 r S' h => ih.2.2.1 S z0 0 r S' h) (fun S z0 => gqX11_testOf_130 x n 3 S z0 0) (fun S z0 r S' h => ih.2.2.2 S z0 0 r S' h) S a r S' hm
    · intro S a b r S' hm
      rw [gqX11_testOf_130] at hm
      rw [show Nat.beq 2 0 = false from rfl, cond_false, show Nat.beq 2 1 = false from rfl, cond_false, show Nat.beq 2 2 = true from rfl, cond_true] at hm
      exact frrX11_plainOf_130 x (fun S z0 => gqX11_testOf_130 x n 0 S z0 0) (fun S z0 r S' h => ih.1 S z0 0 r S' h) (fun S z0 => gqX11_testOf_130 x n 1 S z0 0) (fun S z0 r S' h => ih.2.1 S z0 0 r S' h) (fun S z0 => gqX11_testOf_130 x n 2 S z0 0) (fun S z0 r S' h => ih.2.2.1 S z0 0 r S' h) (fun S z0 => gqX11_testOf_130 x n 3 S z0 0) (fun S z0 r S' h => ih.2.2.2 S z0 0 r S' h) S a r S' hm
    · intro S a b r S' hm
      rw [gqX11_testOf_130] at hm
      rw [show Nat.beq 3 0 = false from rfl, cond_false, show Nat.beq 3 1 = false from rfl, cond_false, show Nat.beq 3 2 = false from rfl, cond_false, show Nat.beq 3 3 = true from rfl, cond_true] at hm
      exact frrX11_positiveOf_130 x (fun S z0 => gqX11_testOf_130 x n 0 S z0 0) (fun S z0 r S' h => ih.1 S z0 0 r S' h) (fun S z0 => gqX11_testOf_130 x n 1 S z0 0) (fun S z0 r S' h => ih.2.1 S z0 0 r S' h) (fun S z0 => gqX11_testOf_130 x n 2 S z0 0) (fun S z0 r S' h => ih.2.2.1 S z0 0 r S' h) (fun S z0 => gqX11_testOf_130 x n 3 S z0 0) (fun S z0 r S' h => ih.2.2.2 S z0 0 r S' h) S a r S' hm
theorem frX11_testOf_130 (x : XT) (S : ST) (p1 : Int32) (r : Int32) (S' : ST) (hm : gfX11_testOf_130 x S p1 = some (r, S')) : Agr wX11_testOf_130 S S' :=
  (frqX11_testOf_130 x 60).1 S p1 0 r S' hm
theorem frX11_bothOf_130 (x : XT) (S : ST) (p1 : Int32) (r : Int32) (S' : ST) (hm : gfX11_bothOf_130 x S p1 = some (r, S')) : Agr wX11_testOf_130 S S' :=
  (frqX11_testOf_130 x 60).2.1 S p1 0 r S' hm
theorem frX11_plainOf_130 (x : XT) (S : ST) (p1 : Int32) (r : Int32) (S' : ST) (hm : gfX11_plainOf_130 x S p1 = some (r, S')) : Agr wX11_testOf_130 S S' :=
  (frqX11_testOf_130 x 60).2.2.1 S p1 0 r S' hm
theorem frX11_positiveOf_130 (x : XT) (S : ST) (p1 : Int32) (r : Int32) (S' : ST) (hm : gfX11_positiveOf_130 x S p1 = some (r, S')) : Agr wX11_testOf_130 S S' :=
  (frqX11_testOf_130 x 60).2.2.2 S p1 0 r S' hm
def wX11_tells_130 : List (Nat × Nat) × List Nat × List Nat × List Nat := ([(130, 22), (130, 23), (130, 24), (130, 25)], [], [], [])
set_option maxHeartbeats 4000000 in
set_option maxRecDepth 20000 in
theorem fbX11_tells_130_199 (x : XT) (k61 : ST → Int32 → Int32 → Int64 → Option (Int32 × ST)) (ak61 : ∀ (S : ST) (v1 : Int32) (v2 : Int32) (v4 : Int64) (r : Int32) (S' : ST), k61 S v1 v2 v4 = some (r, S') → Agr wX11_tells_130 S S') (S : ST) (v1 : Int32) (v2 : Int32) (v4 : Int64) (r : Int32) (S' : ST) (hm : bfX11_tells_130_199 x k61 S v1 v2 v4 = some (r, S')) : Agr wX11_tells_130 S S' := by
    unfold bfX11_tells_130_199 at hm
    exact Agr.tr (Agr.f Agr.rf 130 22 ((S.1 130 22) + 1) (by decide)) (ak61 ((u2 S.1 130 22 ((S.1 130 22) + 1)), S.2.1, S.2.2.1, S.2.2.2) v1 v2 v4 _ _ hm)
set_option maxHeartbeats 4000000 in
set_option maxRecDepth 20000 in
theorem fbX11_tells_130_197 (x : XT) (k61 : ST → Int32 → Int32 → Int64 → Option (Int32 × ST)) (ak61 : ∀ (S : ST) (v1 : Int32) (v2 : Int32) (v4 : Int64) (r : Int32) (S' : ST), k61 S v1 v2 v4 = some (r, S') → Agr wX11_tells_130 S S') (S : ST) (v1 : Int32) (v2 : Int32) (t0 : Int64) (r : Int32) (S' : ST) (hm : bfX11_tells_130_197 x k61 S v1 v2 t0 = some (r, S')) : Agr wX11_tells_130 S S' := by
    unfold bfX11_tells_130_197 at hm
    exact Agr.tr Agr.rf (fbX11_tells_130_199 x k61 ak61 S v1 v2 t0 _ _ hm)
set_option maxHeartbeats 4000000 in
set_option maxRecDepth 20000 in
theorem fbX11_tells_130_146 (x : XT) (k61 : ST → Int32 → Int32 → Int64 → Option (Int32 × ST)) (ak61 : ∀ (S : ST) (v1 : Int32) (v2 : Int32) (v4 : Int64) (r : Int32) (S' : ST), k61 S v1 v2 v4 = some (r, S') → Agr wX11_tells_130 S S') (S : ST) (v1 : Int32) (v2 : Int32) (v4 : Int64) (v6 : Int32) (v7 : Int64) (v9 : Int32) (t0 : Int32) (r : Int32) (S' : ST) (hm : bfX11_tells_130_146 x k61 S v1 v2 v4 v6 v7 v9 t0 = some (r, S')) : Agr wX11_tells_130 S S' := by
    unfold bfX11_tells_130_146 at hm
    by_cases c1 : ¬ v6 = v1
    · rw [if_pos c1] at hm
      exact Agr.tr Agr.rf (fbX11_tells_130_199 x k61 ak61 S v1 v2 v4 _ _ hm)
    · rw [if_neg c1] at hm
      by_cases c2 : t0 = 0
      · rw [if_pos c2] at hm
        exact Agr.tr Agr.rf (fbX11_tells_130_199 x k61 ak61 S v1 v2 v4 _ _ hm)
      · rw [if_neg c2] at hm
        by_cases c3 : ¬ (S.1 130 24) = 0
        · rw [if_pos c3] at hm
          exact Agr.tr Agr.rf (fbX11_tells_130_199 x k61 ak61 S v1 v2 v4 _ _ hm)
        · rw [if_neg c3] at hm
          by_cases c4 : ¬ v9 = 0
          · rw [if_pos c4] at hm
            exact Agr.tr Agr.rf (fbX11_tells_130_199 x k61 ak61 S v1 v2 v4 _ _ hm)
          · rw [if_neg c4] at hm
            by_cases c5 : 0 ≤ (lg_cmp v7 0)
            · rw [if_pos c5] at hm
              by_cases c6 : (lg_cmp v7 v2.toInt64) ≤ 0
              · rw [if_pos c6] at hm
                exact Agr.tr Agr.rf (fbX11_tells_130_197 x k61 ak61 S v1 v2 v7 _ _ hm)
              · rw [if_neg c6] at hm
                exact Agr.tr Agr.rf (fbX11_tells_130_197 x k61 ak61 S v1 v2 v2.toInt64 _ _ hm)
            · rw [if_neg c5] at hm
              exact Agr.tr Agr.rf (fbX11_tells_130_197 x k61 ak61 S v1 v2 0 _ _ hm)
set_option maxHeartbeats 4000000 in
set_option maxRecDepth 20000 in
theorem fbX11_tells_130_141 (x : XT) (k61 : ST → Int32 → Int32 → Int64 → Option (Int32 × ST)) (ak61 : ∀ (S : ST) (v1 : Int32) (v2 : Int32) (v4 : Int64) (r : Int32) (S' : ST), k61 S v1 v2 v4 = some (r, S') → Agr wX11_tells_130 S S') (S : ST) (v1 : Int32) (v2 : Int32) (v4 : Int64) (v6 : Int32) (v7 : Int64) (v9 : Int32) (r : Int32) (S' : ST) (hm : bfX11_tells_130_141 x k61 S v1 v2 v4 v6 v7 v9 = some (r, S')) : Agr wX11_tells_130 S S' := by
    unfold bfX11_tells_130_141 at hm
    exact Agr.tr Agr.rf (fbX11_tells_130_146 x k61 ak61 S v1 v2 v4 v6 v7 v9 1 _ _ hm)
set_option maxHeartbeats 4000000 in
set_option maxRecDepth 20000 in
theorem fbX11_tells_130_112 (x : XT) (k61 : ST → Int32 → Int32 → Int64 → Option (Int32 × ST)) (ak61 : ∀ (S : ST) (v1 : Int32) (v2 : Int32) (v4 : Int64) (r : Int32) (S' : ST), k61 S v1 v2 v4 = some (r, S') → Agr wX11_tells_130 S S') (S : ST) (v1 : Int32) (v2 : Int32) (v4 : Int64) (v6 : Int32) (t0 : Int64) (r : Int32) (S' : ST) (hm : bfX11_tells_130_112 x k61 S v1 v2 v4 v6 t0 = some (r, S')) : Agr wX11_tells_130 S S' := by
    unfold bfX11_tells_130_112 at hm
    cases h1 : gfX11_passes0_130 x ((u2 S.1 130 24 0), S.2.1, S.2.2.1, S.2.2.2) 4 with
    | none => rw [h1] at hm; cases hm
    | some q2 =>
      obtain ⟨r3, S4⟩ := q2
      rw [h1] at hm
      dsimp only at hm
      have a_S4 : Agr wX11_tells_130 S S4 := Agr.tr (Agr.f Agr.rf 130 24 0 (by decide)) (Agr.sub (frX11_passes0_130 x ((u2 S.1 130 24 0), S.2.1, S.2.2.1, S.2.2.2) 4 _ _ h1) (by decide))
      by_cases c5 : r3 = 0
      · rw [if_pos c5] at hm
        exact Agr.tr a_S4 (fbX11_tells_130_141 x k61 ak61 S4 v1 v2 v4 v6 t0 (S.1 130 24) _ _ hm)
      · rw [if_neg c5] at hm
        cases h6 : gfX11_testOf_130 x S4 1 with
        | none => rw [h6] at hm; cases hm
        | some q7 =>
          obtain ⟨r8, S9⟩ := q7
          rw [h6] at hm
          dsimp only at hm
          have a_S9 : Agr wX11_tells_130 S S9 := Agr.tr a_S4 (Agr.sub (frX11_testOf_130 x S4 1 _ _ h6) (by decide))
          by_cases c10 : r8 = 0
          · rw [if_pos c10] at hm
            exact Agr.tr a_S9 (fbX11_tells_130_146 x k61 ak61 S9 v1 v2 v4 v6 t0 (S.1 130 24) 0 _ _ hm)
          · rw [if_neg c10] at hm
            exact Agr.tr a_S9 (fbX11_tells_130_141 x k61 ak61 S9 v1 v2 v4 v6 t0 (S.1 130 24) _ _ hm)
set_option maxHeartbeats 4000000 in
set_option maxRecDepth 20000 in
theorem fbX11_tells_130_61 (x : XT) (k61 : ST → Int32 → Int32 → Int64 → Option (Int32 × ST)) (ak61 : ∀ (S : ST) (v1 : Int32) (v2 : Int32) (v4 : Int64) (r : Int32) (S' : ST), k61 S v1 v2 v4 = some (r, S') → Agr wX11_tells_130 S S') (S : ST) (v1 : Int32) (v2 : Int32) (v4 : Int64) (r : Int32) (S' : ST) (hm : bfX11_tells_130_61 x k61 S v1 v2 v4 = some (r, S')) : Agr wX11_tells_130 S S' := by
    unfold bfX11_tells_130_61 at hm
    by_cases c1 : (S.1 130 23) ≤ (S.1 130 22)
    · rw [if_pos c1] at hm
      cases hm
      exact Agr.rf
    · rw [if_neg c1] at hm
      cases h2 : gfX11_codeAt_130 x S (S.1 130 22) with
      | none => rw [h2] at hm; cases hm
      | some q3 =>
        obtain ⟨r4, S5⟩ := q3
        rw [h2] at hm
        dsimp only at hm
        have a_S5 : Agr wX11_tells_130 S S5 := Agr.tr Agr.rf (Agr.sub (frX11_codeAt_130 x S (S.1 130 22) _ _ h2) (by decide))
        by_cases c6 : ¬ r4 = 3
        · rw [if_pos c6] at hm
          cases h7 : gfX11_sumOf_130 x ((u2 (u2 S5.1 130 24 0) 130 22 ((S5.1 130 22) + 1)), S5.2.1, S5.2.2.1, S5.2.2.2) 1 with
          | none => rw [h7] at hm; cases hm
          | some q8 =>
            obtain ⟨r9, S10⟩ := q8
            rw [h7] at hm
            dsimp only at hm
            have a_S10 : Agr wX11_tells_130 S S10 := Agr.tr (Agr.f (Agr.f a_S5 130 24 0 (by decide)) 130 22 ((S5.1 130 22) + 1) (by decide)) (Agr.sub (frX11_sumOf_130 x ((u2 (u2 S5.1 130 24 0) 130 22 ((S5.1 130 22) + 1)), S5.2.1, S5.2.2.1, S5.2.2.2) 1 _ _ h7) (by decide))
            exact Agr.tr a_S10 (fbX11_tells_130_112 x k61 ak61 S10 v1 v2 v4 r4 r9 _ _ hm)
        · rw [if_neg c6] at hm
          exact Agr.tr (Agr.f (Agr.f a_S5 130 24 0 (by decide)) 130 22 ((S5.1 130 22) + 1) (by decide)) (fbX11_tells_130_112 x k61 ak61 ((u2 (u2 S5.1 130 24 0) 130 22 ((S5.1 130 22) + 1)), S5.2.1, S5.2.2.1, S5.2.2.2) v1 v2 v4 r4 1 _ _ hm)
theorem flX11_tells_130_61 (x : XT)  : ∀ (n : Nat) (S : ST) (v1 : Int32) (v2 : Int32) (v4 : Int64) (r : Int32) (S' : ST), lfX11_tells_130_61 x  n S v1 v2 v4 = some (r, S') → Agr wX11_tells_130 S S'
  | 0, _, _, _, _, _, _, hm => by cases hm
  | n + 1, S, v1, v2, v4, r, S', hm => fbX11_tells_130_61 x (lfX11_tells_130_61 x  n) (flX11_tells_130_61 x  n) S v1 v2 v4 r S' hm
set_option maxHeartbeats 4000000 in
set_option maxRecDepth 20000 in
theorem fbX11_tells_130_0 (x : XT)  (S : ST) (p1 : Int32) (p2 : Int32) (p3 : Int32) (r : Int32) (S' : ST) (hm : bfX11_tells_130_0 x  S p1 p2 p3 = some (r, S')) : Agr wX11_tells_130 S S' := by
    unfold bfX11_tells_130_0 at hm
    by_cases c1 : ¬ (S.2.1 132 95) = (-1)
    · rw [if_pos c1] at hm
      obtain ⟨o2, hm⟩ := oblk hm
      exact Agr.tr (Agr.f (Agr.f (Agr.f Agr.rf 130 25 0 (by decide)) 130 22 (400 * (S.2.1 132 95)) (by decide)) 130 23 ((400 * (S.2.1 132 95)) + (S.2.1 132 ((96 + (S.2.1 132 95)).toNatClampNeg))) (by decide)) (flX11_tells_130_61 x  20000 ((u2 (u2 (u2 S.1 130 25 0) 130 22 (400 * (S.2.1 132 95))) 130 23 ((400 * (S.2.1 132 95)) + (S.2.1 132 ((96 + (S.2.1 132 95)).toNatClampNeg)))), S.2.1, S.2.2.1, S.2.2.2) p1 p2 p3.toInt64 _ _ hm)
    · rw [if_neg c1] at hm
      cases hm
      exact Agr.rf
theorem frX11_tells_130 (x : XT) (S : ST) (p1 : Int32) (p2 : Int32) (p3 : Int32) (r : Int32) (S' : ST) (hm : gfX11_tells_130 x S p1 p2 p3 = some (r, S')) : Agr wX11_tells_130 S S' := fbX11_tells_130_0 x S p1 p2 p3 r S' hm
def wX11_isBarredNow_130 : List (Nat × Nat) × List Nat × List Nat × List Nat := ([(130, 22), (130, 23), (130, 24), (130, 25)], [], [], [])
set_option maxHeartbeats 4000000 in
set_option maxRecDepth 20000 in
theorem fbX11_isBarredNow_130_16 (x : XT)  (S : ST) (t0 : Int32) (r : Int32) (S' : ST) (hm : bfX11_isBarredNow_130_16 x  S t0 = some (r, S')) : Agr wX11_isBarredNow_130 S S' := by
    unfold bfX11_isBarredNow_130_16 at hm
    obtain ⟨o1, hm⟩ := oblk hm
    cases hm
    exact Agr.rf
set_option maxHeartbeats 4000000 in
set_option maxRecDepth 20000 in
theorem fbX11_isBarredNow_130_0 (x : XT)  (S : ST)  (r : Int32) (S' : ST) (hm : bfX11_isBarredNow_130_0 x  S  = some (r, S')) : Agr wX11_isBarredNow_130 S S' := by
    unfold bfX11_isBarredNow_130_0 at hm
    cases h1 : gfX11_tells_130 x S 3 1 0 with
    | none => rw [h1] at hm; cases hm
    | some q2 =>
      obtain ⟨r3, S4⟩ := q2
      rw [h1] at hm
      dsimp only at hm
      have a_S4 : Agr wX11_isBarredNow_130 S S4 := Agr.tr Agr.rf (Agr.sub (frX11_tells_130 x S 3 1 0 _ _ h1) (by decide))
      by_cases c5 : ¬ r3 = 1
      · rw [if_pos c5] at hm
        exact Agr.tr a_S4 (fbX11_isBarredNow_130_16 x  S4 0 _ _ hm)
      · rw [if_neg c5] at hm
        exact Agr.tr a_S4 (fbX11_isBarredNow_130_16 x  S4 1 _ _ hm)
theorem frX11_isBarredNow_130 (x : XT) (S : ST)  (r : Int32) (S' : ST) (hm : gfX11_isBarredNow_130 x S  = some (r, S')) : Agr wX11_isBarredNow_130 S S' := fbX11_isBarredNow_130_0 x S  r S' hm
def wX11_canGo_130 : List (Nat × Nat) × List Nat × List Nat × List Nat := ([(130, 22), (130, 23), (130, 24), (130, 25)], [142], [], [])
set_option maxHeartbeats 4000000 in
set_option maxRecDepth 20000 in
theorem fbX11_canGo_130_32 (x : XT)  (S : ST)  (r : Int32) (S' : ST) (hm : bfX11_canGo_130_32 x  S  = some (r, S')) : Agr wX11_canGo_130 S S' := by
    unfold bfX11_canGo_130_32 at hm
    cases hm
    exact Agr.rf
set_option maxHeartbeats 4000000 in
set_option maxRecDepth 20000 in
theorem fbX11_canGo_130_60 (x : XT)  (S : ST) (t0 : Int32) (r : Int32) (S' : ST) (hm : bfX11_canGo_130_60 x  S t0 = some (r, S')) : Agr wX11_canGo_130 S S' := by
    unfold bfX11_canGo_130_60 at hm
    obtain ⟨o1, hm⟩ := oblk hm
    cases hm
    exact Agr.rf
set_option maxHeartbeats 4000000 in
set_option maxRecDepth 20000 in
theorem fbX11_canGo_130_0 (x : XT)  (S : ST) (p1 : Int32) (p2 : Int32) (r : Int32) (S' : ST) (hm : bfX11_canGo_130_0 x  S p1 p2 = some (r, S')) : Agr wX11_canGo_130 S S' := by
    unfold bfX11_canGo_130_0 at hm
    obtain ⟨o1, hm⟩ := oblk hm
    obtain ⟨o2, hm⟩ := oblk hm
    by_cases c3 : ¬ (S.2.1 132 ((36 + p2).toNatClampNeg)) = (S.2.1 132 ((0 + p1).toNatClampNeg))
    · rw [if_pos c3] at hm
      exact Agr.tr Agr.rf (fbX11_canGo_130_32 x  S _ _ hm)
    · rw [if_neg c3] at hm
      obtain ⟨o4, hm⟩ := oblk hm
      by_cases c5 : ¬ (S.2.1 132 ((25 + p2).toNatClampNeg)) = 0
      · rw [if_pos c5] at hm
        obtain ⟨o6, hm⟩ := oblk hm
        cases h7 : gfX11_setsGate_130 x S p1 p2 (S.2.1 132 ((5 + p1).toNatClampNeg)) with
        | none => rw [h7] at hm; cases hm
        | some q8 =>
          obtain ⟨r9, S10⟩ := q8
          rw [h7] at hm
          dsimp only at hm
          have a_S10 : Agr wX11_canGo_130 S S10 := Agr.tr Agr.rf (Agr.sub (frX11_setsGate_130 x S p1 p2 (S.2.1 132 ((5 + p1).toNatClampNeg)) _ _ h7) (by decide))
          cases h11 : gfX11_isBarredNow_130 x S10 with
          | none => rw [h11] at hm; cases hm
          | some q12 =>
            obtain ⟨r13, S14⟩ := q12
            rw [h11] at hm
            dsimp only at hm
            have a_S14 : Agr wX11_canGo_130 S S14 := Agr.tr a_S10 (Agr.sub (frX11_isBarredNow_130 x S10 _ _ h11) (by decide))
            by_cases c15 : ¬ r13 = 0
            · rw [if_pos c15] at hm
              exact Agr.tr a_S14 (fbX11_canGo_130_60 x  S14 0 _ _ hm)
            · rw [if_neg c15] at hm
              exact Agr.tr a_S14 (fbX11_canGo_130_60 x  S14 1 _ _ hm)
      · rw [if_neg c5] at hm
        exact Agr.tr Agr.rf (fbX11_canGo_130_32 x  S _ _ hm)
theorem frX11_canGo_130 (x : XT) (S : ST) (p1 : Int32) (p2 : Int32) (r : Int32) (S' : ST) (hm : gfX11_canGo_130 x S p1 p2 = some (r, S')) : Agr wX11_canGo_130 S S' := fbX11_canGo_130_0 x S p1 p2 r S' hm
def wX11_gatesOf_130 : List (Nat × Nat) × List Nat × List Nat × List Nat := ([(130, 22), (130, 23), (130, 24), (130, 25)], [142], [], [])
set_option maxHeartbeats 4000000 in
set_option maxRecDepth 20000 in
theorem fbX11_gatesOf_130_29 (x : XT) (k4 : ST → Int32 → Int32 → Int32 → Option (Int32 × ST)) (ak4 : ∀ (S : ST) (v1 : Int32) (v2 : Int32) (v3 : Int32) (r : Int32) (S' : ST), k4 S v1 v2 v3 = some (r, S') → Agr wX11_gatesOf_130 S S') (S : ST) (v1 : Int32) (v3 : Int32) (t0 : Int32) (t1 : Int32) (r : Int32) (S' : ST) (hm : bfX11_gatesOf_130_29 x k4 S v1 v3 t0 t1 = some (r, S')) : Agr wX11_gatesOf_130 S S' := by
    unfold bfX11_gatesOf_130_29 at hm
    exact Agr.tr Agr.rf (ak4 S v1 (t0 ||| t1) (v3 + 1) _ _ hm)
set_option maxHeartbeats 4000000 in
set_option maxRecDepth 20000 in
theorem fbX11_gatesOf_130_4 (x : XT) (k4 : ST → Int32 → Int32 → Int32 → Option (Int32 × ST)) (ak4 : ∀ (S : ST) (v1 : Int32) (v2 : Int32) (v3 : Int32) (r : Int32) (S' : ST), k4 S v1 v2 v3 = some (r, S') → Agr wX11_gatesOf_130 S S') (S : ST) (v1 : Int32) (v2 : Int32) (v3 : Int32) (r : Int32) (S' : ST) (hm : bfX11_gatesOf_130_4 x k4 S v1 v2 v3 = some (r, S')) : Agr wX11_gatesOf_130 S S' := by
    unfold bfX11_gatesOf_130_4 at hm
    cases h1 : gfX11_gateMany_130 x S with
    | none => rw [h1] at hm; cases hm
    | some q2 =>
      obtain ⟨r3, S4⟩ := q2
      rw [h1] at hm
      dsimp only at hm
      have a_S4 : Agr wX11_gatesOf_130 S S4 := Agr.tr Agr.rf (Agr.sub (frX11_gateMany_130 x S _ _ h1) (by decide))
      by_cases c5 : r3 ≤ v3
      · rw [if_pos c5] at hm
        cases hm
        exact a_S4
      · rw [if_neg c5] at hm
        cases h6 : gfX11_canGo_130 x S4 v1 v3 with
        | none => rw [h6] at hm; cases hm
        | some q7 =>
          obtain ⟨r8, S9⟩ := q7
          rw [h6] at hm
          dsimp only at hm
          have a_S9 : Agr wX11_gatesOf_130 S S9 := Agr.tr a_S4 (Agr.sub (frX11_canGo_130 x S4 v1 v3 _ _ h6) (by decide))
          by_cases c10 : r8 = 0
          · rw [if_pos c10] at hm
            exact Agr.tr a_S9 (fbX11_gatesOf_130_29 x k4 ak4 S9 v1 v3 v2 0 _ _ hm)
          · rw [if_neg c10] at hm
            exact Agr.tr a_S9 (fbX11_gatesOf_130_29 x k4 ak4 S9 v1 v3 v2 (1 <<< (v3 &&& 31)) _ _ hm)
theorem flX11_gatesOf_130_4 (x : XT)  : ∀ (n : Nat) (S : ST) (v1 : Int32) (v2 : Int32) (v3 : Int32) (r : Int32) (S' : ST), lfX11_gatesOf_130_4 x  n S v1 v2 v3 = some (r, S') → Agr wX11_gatesOf_130 S S'
  | 0, _, _, _, _, _, _, hm => by cases hm
  | n + 1, S, v1, v2, v3, r, S', hm => fbX11_gatesOf_130_4 x (lfX11_gatesOf_130_4 x  n) (flX11_gatesOf_130_4 x  n) S v1 v2 v3 r S' hm
set_option maxHeartbeats 4000000 in
set_option maxRecDepth 20000 in
theorem fbX11_gatesOf_130_0 (x : XT)  (S : ST) (p1 : Int32) (r : Int32) (S' : ST) (hm : bfX11_gatesOf_130_0 x  S p1 = some (r, S')) : Agr wX11_gatesOf_130 S S' := by
    unfold bfX11_gatesOf_130_0 at hm
    exact Agr.tr Agr.rf (flX11_gatesOf_130_4 x  20000 S p1 0 0 _ _ hm)
theorem frX11_gatesOf_130 (x : XT) (S : ST) (p1 : Int32) (r : Int32) (S' : ST) (hm : gfX11_gatesOf_130 x S p1 = some (r, S')) : Agr wX11_gatesOf_130 S S' := fbX11_gatesOf_130_0 x S p1 r S' hm
def wX11_of_130 : List (Nat × Nat) × List Nat × List Nat × List Nat := ([(130, 22), (130, 23), (130, 24), (130, 25)], [142], [], [])
set_option maxHeartbeats 4000000 in
set_option maxRecDepth 20000 in
theorem fbX11_of_130_0 (x : XT)  (S : ST) (p1 : Int32) (p2 : Int32) (r : Int32) (S' : ST) (hm : bfX11_of_130_0 x  S p1 p2 = some (r, S')) : Agr wX11_of_130 S S' := by
    unfold bfX11_of_130_0 at hm
    cases h1 : gfX11_isGoer_130 x S p1 with
    | none => rw [h1] at hm; cases hm
    | some q2 =>
      obtain ⟨r3, S4⟩ := q2
      rw [h1] at hm
      dsimp only at hm
      have a_S4 : Agr wX11_of_130 S S4 := Agr.tr Agr.rf (Agr.sub (frX11_isGoer_130 x S p1 _ _ h1) (by decide))
      by_cases c5 : ¬ r3 = 0
      · rw [if_pos c5] at hm
        by_cases c6 : p2 = 0
        · rw [if_pos c6] at hm
          obtain ⟨o7, hm⟩ := oblk hm
          cases hm
          exact a_S4
        rw [if_neg c6] at hm
        by_cases c8 : p2 = 1
        · rw [if_pos c8] at hm
          obtain ⟨o9, hm⟩ := oblk hm
          cases hm
          exact a_S4
        rw [if_neg c8] at hm
        by_cases c10 : p2 = 2
        · rw [if_pos c10] at hm
          obtain ⟨o11, hm⟩ := oblk hm
          cases hm
          exact a_S4
        rw [if_neg c10] at hm
        by_cases c12 : p2 = 3
        · rw [if_pos c12] at hm
          obtain ⟨o13, hm⟩ := oblk hm
          cases hm
          exact a_S4
        rw [if_neg c12] at hm
        by_cases c14 : p2 = 4
        · rw [if_pos c14] at hm
          cases h15 : gfX11_gatesOf_130 x S4 p1 with
          | none => rw [h15] at hm; cases hm
          | some q16 =>
            obtain ⟨r17, S18⟩ := q16
            rw [h15] at hm
            dsimp only at hm
            have a_S18 : Agr wX11_of_130 S S18 := Agr.tr a_S4 (Agr.sub (frX11_gatesOf_130 x S4 p1 _ _ h15) (by decide))
            cases hm
            exact a_S18
        rw [if_neg c14] at hm
        cases hm
        exact a_S4
      · rw [if_neg c5] at hm
        cases hm
        exact a_S4
theorem frX11_of_130 (x : XT) (S : ST) (p1 : Int32) (p2 : Int32) (r : Int32) (S' : ST) (hm : gfX11_of_130 x S p1 p2 = some (r, S')) : Agr wX11_of_130 S S' := fbX11_of_130_0 x S p1 p2 r S' hm
end FRA
