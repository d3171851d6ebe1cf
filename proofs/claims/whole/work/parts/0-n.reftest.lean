section REFTEST
def r0 (x : XT) (D : Nat) : ST → Int32 → Option (Int32 × ST) := fun S z0 => gqX11_testOf_130 x D 0 S z0 0
def r1 (x : XT) (D : Nat) : ST → Int32 → Option (Int32 × ST) := fun S z0 => gqX11_testOf_130 x D 1 S z0 0
def r2 (x : XT) (D : Nat) : ST → Int32 → Option (Int32 × ST) := fun S z0 => gqX11_testOf_130 x D 2 S z0 0
def r3 (x : XT) (D : Nat) : ST → Int32 → Option (Int32 × ST) := fun S z0 => gqX11_testOf_130 x D 3 S z0 0
theorem r0_s (x : XT) (D : Nat) (S : ST) (a : Int32) : r0 x (D + 1) S a = bfX11_testOf_130_0 x (r0 x D) (r1 x D) (r2 x D) (r3 x D) S a := rfl
theorem r1_s (x : XT) (D : Nat) (S : ST) (a : Int32) : r1 x (D + 1) S a = bfX11_bothOf_130_0 x (r0 x D) (r1 x D) (r2 x D) (r3 x D) S a := rfl
theorem r2_s (x : XT) (D : Nat) (S : ST) (a : Int32) : r2 x (D + 1) S a = bfX11_plainOf_130_0 x (r0 x D) (r1 x D) (r2 x D) (r3 x D) S a := by
  unfold r2 r0 r1 r3
  rw [gqX11_testOf_130, show Nat.beq 2 0 = false from rfl, cond_false, show Nat.beq 2 1 = false from rfl, cond_false, show Nat.beq 2 2 = true from rfl, cond_true, grfX11_plainOf_130]
theorem r3_s (x : XT) (D : Nat) (S : ST) (a : Int32) : r3 x (D + 1) S a = bfX11_positiveOf_130_0 x (r0 x D) (r1 x D) (r2 x D) (r3 x D) S a := rfl
/-- what a walk along a TEST must tell -/
def PT (lv br : Int32) (dv : Option Int32) (r br' : Int32) : Prop :=
  (r = 0 ∨ r = 1) ∧ (br' = 0 ∨ br' = 1) ∧ (lv = 1 → br = 0 → match dv with
    | none => br' = 1
    | some v => br' = 0 ∧ r = v) ∧ (lv = 0 ∨ br = 1 → br' = br)
def fol (T : ST) (E j : Nat) : Prop := nomul T E j ∧ noadd T E j
theorem fol_of {T : ST} {E j c : Nat} (h : ec T E j = iN c) (hc : c < 1000) (h1 : c ≠ 142) (h2 : c ≠ 147) (h3 : c ≠ 137) (h4 : c ≠ 143) (h5 : c ≠ 145) : fol T E j := by
  unfold fol nomul noadd
  rw [h]
  exact ⟨⟨iNn h1 hc (by omega), iNn h2 hc (by omega), iNn h3 hc (by omega)⟩, iNn h4 hc (by omega), iNn h5 hc (by omega)⟩
theorem both_step (x : XT) (A B C Dd : ST → Int32 → Option (Int32 × ST)) (T : ST) (E : Nat) (hE : T.1 130 23 = iN E) (hE2 : E ≤ 2800) (m j : Nat) (hm : m < E) (hec : ec T E m = iN 6) {lv br br1 : Int32} {d1 d2 : DN} {W : Nat → Int32} {v1 : Int32} (hlv : lv = 0 ∨ lv = 1) (hb : br = 0 ∨ br = 1) (h1 : PT lv br (d1 W) v1 br1) (hC : ∀ lv2, lv2 = 0 ∨ lv2 = 1 → ∃ v2 br2, C (ge T (m + 1) br1) lv2 = some (v2, ge T j br2) ∧ PT lv2 br1 (d2 W) v2 br2) (fuel : Nat) :
    ∃ r' br', lfX11_bothOf_130_6 x A B C Dd (fuel + 1) (ge T m br1) lv v1 = lfX11_bothOf_130_6 x A B C Dd fuel (ge T j br') lv r' ∧ PT lv br (sD 1 d1 d2 W) r' br' := by
  have ne : (1 : Int32) ≠ 0 := by decide
  show ∃ r' br', bfX11_bothOf_130_6 x A B C Dd (lfX11_bothOf_130_6 x A B C Dd fuel) (ge T m br1) lv v1 = _ ∧ _
  unfold bfX11_bothOf_130_6 bfX11_bothOf_130_28 bfX11_bothOf_130_29 bfX11_bothOf_130_45 bfX11_bothOf_130_46
  rw [show (6 : Int32) = iN 6 from rfl]
  simp only [passes_eq x T E hE hE2 m br1 (by omega), hec, if_true, ne, if_false]
  obtain ⟨a0, a1, a2, a3⟩ := h1
  obtain ⟨p2, q2, f1, f2⟩ := hC 0 (Or.inl rfl)
  obtain ⟨p3, q3, g1, g2⟩ := hC 1 (Or.inr rfl)
  obtain ⟨f3, f4, f5, f6⟩ := f2
  obtain ⟨g3, g4, g5, g6⟩ := g2
  have f7 := f6 (Or.inl rfl)
  rcases hlv with rfl | rfl
  · rw [if_pos rfl, f1]
    dsimp only
    have e3 := a3 (Or.inl rfl)
    by_cases hv : v1 = 0
    · rw [if_pos hv]
      exact ⟨0, q2, rfl, Or.inl rfl, f4, fun h => absurd h.symm ne, fun _ => f7.trans e3⟩
    · rw [if_neg hv]
      by_cases hp : p2 = 0
      · rw [if_pos hp]
        exact ⟨0, q2, rfl, Or.inl rfl, f4, fun h => absurd h.symm ne, fun _ => f7.trans e3⟩
      · rw [if_neg hp]
        exact ⟨1, q2, rfl, Or.inr rfl, f4, fun h => absurd h.symm ne, fun _ => f7.trans e3⟩
  · rw [if_neg ne]
    by_cases hv : v1 = 0
    · rw [if_pos hv, f1]
      dsimp only
      rw [if_pos hv]
      refine ⟨0, q2, rfl, Or.inl rfl, f4, fun e1 e2 => ?_, fun h => ?_⟩
      · have a2 := a2 e1 e2
        unfold sD
        cases hd1 : d1 W with
        | none => rw [hd1] at a2; exact f7.trans a2
        | some w =>
          rw [hd1] at a2
          obtain ⟨b1, b2⟩ := a2
          have hw : w = iN (1 - 1) := b2.symm.trans hv
          simp only [if_pos hw]
          exact ⟨f7.trans b1, hw.symm⟩
      · have hb1 : br = 1 := h.elim (fun h => absurd h ne) id
        exact f7.trans (a3 (Or.inr hb1))
    · rw [if_neg hv, g1]
      dsimp only
      rw [if_neg hv]
      have hr : ∃ r', (if p3 = 0 then lfX11_bothOf_130_6 x A B C Dd fuel (ge T j q3) 1 0 else lfX11_bothOf_130_6 x A B C Dd fuel (ge T j q3) 1 1) = lfX11_bothOf_130_6 x A B C Dd fuel (ge T j q3) 1 r' ∧ r' = p3 := by
        rcases g3 with rfl | rfl
        · exact ⟨0, if_pos rfl, rfl⟩
        · exact ⟨1, if_neg ne, rfl⟩
      obtain ⟨r', e1, rfl⟩ := hr
      refine ⟨r', q3, e1, g3, g4, fun e1 e2 => ?_, fun h => ?_⟩
      · have a2 := a2 e1 e2
        unfold sD
        cases hd1 : d1 W with
        | none => rw [hd1] at a2; exact (g6 (Or.inr a2)).trans a2
        | some w =>
          rw [hd1] at a2
          obtain ⟨b1, b2⟩ := a2
          have hw : ¬ w = iN (1 - 1) := fun h => hv (b2.trans h)
          simp only [if_neg hw]
          exact g5 rfl b1
      · have hb1 : br = 1 := h.elim (fun h => absurd h ne) id
        have e3 := a3 (Or.inr hb1)
        exact (g6 (Or.inr (e3.trans hb1))).trans e3
theorem test_step (x : XT) (A B C Dd : ST → Int32 → Option (Int32 × ST)) (T : ST) (E : Nat) (hE : T.1 130 23 = iN E) (hE2 : E ≤ 2800) (m j : Nat) (hm : m < E) (hec : ec T E m = iN 5) {lv br br1 : Int32} {d1 d2 : DN} {W : Nat → Int32} {v1 : Int32} (hlv : lv = 0 ∨ lv = 1) (hb : br = 0 ∨ br = 1) (h1 : PT lv br (d1 W) v1 br1) (hC : ∀ lv2, lv2 = 0 ∨ lv2 = 1 → ∃ v2 br2, B (ge T (m + 1) br1) lv2 = some (v2, ge T j br2) ∧ PT lv2 br1 (d2 W) v2 br2) (fuel : Nat) :
    ∃ r' br', lfX11_testOf_130_6 x A B C Dd (fuel + 1) (ge T m br1) lv v1 = lfX11_testOf_130_6 x A B C Dd fuel (ge T j br') lv r' ∧ PT lv br (sD 0 d1 d2 W) r' br' := by
  have ne : (1 : Int32) ≠ 0 := by decide
  show ∃ r' br', bfX11_testOf_130_6 x A B C Dd (lfX11_testOf_130_6 x A B C Dd fuel) (ge T m br1) lv v1 = _ ∧ _
  unfold bfX11_testOf_130_6 bfX11_testOf_130_27 bfX11_testOf_130_28 bfX11_testOf_130_40 bfX11_testOf_130_45
  rw [show (5 : Int32) = iN 5 from rfl]
  simp only [passes_eq x T E hE hE2 m br1 (by omega), hec, if_true, ne, if_false]
  obtain ⟨a0, a1, a2, a3⟩ := h1
  obtain ⟨p2, q2, f1, f2⟩ := hC 0 (Or.inl rfl)
  obtain ⟨p3, q3, g1, g2⟩ := hC 1 (Or.inr rfl)
  obtain ⟨f3, f4, f5, f6⟩ := f2
  obtain ⟨g3, g4, g5, g6⟩ := g2
  have f7 := f6 (Or.inl rfl)
  rcases hlv with rfl | rfl
  · rw [if_pos rfl, f1]
    dsimp only
    have e3 := a3 (Or.inl rfl)
    by_cases hv : v1 = 0
    · rw [if_neg (fun h => h hv)]
      by_cases hp : p2 = 0
      · rw [if_pos hp]
        exact ⟨0, q2, rfl, Or.inl rfl, f4, fun h => absurd h.symm ne, fun _ => f7.trans e3⟩
      · rw [if_neg hp]
        exact ⟨1, q2, rfl, Or.inr rfl, f4, fun h => absurd h.symm ne, fun _ => f7.trans e3⟩
    · rw [if_pos hv]
      exact ⟨1, q2, rfl, Or.inr rfl, f4, fun h => absurd h.symm ne, fun _ => f7.trans e3⟩
  · rw [if_neg ne]
    by_cases hv : v1 = 0
    · rw [if_neg (fun h => h hv), g1]
      dsimp only
      rw [if_neg (fun h => h hv)]
      have hr : ∃ r', (if p3 = 0 then lfX11_testOf_130_6 x A B C Dd fuel (ge T j q3) 1 0 else lfX11_testOf_130_6 x A B C Dd fuel (ge T j q3) 1 1) = lfX11_testOf_130_6 x A B C Dd fuel (ge T j q3) 1 r' ∧ r' = p3 := by
        rcases g3 with rfl | rfl
        · exact ⟨0, if_pos rfl, rfl⟩
        · exact ⟨1, if_neg ne, rfl⟩
      obtain ⟨r', e1, rfl⟩ := hr
      refine ⟨r', q3, e1, g3, g4, fun e1 e2 => ?_, fun h => ?_⟩
      · have a2 := a2 e1 e2
        unfold sD
        cases hd1 : d1 W with
        | none => rw [hd1] at a2; exact (g6 (Or.inr a2)).trans a2
        | some w =>
          rw [hd1] at a2
          obtain ⟨b1, b2⟩ := a2
          have hw : ¬ w = iN (1 - 0) := fun h => ne ((b2.trans h).symm.trans hv)
          simp only [if_neg hw]
          exact g5 rfl b1
      · have hb1 : br = 1 := h.elim (fun h => absurd h ne) id
        have e3 := a3 (Or.inr hb1)
        exact (g6 (Or.inr (e3.trans hb1))).trans e3
    · rw [if_pos hv, f1]
      dsimp only
      rw [if_pos hv]
      have hv1 : v1 = 1 := a0.elim (fun h => absurd h hv) id
      refine ⟨1, q2, rfl, Or.inr rfl, f4, fun e1 e2 => ?_, fun h => ?_⟩
      · have a2 := a2 e1 e2
        unfold sD
        cases hd1 : d1 W with
        | none => rw [hd1] at a2; exact f7.trans a2
        | some w =>
          rw [hd1] at a2
          obtain ⟨b1, b2⟩ := a2
          have hw : w = iN (1 - 0) := b2.symm.trans hv1
          simp only [if_pos hw]
          exact ⟨f7.trans b1, hw.symm⟩
      · have hb1 : br = 1 := h.elim (fun h => absurd h ne) id
        exact f7.trans (a3 (Or.inr hb1))
theorem both_end (x : XT) (A B C Dd : ST → Int32 → Option (Int32 × ST)) (T : ST) (E : Nat) (hE : T.1 130 23 = iN E) (hE2 : E ≤ 2800) (j : Nat) (hj : j ≤ E) (h : ¬ ec T E j = iN 6) (lv br r : Int32) (hr : r = 0 ∨ r = 1) (fuel : Nat) : lfX11_bothOf_130_6 x A B C Dd (fuel + 1) (ge T j br) lv r = some (r, ge T j br) := by
  show bfX11_bothOf_130_6 x A B C Dd (lfX11_bothOf_130_6 x A B C Dd fuel) (ge T j br) lv r = _
  unfold bfX11_bothOf_130_6
  rw [show (6 : Int32) = iN 6 from rfl]
  simp only [passes_eq x T E hE hE2 j br (by omega), if_neg h, if_true]
  rcases hr with rfl | rfl <;> rfl
theorem test_end (x : XT) (A B C Dd : ST → Int32 → Option (Int32 × ST)) (T : ST) (E : Nat) (hE : T.1 130 23 = iN E) (hE2 : E ≤ 2800) (j : Nat) (hj : j ≤ E) (h : ¬ ec T E j = iN 5) (lv br r : Int32) (hr : r = 0 ∨ r = 1) (fuel : Nat) : lfX11_testOf_130_6 x A B C Dd (fuel + 1) (ge T j br) lv r = some (r, ge T j br) := by
  show bfX11_testOf_130_6 x A B C Dd (lfX11_testOf_130_6 x A B C Dd fuel) (ge T j br) lv r = _
  unfold bfX11_testOf_130_6
  rw [show (5 : Int32) = iN 5 from rfl]
  simp only [passes_eq x T E hE hE2 j br (by omega), if_neg h, if_true]
  rcases hr with rfl | rfl <;> rfl
/-- "not" again and again -/
theorem nots (x : XT) (A B C Dd : ST → Int32 → Option (Int32 × ST)) (T : ST) (E : Nat) (hE : T.1 130 23 = iN E) (hE2 : E ≤ 2800) (lv br : Int32) : ∀ (q i fuel z : Nat), i + q ≤ E → (∀ r, r < q → ec T E (i + r) = iN 7) → q ≤ fuel → lfX11_plainOf_130_2 x A B C Dd fuel (ge T i br) lv (iN (z % 2)) = lfX11_plainOf_130_2 x A B C Dd (fuel - q) (ge T (i + q) br) lv (iN ((z + q) % 2))
  | 0, i, fuel, z, _, _, _ => rfl
  | q + 1, i, fuel, z, hi, h, hf => by
    obtain ⟨fuel, rfl⟩ : ∃ n, fuel = n + 1 := ⟨fuel - 1, by omega⟩
    have ih := nots x A B C Dd T E hE hE2 lv br q (i + 1) fuel (z + 1) (by omega) (fun r hr => by have := h (r + 1) (by omega); rwa [show i + (r + 1) = i + 1 + r by omega] at this) (by omega)
    have e0 : ec T E i = iN 7 := h 0 (by omega)
    show bfX11_plainOf_130_2 x A B C Dd (lfX11_plainOf_130_2 x A B C Dd fuel) (ge T i br) lv (iN (z % 2)) = _
    unfold bfX11_plainOf_130_2 bfX11_plainOf_130_20
    rw [show (7 : Int32) = iN 7 from rfl, passes_eq x T E hE hE2 i br (by omega), e0, if_pos rfl]
    dsimp only
    rw [if_neg (by decide)]
    rw [show fuel + 1 - (q + 1) = fuel - q by omega, show i + (q + 1) = i + 1 + q by omega, show z + (q + 1) = z + 1 + q by omega, ← ih]
    rcases Nat.mod_two_eq_zero_or_one z with hz | hz
    · rw [hz, if_neg (fun h => h (show iN 0 = 0 from rfl)), show (z + 1) % 2 = 1 by omega]
      rfl
    · rw [hz, if_pos (by decide), show (z + 1) % 2 = 0 by omega]
      rfl
end REFTEST
