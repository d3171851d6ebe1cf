section ORDERS2
def wLd : WS := ([(130, 27), (130, 28), (130, 44)], [132, 135, 144], [], [])
/-- the reference lays its ORDERS out -/
theorem ref_laid (x : XT) (T4 : ST) (n : Nat) (hn : n ≤ 400) (h18 : T4.1 130 18 = iN n) (h0 : T4.2.1 139 n = iN 0) : ∃ T5 T8, gfX11_laysAside_130 x T4 1 = some ((), T5) ∧ lfX11_orders_130_27 x 20000 T5 0 = lfX11_orders_130_95 x 20000 T8 (T4.1 130 31) (iN (2400 + n)) 0 ∧ Ld (T8.2.1 132) (T4.2.1 139) (T4.2.1 140) n ∧ (∀ z, z ≠ 102 → (z < 2503 ∨ 2903 ≤ z) → (z < 5303) → T8.2.1 132 z = T4.2.1 132 z) ∧ Agr wLd T4 T8 ∧ T8.1 130 27 = 0 ∧ T8.1 130 28 = -1 ∧ T8.1 130 44 = iN 2400 ∧ (∀ z, z < 36 → T8.2.1 135 (36 + z) = T4.2.1 132 z) ∧ (∀ z, z < 592 → T8.2.1 144 z = T4.2.1 143 z) := by
  have ae := aside_eq x T4 1 (by omega)
  rw [show iN 1 = 1 from rfl] at ae
  have al := ahead_l x (wA T4 135 (va_cpy (T4.2.1 132) (T4.2.1 135) 0 (36 * 1) 36)) 592 0 20000 (by omega) (by omega)
  rw [cpy_0, wA_self, show iN 0 = 0 from rfl] at al
  have ae2 : ∀ Y T7, gfX11_lays_130 x Y 6 = some ((), T7) → lfX11_orders_130_27 x 1 Y (iN 592) = lfX11_orders_130_95 x 20000 (u2 (u2 (u2 T7.1 130 27 0) 130 28 (-1)) 130 44 2400, T7.2.1, T7.2.2.1, T7.2.2.2) (Y.1 130 31) (2400 + T7.2.1 132 102) 0 := by
    intro Y T7 hY
    rw [lfX11_orders_130_27, bfX11_orders_130_27, if_pos (show (592 : Int32) ≤ iN 592 by decide), hY]
  have g5 : ∃ T5 : ST, T5 = wA T4 135 (va_cpy (T4.2.1 132) (T4.2.1 135) 0 (36 * 1) 36) := ⟨_, rfl⟩
  obtain ⟨T5, hT5⟩ := g5
  have b5 : Agr wLd T4 T5 := by rw [hT5]; exact Agr.ic Agr.rf 135 _ (by decide)
  have r135 : T5.2.1 135 = va_cpy (T4.2.1 132) (T4.2.1 135) 0 (36 * 1) 36 := by rw [hT5]; exact wA_s _ _ _
  have r132 : T5.2.1 132 = T4.2.1 132 := by rw [hT5]; exact wA_n _ _ (by decide)
  rw [← hT5] at ae al
  have g6 : ∃ T6 : ST, T6 = wA T5 144 (va_cpy (T5.2.1 143) (T5.2.1 144) 0 0 592) := ⟨_, rfl⟩
  obtain ⟨T6, hT6⟩ := g6
  have b6 : Agr wLd T4 T6 := b5.tr (by rw [hT6]; exact Agr.ic Agr.rf 144 _ (by decide))
  have q144 : T6.2.1 144 = va_cpy (T5.2.1 143) (T5.2.1 144) 0 0 592 := by rw [hT6]; exact wA_s _ _ _
  have q135 : T6.2.1 135 = T5.2.1 135 := by rw [hT6]; exact wA_n _ _ (by decide)
  have q132 : T6.2.1 132 = T4.2.1 132 := by rw [hT6, wA_n _ _ (show 132 ≠ 144 by decide)]; exact r132
  rw [← hT6] at al
  obtain ⟨T7, r1, r2, r3, r4, r5⟩ := laysz_eq x T6 6 n (by omega) hn ((b6.1 130 18 (by decide)).trans h18)
  rw [show iN 6 = 6 from rfl] at r1
  rw [ae2 T6 T7 r1, b6.1 130 31 (by decide)] at al
  have r2 : T7.2.1 132 102 = iN n := r2
  rw [r2, show (2400 : Int32) + iN n = iN (2400 + n) from iN_add 2400 n] at al
  have b7 : Agr wLd T4 T7 := b6.tr (r5.sub (by decide))
  have b8 : Agr wLd T7 (u2 (u2 (u2 T7.1 130 27 0) 130 28 (-1)) 130 44 2400, T7.2.1, T7.2.2.1, T7.2.2.2) := Agr.f (S1 := (u2 (u2 T7.1 130 27 0) 130 28 (-1), T7.2.1, T7.2.2.1, T7.2.2.2)) (Agr.f (S1 := (u2 T7.1 130 27 0, T7.2.1, T7.2.2.1, T7.2.2.2)) (Agr.f Agr.rf 130 27 0 (by decide)) 130 28 (-1) (by decide)) 130 44 2400 (by decide)
  refine ⟨T5, _, ae, al, ⟨hn, h0, fun z hz => ?_⟩, fun z z1 z2 z3 => ?_, b7.tr b8, ?_, ?_, ?_, fun z hz => ?_, fun z hz => ?_⟩
  · have := r3 z hz
    rw [b6.2.1 139 (by decide), b6.2.1 140 (by decide)] at this
    exact this
  · show T7.2.1 132 z = _
    rw [r4 z (by omega) (by omega) (by omega), q132]
  · show u2 (u2 (u2 T7.1 130 27 0) 130 28 (-1)) 130 44 2400 130 27 = 0
    rw [u2_k _ _ _ (by decide), u2_k _ _ _ (by decide), u2_s]
  · show u2 (u2 (u2 T7.1 130 27 0) 130 28 (-1)) 130 44 2400 130 28 = -1
    rw [u2_k _ _ _ (by decide), u2_s]
  · show u2 (u2 (u2 T7.1 130 27 0) 130 28 (-1)) 130 44 2400 130 44 = iN 2400
    rw [u2_s]
    rfl
  · show T7.2.1 135 (36 + z) = _
    rw [r5.2.1 135 (by decide), q135, r135, cpy_in _ _ (by omega) (by omega)]
    rw [show 0 + (36 + z - 36 * 1) = z by omega]
  · show T7.2.1 144 z = _
    rw [r5.2.1 144 (by decide), q144, cpy_in _ _ (by omega) (by omega), b5.2.1 143 (by decide)]
    rw [show 0 + (z - 0) = z by omega]
theorem keepAhead_ok (x : XT) (S : ST) (f : Nat → Int32) (hK : RK x S 1 f) : ∃ S9, gfX1_keepAhead_33 x S = some ((), S9) ∧ RK x S9 35 f ∧ S9.1 33 6 = S.1 33 0 ∧ ∀ z, z < 80 → S9.2.1 50 z = S.2.1 34 z := by
  obtain ⟨S5, q1, q2⟩ := copy35_1 x S hK.2.2.1 hK.opn
  have f5 := frX7_copyFrom_35_1 x S _ _ q1
  have s5 := (f5.sm (L := ([], [], [], [])) (by decide)).2.2.2
  have K5 : RK x S5 35 f := q2.rk hK s5
  have a9 : Agr ([(33, 6)], [50], [], []) S5 (u2 S5.1 33 6 (S5.1 33 0), u1 S5.2.1 50 (va_cpy (S5.2.1 34) (S5.2.1 50) 0 0 80), S5.2.2.1, S5.2.2.2) := Agr.fa Agr.rf 33 6 _ 50 _ (by decide) (by decide)
  refine ⟨(u2 S5.1 33 6 (S5.1 33 0), u1 S5.2.1 50 (va_cpy (S5.2.1 34) (S5.2.1 50) 0 0 80), S5.2.2.1, S5.2.2.2), ?_, K5.cg (a9.sm (by decide)), ?_, fun z hz => ?_⟩
  · unfold gfX1_keepAhead_33 bfX1_keepAhead_33_0
    rw [q1]
  · show u2 S5.1 33 6 (S5.1 33 0) 33 6 = _
    rw [u2_s, f5.1 33 0 (by decide)]
  · show u1 S5.2.1 50 (va_cpy (S5.2.1 34) (S5.2.1 50) 0 0 80) 50 z = _
    rw [u1_s, cpy_in _ _ (by omega) (by omega), f5.2.1 34 (by decide)]
    rw [show 0 + (z - 0) = z by omega]
theorem restoreAhead_ok (x : XT) (S : ST) (f : Nat → Int32) (hK : RK x S 35 f) : ∃ S9, gfX1_restoreAhead_33 x S = some ((), S9) ∧ RK x S9 1 f ∧ S9.1 33 0 = S.1 33 6 ∧ ∀ z, z < 80 → S9.2.1 34 z = S.2.1 50 z := by
  obtain ⟨S5, q1, q2⟩ := copy1_35 x S hK.2.2.1 hK.opn
  have f5 := frX7_copyFrom_1_35 x S _ _ q1
  have s5 := (f5.sm (L := ([], [], [], [])) (by decide)).2.2.2
  have K5 : RK x S5 1 f := q2.rk hK s5
  have a9 : Agr ([(33, 0)], [34], [], []) S5 (u2 S5.1 33 0 (S5.1 33 6), u1 S5.2.1 34 (va_cpy (S5.2.1 50) (S5.2.1 34) 0 0 80), S5.2.2.1, S5.2.2.2) := Agr.fa Agr.rf 33 0 _ 34 _ (by decide) (by decide)
  refine ⟨(u2 S5.1 33 0 (S5.1 33 6), u1 S5.2.1 34 (va_cpy (S5.2.1 50) (S5.2.1 34) 0 0 80), S5.2.2.1, S5.2.2.2), ?_, K5.cg (a9.sm (by decide)), ?_, fun z hz => ?_⟩
  · unfold gfX1_restoreAhead_33 bfX1_restoreAhead_33_0
    rw [q1]
  · show u2 S5.1 33 0 (S5.1 33 6) 33 0 = _
    rw [u2_s, f5.1 33 6 (by decide)]
  · show u1 S5.2.1 34 (va_cpy (S5.2.1 50) (S5.2.1 34) 0 0 80) 34 z = _
    rw [u1_s, cpy_in _ _ (by omega) (by omega), f5.2.1 50 (by decide)]
    rw [show 0 + (z - 0) = z by omega]
end ORDERS2
