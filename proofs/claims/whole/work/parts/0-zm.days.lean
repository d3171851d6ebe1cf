section DAYS2
set_option maxRecDepth 4000 in
theorem aside_loop (x : XT) (T : ST) (i : Nat) (hi : i < 2) : ∀ (q k fuel : Nat), k + q = 36 → q < fuel → lfX11_laysAside_130_2 x fuel (wA T 135 (va_cpy (T.2.1 132) (T.2.1 135) 0 (36 * i) k)) (iN i) (iN k) = some ((), wA T 135 (va_cpy (T.2.1 132) (T.2.1 135) 0 (36 * i) 36))
  | 0, k, fuel, hk, hf => by
    obtain ⟨fuel, rfl⟩ : ∃ z, fuel = z + 1 := ⟨fuel - 1, by omega⟩
    have : k = 36 := by omega
    subst this
    rw [lfX11_laysAside_130_2, bfX11_laysAside_130_2, if_pos (show (36 : Int32) ≤ iN 36 by decide)]
  | q + 1, k, fuel, hk, hf => by
    obtain ⟨fuel, rfl⟩ : ∃ z, fuel = z + 1 := ⟨fuel - 1, by omega⟩
    rw [lfX11_laysAside_130_2, bfX11_laysAside_130_2, if_neg (show ¬ (36 : Int32) ≤ iN k from fun hh => by have := (iN_le (m := 36) (by omega) (by omega)).mp hh; omega), show (36 : Int32) * iN i = iN (36 * i) from iN_mul 36 i, iN_add, inb_t (show k < 5703 by omega) (by omega), cond_true, inb_t (show 36 * i + k < 72 by omega) (by omega), cond_true, iN_nat (by omega), iN_nat (by omega), iN_succ, wA_n _ _ (show 132 ≠ 135 by decide), wA_u2]
    have := cpy_s (T.2.1 132) (T.2.1 135) 0 (36 * i) k
    rw [Nat.zero_add] at this
    rw [this]
    exact aside_loop x T i hi q (k + 1) fuel (by omega) (by omega)
theorem aside_eq (x : XT) (T : ST) (i : Nat) (hi : i < 2) : gfX11_laysAside_130 x T (iN i) = some ((), wA T 135 (va_cpy (T.2.1 132) (T.2.1 135) 0 (36 * i) 36)) := by
  have e := aside_loop x T i hi 36 0 20000 (by omega) (by omega)
  rw [cpy_0, wA_self, show iN 0 = 0 from rfl] at e
  unfold gfX11_laysAside_130 bfX11_laysAside_130_0
  exact e
set_option maxRecDepth 4000 in
theorem takes_loop (x : XT) (T : ST) (i : Nat) (hi : i < 2) : ∀ (q k fuel : Nat), k + q = 36 → q < fuel → lfX11_takesBack_130_2 x fuel (wA T 132 (va_cpy (T.2.1 135) (T.2.1 132) (36 * i) 0 k)) (iN i) (iN k) = some ((), wA T 132 (va_cpy (T.2.1 135) (T.2.1 132) (36 * i) 0 36))
  | 0, k, fuel, hk, hf => by
    obtain ⟨fuel, rfl⟩ : ∃ z, fuel = z + 1 := ⟨fuel - 1, by omega⟩
    have : k = 36 := by omega
    subst this
    rw [lfX11_takesBack_130_2, bfX11_takesBack_130_2, if_pos (show (36 : Int32) ≤ iN 36 by decide)]
  | q + 1, k, fuel, hk, hf => by
    obtain ⟨fuel, rfl⟩ : ∃ z, fuel = z + 1 := ⟨fuel - 1, by omega⟩
    rw [lfX11_takesBack_130_2, bfX11_takesBack_130_2, if_neg (show ¬ (36 : Int32) ≤ iN k from fun hh => by have := (iN_le (m := 36) (by omega) (by omega)).mp hh; omega), show (36 : Int32) * iN i = iN (36 * i) from iN_mul 36 i, iN_add, inb_t (show 36 * i + k < 72 by omega) (by omega), cond_true, inb_t (show k < 5703 by omega) (by omega), cond_true, iN_nat (by omega), iN_nat (by omega), iN_succ, wA_n _ _ (show 135 ≠ 132 by decide), wA_u2]
    have := cpy_s (T.2.1 135) (T.2.1 132) (36 * i) 0 k
    rw [Nat.zero_add] at this
    rw [this]
    exact takes_loop x T i hi q (k + 1) fuel (by omega) (by omega)
theorem takes_eq (x : XT) (T : ST) (i : Nat) (hi : i < 2) : gfX11_takesBack_130 x T (iN i) = some ((), wA T 132 (va_cpy (T.2.1 135) (T.2.1 132) (36 * i) 0 36)) := by
  have e := takes_loop x T i hi 36 0 20000 (by omega) (by omega)
  rw [cpy_0, wA_self, show iN 0 = 0 from rfl] at e
  unfold gfX11_takesBack_130 bfX11_takesBack_130_0
  exact e
set_option maxRecDepth 4000 in
theorem drawn_loop (x : XT) (T : ST) (w : Int32) : ∀ (q k fuel : Nat), k + q = 36 → q < fuel → lfX11_days_130_161 x fuel (wA T 157 (va_cpy (T.2.1 132) (T.2.1 157) 0 0 k)) w (iN k) = some (w, gG (wA (wA T 157 (va_cpy (T.2.1 132) (T.2.1 157) 0 0 36)) 132 (va_cpy (T.2.1 135) (T.2.1 132) 0 0 36)))
  | 0, k, fuel, hk, hf => by
    obtain ⟨fuel, rfl⟩ : ∃ z, fuel = z + 1 := ⟨fuel - 1, by omega⟩
    have : k = 36 := by omega
    subst this
    rw [lfX11_days_130_161, bfX11_days_130_161, if_pos (show (36 : Int32) ≤ iN 36 by decide)]
    have e := takes_eq x (wA T 157 (va_cpy (T.2.1 132) (T.2.1 157) 0 0 36)) 0 (by omega)
    rw [show iN 0 = 0 from rfl] at e
    rw [e]
    dsimp only
    rw [good_eq, wA_n _ _ (show 135 ≠ 157 by decide), wA_n _ _ (show 132 ≠ 157 by decide)]
  | q + 1, k, fuel, hk, hf => by
    obtain ⟨fuel, rfl⟩ : ∃ z, fuel = z + 1 := ⟨fuel - 1, by omega⟩
    rw [lfX11_days_130_161, bfX11_days_130_161, if_neg (show ¬ (36 : Int32) ≤ iN k from fun hh => by have := (iN_le (m := 36) (by omega) (by omega)).mp hh; omega), inb_t (show k < 5703 by omega) (by omega), cond_true, inb_t (show k < 36 by omega) (by omega), cond_true, iN_nat (by omega), iN_succ, wA_n _ _ (show 132 ≠ 157 by decide), wA_u2]
    have := cpy_s (T.2.1 132) (T.2.1 157) 0 0 k
    rw [Nat.zero_add] at this
    rw [this]
    exact drawn_loop x T w q (k + 1) fuel (by omega) (by omega)
/-- what the latest DAYS leave as it was -/
def lCD : WS := ((lK 1).1 ++ (lK 100).1 ++ (lK 115).1 ++ [(18, 1), (0, 12), (0, 13), (0, 14), (0, 15), (33, 0)], (lK 1).2.1 ++ (lK 100).2.1 ++ (lK 115).2.1 ++ [17, 19, 99, 34], [], [15, 114, 129, 16])
def lRD : WS := ([(130, 13), (130, 0), (130, 14), (130, 43), (130, 6), (130, 31)], [133, 134, 137, 131, 143, 136], [], [])
theorem Rel.mkD {x : XT} {S S' T T' : ST} (h : Rel x S T) (hS : Sm lCD S S') (hT : Sm lRD T T') (e132 : T'.2.1 132 = T.2.1 132) (hD : RelD S' T') : Rel x S' T' := by
  obtain ⟨h1, h2, h3, h4, h5, h6, h7, h8⟩ := h
  have e131 := hT.2.1 131 (by decide)
  have e133 := hT.2.1 133 (by decide)
  have e134 := hT.2.1 134 (by decide)
  have e136 := hT.2.1 136 (by decide)
  have e137 := hT.2.1 137 (by decide)
  have e143 := hT.2.1 143 (by decide)
  have t0 := hT.1 (130, 0) (by decide)
  have t6 := hT.1 (130, 6) (by decide)
  have t13 := hT.1 (130, 13) (by decide)
  have t14 := hT.1 (130, 14) (by decide)
  have t31 := hT.1 (130, 31) (by decide)
  have t43 := hT.1 (130, 43) (by decide)
  have s1 := hS.1 (18, 1) (by decide)
  have s12 := hS.1 (0, 12) (by decide)
  have s13 := hS.1 (0, 13) (by decide)
  have s14 := hS.1 (0, 14) (by decide)
  have s15 := hS.1 (0, 15) (by decide)
  have s33 := hS.1 (33, 0) (by decide)
  have a17 := hS.2.1 17 (by decide)
  have a19 := hS.2.1 19 (by decide)
  have a99 := hS.2.1 99 (by decide)
  have a34 := hS.2.1 34 (by decide)
  dsimp only at t0 t6 t13 t14 t31 t43 s1 s12 s13 s14 s15 s33
  refine ⟨?_, h2.cg (hS.sub (by decide) (by decide) (by decide)) (hS.sub (by decide) (by decide) (by decide)) a17 e133 e134 (hS.2.2.1 16 (by decide)), ?_, ?_, ?_, ?_, hD, ?_⟩
  · rw [e132]; exact h1.cg (hS.sub (by decide) (by decide) (by decide))
  · unfold RelT; rw [s1, t13, a19, e137]; exact h3
  · unfold RelS; rw [a99, e131, s12, t0]; exact h4
  · unfold RelM; rw [s13, s14, s15, t14, t43, t6]; exact h5
  · unfold RelU; rw [s33, t31, a34, e143, e132]; exact h6
  · unfold RelC; rw [e136]; exact h8
set_option maxRecDepth 4000 in
theorem c_days (x : XT) (S T : ST) (h : Rel x S T) (a b : Int32) : Call x S T (gfX10_days_0 x S a b) (gfX11_days_130 x T a b) := by
  obtain ⟨P, hP, p1, p2⟩ := h.goers
  obtain ⟨G, hG, g1, g2⟩ := h.gates
  have w1 : gfX10_within x S a 1000001 = some (bz (inb a 1000001), S) := within_eq x S a 1000001 (by omega)
  have l1 : gfX11_lies x T a 0 1000000 = some (bz (inb a 1000001), T) := lies_eq x T a 1000001 (by omega)
  have l2 : gfX11_lies x T b 1 60 = some (if b < 1 then 0 else if 60 < b then 0 else 1, T) := by
    unfold gfX11_lies bfX11_lies_0 bfX11_lies_14 bfX11_lies_15
    by_cases q1 : b < 1
    · rw [if_pos q1, if_pos q1]; rfl
    · rw [if_neg q1, if_neg q1]
      by_cases q2 : 60 < b
      · rw [if_pos q2, if_pos q2]; rfl
      · rw [if_neg q2, if_neg q2]; rfl
  have ref : ∀ k, 1 ≤ k → k ≤ 6 → Call x S T (match gfX10_told_0 x S (-iN k) with
      | none => none
      | some (r3, S4) => some (r3, S4)) (match gfX11_refuses_130 x T (-iN k) with
      | none => none
      | some (r3, S4) => some (r3, S4)) := by
    intro k k1 k2
    rw [told_r x S k k1 k2, refuses_eq x T k k1 k2]
    exact ⟨_, _, _, rfl, rfl, h.ref k (by omega)⟩
  unfold gfX10_days_0 bfX10_days_0_0 bfX10_days_0_21 bfX10_days_0_47 gfX11_days_130 bfX11_days_130_0 bfX11_days_130_20 bfX11_days_130_43
  rw [neg_1, neg_3, w1, l1]
  dsimp only
  cases ha : inb a 1000001 with
  | false =>
    rw [if_pos (show bz false = 0 from rfl), if_pos (show bz false = 0 from rfl)]
    exact ref 1 (by omega) (by omega)
  | true =>
    rw [if_neg (show ¬ bz true = 0 by decide), if_neg (show ¬ bz true = 0 by decide), l2]
    dsimp only
    by_cases q1 : b < 1
    · rw [if_pos q1, if_pos q1, if_neg (show ¬ ¬ (0 : Int32) = 0 from fun q => q rfl)]
      exact ref 1 (by omega) (by omega)
    · rw [if_neg q1, if_neg q1]
      by_cases q2 : 60 < b
      · rw [if_neg (Int32.not_le.mpr q2), if_pos q2, if_neg (show ¬ ¬ (0 : Int32) = 0 from fun q => q rfl)]
        exact ref 1 (by omega) (by omega)
      · rw [if_pos (Int32.not_lt.mp q2), if_neg q2, if_pos (show ¬ (1 : Int32) = 0 by decide), p1, p2]
        by_cases hP0 : P = 0
        · subst hP0
          rw [if_pos (show iN 0 = 0 from rfl), if_pos (show iN 0 = 0 from rfl)]
          exact ref 3 (by omega) (by omega)
        · have n0 : ¬ iN P = 0 := fun q => hP0 ((iN_eq (n := 0) (by omega) (by omega)).mp q)
          rw [if_neg n0, if_neg n0, gateMany_eq]
          dsimp only
          rw [g1, g2]
          by_cases hG0 : G = 0
          · subst hG0
            rw [if_neg (show ¬ ¬ iN 0 = 0 from fun q => q rfl), if_neg (show ¬ ¬ iN 0 = 0 from fun q => q rfl)]
            exact ref 3 (by omega) (by omega)
          · have n1 : ¬ iN G = 0 := fun q => hG0 ((iN_eq (n := 0) (by omega) (by omega)).mp q)
            rw [if_pos n1, if_pos n1]
            obtain ⟨s, hs, rfl⟩ := inb_ex ha
            have eb : b = iN b.toNatClampNeg := (Int32.ofNat_toNatClampNeg b (by
              have := mt Int32.lt_iff_toInt_lt.mpr q1
              rw [show (1 : Int32).toInt = 1 from rfl] at this
              exact Int32.le_iff_toInt_le.mpr (by rw [show (0 : Int32).toInt = 0 from rfl]; omega))).symm
            have bb := Int32.toNatClampNeg_lt b
            generalize hN : b.toNatClampNeg = N at eb bb
            subst eb
            have hN2 : N ≤ 60 := by
              have := mt (iN_lt (m := 60) (by omega) bb).mpr q2
              omega
            -- the class
            obtain ⟨S1, c1, c2⟩ := copy84_1 x S h.1.2.2.1 h.1.opn
            have f1 := frX7_copyFrom_84_1 x S _ _ c1
            have K1 := c2.rk h.1 (f1.sm (L := ([], [], [], [])) (by decide)).2.2.2
            have aS1 : Agr ([(83, 2), (84, 0), (84, 6), (84, 11), (84, 16), (84, 18)], [21, 22, 85, 86, 87, 88, 89, 90, 91, 92, 93, 94, 95, 96, 97], [], [98]) S (u2 S1.1 83 2 (iN s), S1.2.1, S1.2.2.1, S1.2.2.2) := Agr.f (f1.sub (by decide)) 83 2 _ (by decide)
            have K1' : RK x (u2 S1.1 83 2 (iN s), S1.2.1, S1.2.2.1, S1.2.2.2) 84 (T.2.1 132) := K1.cg ((Agr.f (W := ([(83, 2)], [], [], [])) Agr.rf 83 2 _ (by decide)).sm (by decide))
            have sd1 : (u2 S1.1 83 2 (iN s)) 83 2 = iN s := u2_s _ _ _ _
            -- the reference
            have sd2 : (u2 (u2 T.1 130 52 (iN s)) 130 51 (iN P)) 130 52 = iN s := by rw [u2_k _ _ _ (by decide), u2_s]
            have sd51 : (u2 (u2 T.1 130 52 (iN s)) 130 51 (iN P)) 130 51 = iN P := u2_s _ _ _ _
            have aT0 : Agr ([(130, 52), (130, 51)], [], [], []) T (u2 (u2 T.1 130 52 (iN s)) 130 51 (iN P), T.2.1, T.2.2.1, T.2.2.2) := Agr.f (Agr.f Agr.rf 130 52 _ (by decide)) 130 51 _ (by decide)
            generalize hT0 : ((u2 (u2 T.1 130 52 (iN s)) 130 51 (iN P), T.2.1, T.2.2.1, T.2.2.2) : ST) = T0 at aT0
            have t0 : T0.2.1 = T.2.1 := by rw [← hT0]
            have sd2 : T0.1 130 52 = iN s := by rw [← hT0]; exact sd2
            have sd51 : T0.1 130 51 = iN P := by rw [← hT0]; exact sd51
            have e0 := aside_eq x T0 0 (by omega)
            rw [show iN 0 = 0 from rfl, t0] at e0
            have aT1 : Agr ([(130, 52), (130, 51)], [135], [], []) T (wA T0 135 (va_cpy (T.2.1 132) (T.2.1 135) 0 (36 * 0) 36)) := Agr.ic (aT0.sub (by decide)) 135 _ (by decide)
            generalize hA : va_cpy (T.2.1 132) (T.2.1 135) 0 (36 * 0) 36 = A at e0 aT1
            have hA2 : ∀ i, i < 36 → A i = T.2.1 132 i := fun i hi => by rw [← hA, cpy_in _ _ (by omega) (by omega), show 0 + (i - 36 * 0) = i by omega]
            generalize hT1 : wA T0 135 A = T1 at e0 aT1
            have t132 : T1.2.1 132 = T.2.1 132 := aT1.2.1 132 (by decide)
            have t135 : T1.2.1 135 = A := by rw [← hT1, wA_s]
            have sd3 : T1.1 130 52 = iN s := by rw [← hT1]; exact sd2
            have sd4 : T1.1 130 51 = iN P := by rw [← hT1]; exact sd51
            generalize hS2 : ((u2 S1.1 83 2 (iN s), S1.2.1, S1.2.2.1, S1.2.2.2) : ST) = S2 at aS1 K1'
            have sd1 : S2.1 83 2 = iN s := by rw [← hS2]; exact sd1
            obtain ⟨S3, T3, c', v1, v2, v3, v4, v5, v6, v7⟩ := days_loop x N P G hN2 (by omega) hP (by omega) hG N 0 20000 S2 T1 s 0 (by omega) (by omega) (by rw [t132]; exact K1') sd1 sd3 (by omega) (by rw [t132]; exact p2) (by rw [t132]; exact g2) (by omega)
            have dl := drawn_loop x T3 (iN c') 36 0 20000 (by omega) (by omega)
            rw [cpy_0, wA_self, show iN 0 = 0 from rfl] at dl
            rw [show iN 0 = 0 from rfl] at v1 v2
            unfold gfX2_run_83_1 bfX2_run_83_1_0
            rw [c1]
            dsimp only
            rw [hS2, v1, p2, hT0, e0]
            dsimp only
            rw [v2, bfX11_days_130_158, dl, told_g x S3 _ (iN_nn (by omega))]
            refine ⟨_, _, _, rfl, rfl, Rel.good ?_⟩
            have t3_135 : T3.2.1 135 = A := by rw [v5.2.1 135 (by decide)]; exact t135
            have back : va_cpy (T3.2.1 135) (T3.2.1 132) 0 0 36 = T.2.1 132 := by
              funext i
              by_cases hi : i < 36
              · rw [cpy_in _ _ (by omega) (by omega), t3_135, show 0 + (i - 0) = i by omega]; exact hA2 i hi
              · rw [cpy_out _ _ (by omega), v6 i (by omega), t132]
            have aS3 : Agr ([(83, 2), (84, 0), (84, 6), (84, 11), (84, 16), (84, 18)], [21, 22, 85, 86, 87, 88, 89, 90, 91, 92, 93, 94, 95, 96, 97], [], [98]) S S3 := aS1.tr (v4.sub (by decide))
            have aT3 : Agr ([(130, 52), (130, 51), (130, 22), (130, 23), (130, 24), (130, 25)], [135, 132, 142, 157], [], []) T (wA (wA T3 157 (va_cpy (T3.2.1 132) (T3.2.1 157) 0 0 36)) 132 (va_cpy (T3.2.1 135) (T3.2.1 132) 0 0 36)) := Agr.ic (Agr.ic ((aT1.sub (by decide)).tr (v5.sub (by decide))) 157 _ (by decide)) 132 _ (by decide)
            refine h.mkD (aS3.sm (by decide)) (aT3.sm (by decide)) ?_ ?_
            · rw [wA_s]; exact back
            · refine Or.inr ⟨P, hP, ?_, ?_, fun p hp => ?_⟩
              · exact v3.1.2.1.trans (by rw [v6 92 (by omega), t132]; exact p2)
              · show T3.1 130 51 = iN P
                rw [v5.1 130 51 (by decide)]; exact sd4
              · rw [wA_n _ _ (show 157 ≠ 132 by decide), wA_s]
                obtain ⟨r1, r2, -, r4⟩ := v3.1.2.2.2.2.2.2.1 p hp
                rw [cpy_in _ _ (by omega) (by omega), cpy_in _ _ (by omega) (by omega), cpy_in _ _ (by omega) (by omega), show 0 + (p - 0) = p by omega, show 0 + (5 + p - 0) = 5 + p by omega, show 0 + (10 + p - 0) = 10 + p by omega]
                exact ⟨r1, r2, r4⟩
end DAYS2
