section ORDERS3
set_option maxRecDepth 4000 in
theorem c_orders (x : XT) (S T : ST) (h : Rel x S T) : Call x S T (gfX10_orders_0 x S) (gfX11_orders_130 x T) := by
  have h1 := h.stp (-1)
  unfold gfX10_orders_0 bfX10_orders_0_0 gfX11_orders_130 bfX11_orders_130_0
  have s14 : ((u2 S.1 0 14 (-1), S.2.1, S.2.2.1, S.2.2.2) : ST).1 0 14 = -1 := u2_s S.1 0 14 (-1)
  have t43 : ((u2 T.1 130 43 (-1), T.2.1, T.2.2.1, T.2.2.2) : ST).1 130 43 = -1 := u2_s T.1 130 43 (-1)
  generalize ((u2 S.1 0 14 (-1), S.2.1, S.2.2.1, S.2.2.2) : ST) = S1 at h1 s14
  generalize ((u2 T.1 130 43 (-1), T.2.1, T.2.2.1, T.2.2.2) : ST) = T1 at h1 t43
  rcases read_ord x S1 T1 h1.2.2.1 h1.2.2.2.2.2.2.2 with ⟨S4, T4, k, q1, q2, q3, q4, q5⟩ | ⟨S4, T4, n, C, Z, q1, q2, q3, q4, q5, q6, q7, q8, q9, q10, q11, q12, q13, q14⟩
  · have e1 := readTape_of x S1 S4 1 0 (Or.inl rfl) q1
    have h4 := h1.taped e1 q2 q5 (q3.trans q4.symm)
    rw [e1, q2]
    dsimp only
    rw [if_neg (show ¬ ¬ (0 : Int32) = 0 from fun z => z rfl), if_neg (show ¬ ¬ (0 : Int32) = 0 from fun z => z rfl), neg_6, told_r x _ 6 (by omega) (by omega), refuses_eq x _ 6 (by omega) (by omega)]
    exact ⟨_, _, _, rfl, rfl, h4.ref 6 (by omega)⟩
  · have e1 := readTape_of x S1 S4 1 1 (Or.inr rfl) q1
    have h4 := h1.taped e1 q2 q5 (q3.trans q4.symm)
    have fS4 := frX10_readTape_0 x S1 _ _ _ e1
    have fT4 := frX11_readsAs_130 x T1 _ _ _ q2
    have c0 : (rtS S4).1 25 0 = iN C := (rtS_o S4 25 0 (by decide) (by decide)).trans q12
    have c1 : (rtS S4).1 25 1 = iN Z := (rtS_o S4 25 1 (by decide) (by decide)).trans q13
    have q14 : OwT (T4.2.1 139) (T4.2.1 140) ((rtS S4).2.1 29) ((rtS S4).2.1 26) ((rtS S4).2.1 27) ((rtS S4).2.1 28) n Z C := q14
    have s14' : (rtS S4).1 0 14 = -1 := (fS4.1 0 14 (by decide)).trans s14
    have t43' : T4.1 130 43 = -1 := (fT4.1 130 43 (by decide)).trans t43
    rw [e1, q2]
    dsimp only
    rw [if_pos (show ¬ (1 : Int32) = 0 by decide), if_pos (show ¬ (1 : Int32) = 0 by decide)]
    clear q1 q2 q3 e1 fS4 fT4 q12 q13
    generalize rtS S4 = U at h4 c0 c1 q14 s14'
    obtain ⟨T5, T8, r0, r1, r2, r3, r4, r5, r6, r7, r8, r9⟩ := ref_laid x T4 n q6 q7 q8
    rw [r0]
    dsimp only
    rw [r1]
    obtain ⟨U9, k1, k2, k3, k4⟩ := keepAhead_ok x U (T4.2.1 132) h4.1
    have f9 := frX1_keepAhead_33 x U _ _ k1
    rw [k1]
    dsimp only
    unfold gfX5_run_51_25 bfX5_run_51_25_0
    have aS0 : Agr ([(51, 0), (51, 1)], [], [], []) U9 (u2 (u2 U9.1 51 0 0) 51 1 (-1), U9.2.1, U9.2.2.1, U9.2.2.2) := Agr.f (S1 := (u2 U9.1 51 0 0, U9.2.1, U9.2.2.1, U9.2.2.2)) (Agr.f Agr.rf 51 0 0 (by decide)) 51 1 (-1) (by decide)
    have z0 : ((u2 (u2 U9.1 51 0 0) 51 1 (-1), U9.2.1, U9.2.2.1, U9.2.2.2) : ST).1 51 0 = iN 0 := by
      show u2 (u2 U9.1 51 0 0) 51 1 (-1) 51 0 = _
      rw [u2_k _ _ _ (by decide), u2_s]
      rfl
    have z1 : ((u2 (u2 U9.1 51 0 0) 51 1 (-1), U9.2.1, U9.2.2.1, U9.2.2.2) : ST).1 51 1 = -1 := u2_s (u2 U9.1 51 0 0) 51 1 (-1)
    generalize ((u2 (u2 U9.1 51 0 0) 51 1 (-1), U9.2.1, U9.2.2.1, U9.2.2.2) : ST) = S0 at aS0 z0 z1
    -- the relation where the run begins
    have h0 : Rel x S0 T4 := (h4.scrC f9 (by decide)).scrC aS0 (by decide)
    have h8 : Rel x S0 T8 := h0.mkO (Agr.sm (W := ([], [], [], [])) Agr.rf (by decide)) (r4.sm (by decide)) (h0.1.lay (fun z a b c => r3 z a c b)) (h0.2.2.2.2.2.1.cg rfl rfl (r4.1 130 31 (by decide)) (r4.2.1 143 (by decide)) (fun i hi => r3 i (by omega) (by omega) (by omega)) (r3 91 (by omega) (by omega) (by omega)) (r3 92 (by omega) (by omega) (by omega))) (by rw [r4.1 130 43 (by decide)]; exact h0.2.2.2.2.1.2.1)
    obtain ⟨P, J, V, M, dA, dB, dT, P0, hcl⟩ := q14
    have row : ∀ q, q = 26 ∨ q = 27 ∨ q = 28 ∨ q = 29 → S0.2.1 q = U.2.1 q := by
      intro q hq
      rcases hq with rfl | rfl | rfl | rfl
      · rw [aS0.2.1 26 (by decide), f9.2.1 26 (by decide)]
      · rw [aS0.2.1 27 (by decide), f9.2.1 27 (by decide)]
      · rw [aS0.2.1 28 (by decide), f9.2.1 28 (by decide)]
      · rw [aS0.2.1 29 (by decide), f9.2.1 29 (by decide)]
    have hX : OX S0 T8 (T4.2.1 139) (T4.2.1 140) n Z C P J V M dA dB dT := by
      refine ⟨r2, ?_, ?_, q11, q9, q10, P0, fun c hc => ?_⟩
      · rw [aS0.1 25 0 (by decide), f9.1 25 0 (by decide)]; exact c0
      · rw [aS0.1 25 1 (by decide), f9.1 25 1 (by decide)]; exact c1
      · rw [row 26 (by omega), row 27 (by omega), row 28 (by omega), row 29 (by omega)]
        exact hcl c hc
    have hI : OI x S0 T8 S0 T8 0 := ⟨h8, Agr.rf, Agr.rf, fun _ _ => rfl, z0, r5, z1.trans r6.symm, by rw [z1]; decide⟩
    have ro := run_out x hX (T4.1 130 31) C 0 0 20000 20000 S0 T8 (by omega) (by omega) (by omega) (by omega) hI (by rw [P0]; exact r7)
    rw [show iN 0 = 0 from rfl] at ro
    have aU : Agr ([(33, 6), (35, 0), (35, 6), (35, 11), (35, 16), (35, 18), (33, 0), (51, 0), (51, 1)], [36, 37, 38, 39, 40, 41, 42, 43, 44, 45, 46, 47, 48, 50, 5, 6, 7, 8, 10, 14, 21, 22, 34, 52, 53], [], [49]) U S0 := (f9.sub (by decide)).tr (aS0.sub (by decide))
    rcases ro with ⟨S', T', k', w1, w2, w3, w4⟩ | ⟨S', T', c', w1, wc, w2, w3⟩
    · rw [w1, w2]
      dsimp only
      rw [if_pos (show (-1 : Int32) = -1 from rfl), w3.2.2.2.2.1, told_g x _ (iN k') (iN_nn (by omega))]
      refine ⟨_, _, _, rfl, rfl, Rel.good ?_⟩
      have aS : Agr ([(0, 14)], [], [], []) S' (u2 S'.1 0 14 (-1), S'.2.1, S'.2.2.1, S'.2.2.2) := Agr.f Agr.rf 0 14 _ (by decide)
      refine w3.1.mkO (aS.sm (by decide)) (Agr.sm (W := ([], [], [], [])) Agr.rf (by decide)) (w3.1.1.cg (aS.sm (by decide))) (w3.1.2.2.2.2.2.1.cg (aS.1 33 0 (by decide)) rfl rfl rfl (fun _ _ => rfl) rfl rfl) ?_
      show u2 S'.1 0 14 (-1) 0 14 = _
      rw [u2_s, w3.2.2.1.1 130 43 (by decide), r4.1 130 43 (by decide), t43']
    · obtain ⟨o1, o2, o3, o4⟩ := w3
      rw [w1, w2]
      dsimp only
      rw [if_neg (show ¬ iN c' = -1 from iN_ne1 (by omega))]
      have aS : Agr ([(0, 14)], [], [], []) S' (u2 S'.1 0 14 (iN c'), S'.2.1, S'.2.2.1, S'.2.2.2) := Agr.f Agr.rf 0 14 _ (by decide)
      have s14'' : ((u2 S'.1 0 14 (iN c'), S'.2.1, S'.2.2.1, S'.2.2.2) : ST).1 0 14 = iN c' := u2_s S'.1 0 14 (iN c')
      generalize ((u2 S'.1 0 14 (iN c'), S'.2.1, S'.2.2.1, S'.2.2.2) : ST) = S2 at aS s14''
      have K35 : RK x S2 35 (T4.2.1 132) := ((k2.cg (aS0.sm (by decide))).cg (o2.sm (by decide))).cg (aS.sm (by decide))
      obtain ⟨S3, y1, y2, y3, y4⟩ := restoreAhead_ok x S2 (T4.2.1 132) K35
      have f3 := frX1_restoreAhead_33 x S2 _ _ y1
      rw [y1]
      dsimp only
      rw [neg_3, told_r x _ 3 (by omega) (by omega)]
      have ag := again_l x (wA T' 132 (va_cpy (T'.2.1 135) (T'.2.1 132) 36 0 36)) (T4.1 130 31) (iN c') 592 0 20000 (by omega) (by omega)
      rw [cpy_0, wA_self, show iN 0 = 0 from rfl] at ag
      rw [ag]
      refine ⟨_, _, _, rfl, rfl, Rel.ref ?_ 3 (by omega)⟩
      have aT9 : Agr ([(130, 31), (130, 43)], [132, 143], [], []) T' (u2 (u2 (wA T' 132 (va_cpy (T'.2.1 135) (T'.2.1 132) 36 0 36)).1 130 31 (T4.1 130 31)) 130 43 (iN c'), u1 (wA T' 132 (va_cpy (T'.2.1 135) (T'.2.1 132) 36 0 36)).2.1 143 (va_cpy ((wA T' 132 (va_cpy (T'.2.1 135) (T'.2.1 132) 36 0 36)).2.1 144) ((wA T' 132 (va_cpy (T'.2.1 135) (T'.2.1 132) 36 0 36)).2.1 143) 0 0 592), (wA T' 132 (va_cpy (T'.2.1 135) (T'.2.1 132) 36 0 36)).2.2.1, (wA T' 132 (va_cpy (T'.2.1 135) (T'.2.1 132) 36 0 36)).2.2.2) := Agr.fa (S1 := (u2 T'.1 130 31 (T4.1 130 31), (wA T' 132 (va_cpy (T'.2.1 135) (T'.2.1 132) 36 0 36)).2.1, T'.2.2.1, T'.2.2.2)) (Agr.ic (S1 := (u2 T'.1 130 31 (T4.1 130 31), T'.2.1, T'.2.2.1, T'.2.2.2)) (Agr.f Agr.rf 130 31 _ (by decide)) 132 _ (by decide)) 130 43 _ 143 _ (by decide) (by decide)
      have m132 : (u1 (wA T' 132 (va_cpy (T'.2.1 135) (T'.2.1 132) 36 0 36)).2.1 143 (va_cpy ((wA T' 132 (va_cpy (T'.2.1 135) (T'.2.1 132) 36 0 36)).2.1 144) ((wA T' 132 (va_cpy (T'.2.1 135) (T'.2.1 132) 36 0 36)).2.1 143) 0 0 592)) 132 = va_cpy (T'.2.1 135) (T'.2.1 132) 36 0 36 := by
        rw [u1_n _ _ (show 132 ≠ 143 by decide), wA_s]
      have m143 : ∀ z, z < 592 → (u1 (wA T' 132 (va_cpy (T'.2.1 135) (T'.2.1 132) 36 0 36)).2.1 143 (va_cpy ((wA T' 132 (va_cpy (T'.2.1 135) (T'.2.1 132) 36 0 36)).2.1 144) ((wA T' 132 (va_cpy (T'.2.1 135) (T'.2.1 132) 36 0 36)).2.1 143) 0 0 592)) 143 z = T4.2.1 143 z := by
        intro z hz
        rw [u1_s, cpy_in _ _ (by omega) (by omega), wA_n _ _ (show 144 ≠ 132 by decide), show 0 + (z - 0) = z by omega, o3.2.1 144 (by decide)]
        exact r9 z hz
      have lo : ∀ z, z < 36 → va_cpy (T'.2.1 135) (T'.2.1 132) 36 0 36 z = T4.2.1 132 z := by
        intro z hz
        rw [cpy_in _ _ (by omega) (by omega), show 36 + (z - 0) = 36 + z by omega, o3.2.1 135 (by decide)]
        exact r8 z hz
      have all : ∀ z, z ≠ 102 → z < 5303 → (z < 2503 ∨ 2903 ≤ z) → va_cpy (T'.2.1 135) (T'.2.1 132) 36 0 36 z = T4.2.1 132 z := by
        intro z a b c
        by_cases z36 : z < 36
        · exact lo z z36
        · rw [cpy_out _ _ (by omega), o4 z (by omega)]
          exact r3 z a c b
      obtain ⟨nu, hnu, u1', u2', u3'⟩ := h4.2.2.2.2.2.1
      have aW : Agr ([(33, 6), (35, 0), (35, 6), (35, 11), (35, 16), (35, 18), (33, 0), (51, 0), (51, 1), (0, 14), (1, 0), (1, 6), (1, 11), (1, 16), (1, 18)], [36, 37, 38, 39, 40, 41, 42, 43, 44, 45, 46, 47, 48, 50, 5, 6, 7, 8, 10, 14, 21, 22, 34, 52, 53, 2, 3, 4, 9, 11, 12, 13], [], [49, 15]) U S3 := (((aU.sub (by decide)).tr (o2.sub (by decide))).tr (aS.sub (by decide))).tr (f3.sub (by decide))
      have aV : Agr ([(130, 22), (130, 23), (130, 24), (130, 25), (130, 27), (130, 28), (130, 31), (130, 43), (130, 44), (130, 45), (130, 46), (130, 47), (130, 48)], [132, 142, 143, 135, 144], [156], []) T4 _ := ((r4.sub (by decide)).tr (o3.sub (by decide))).tr (aT9.sub (by decide))
      refine h4.mkO (aW.sm (by decide)) (aV.sm (by decide)) ?_ ⟨nu, hnu, ?_, ?_, ?_⟩ ?_
      · exact Eq.mpr (congrArg (RK x S3 1) m132) (y2.lay all)
      · rw [y3, aS.1 33 6 (by decide), o2.1 33 6 (by decide), aS0.1 33 6 (by decide), k3]; exact u1'
      · show u2 (u2 (wA T' 132 (va_cpy (T'.2.1 135) (T'.2.1 132) 36 0 36)).1 130 31 (T4.1 130 31)) 130 43 (iN c') 130 31 = _
        rw [u2_k _ _ _ (by decide), u2_s]; exact u2'
      · refine u3'.same hnu (fun z hz => ?_) m143 ?_ ?_ ?_
        · rw [y4 z hz, aS.2.1 50 (by decide), o2.2.1 50 (by decide), aS0.2.1 50 (by decide)]; exact k4 z hz
        · exact fun z hz => (congrFun m132 z).trans (lo z hz)
        · exact (congrFun m132 91).trans (all 91 (by omega) (by omega) (by omega))
        · exact (congrFun m132 92).trans (all 92 (by omega) (by omega) (by omega))
      · rw [f3.1 0 14 (by decide), s14'']
        exact (u2_s (u2 (wA T' 132 (va_cpy (T'.2.1 135) (T'.2.1 132) 36 0 36)).1 130 31 (T4.1 130 31)) 130 43 (iN c')).symm
end ORDERS3
