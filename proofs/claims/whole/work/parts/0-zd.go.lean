section GO
theorem RK.of {x : XT} {S S' : ST} {f f' : Nat → Int32} (h : RK x S 1 f) (hs : Sm (lK 1) S S') (hf : f' = f) : RK x S' 1 f' := by rw [hf]; exact h.cg hs
set_option maxRecDepth 4000 in
theorem s_go (x : XT) (S T : ST) (h : Rel x S T) (a b : Int32) : CallA x (gfX1_sendThrough_33 x S a b) (gfX11_goesKept_130 x T a b) := by
  obtain ⟨G, hG, g1, g2⟩ := h.gates
  obtain ⟨P, hP, p1, p2⟩ := h.goers
  unfold gfX1_sendThrough_33 bfX1_sendThrough_33_0 bfX1_sendThrough_33_22 gfX11_goesKept_130 bfX11_goesKept_130_0 bfX11_goesKept_130_16
  rw [hasGoer_eq1 x S a P (by omega) p1, isGoer_eq x T a P (by omega) p2, neg_2, neg_3]
  dsimp only
  have bt : ¬ bz true = 0 := by decide
  cases ha : inb a P with
  | false => exact CallA.ref h 2 (by omega) (by omega)
  | true =>
    rw [if_neg bt, if_neg bt, hasGate_eq1 x S b G (by omega) g1, isGate_eq x T b G (by omega) g2]
    dsimp only
    cases hb : inb b G with
    | false => exact CallA.ref h 2 (by omega) (by omega)
    | true =>
      obtain ⟨p, hp, rfl⟩ := inb_ex ha
      obtain ⟨g, hg, rfl⟩ := inb_ex hb
      rw [if_pos bt, if_pos bt]
      obtain ⟨R, hR⟩ := h.1.lr
      obtain ⟨r, S1, T1, e1, e2, e3⟩ := can1 x S T h.1 R hR p g (by omega) (by omega)
      have hR1 : Rel x S1 T1 := h.scr (frX0_can_20_1 x S _ _ _ _ e1) (by decide) (frX11_canGo_130 x T _ _ _ _ e2) (by decide)
      rw [e1, e2]
      dsimp only
      rcases e3 with rfl | rfl
      · rw [if_neg (fun q => q rfl), if_neg (fun q => q rfl)]
        exact CallA.ref hR1 3 (by omega) (by omega)
      · rw [if_pos (by decide), if_pos (by decide)]
        have tt : T1.2.1 132 = T.2.1 132 := (frX11_canGo_130 x T _ _ _ _ e2).2.1 132 (by decide)
        clear e1 e2
        obtain ⟨q6, q7, -, q9⟩ := hR1.1.1.2.2.2.2.2.2.1 p (by omega)
        have q6 : S1.2.1 7 p = T1.2.1 132 p := q6
        have q7 : S1.2.1 8 p = T1.2.1 132 (5 + p) := q7
        have q9 : S1.2.1 10 p = T1.2.1 132 (10 + p) := q9
        rw [inb_t (show p < 5 by omega) (by omega), iN_nat (by omega), q6, q7, q9]
        simp only [cond_true]
        obtain ⟨G', hG', g1', g2'⟩ := hR1.gates
        obtain ⟨P', hP', p1', p2'⟩ := hR1.goers
        obtain ⟨n, m, u', v', en, hn, hm, m1, m2, kc, kr, hu, hv, hv2, y0, y1, y2, y3, y4, y5⟩ := keep2 x S1 T1 hR1 263 (iN p) (T1.2.1 132 p) (T1.2.1 132 (5 + p)) (T1.2.1 132 (10 + p)) 0
        rw [kc, kr]
        dsimp only
        have a0 : Agr ([(33, 0)], [34], [], []) S1 (u2 S1.1 33 0 (iN (m + 1)), u1 S1.2.1 34 u', S1.2.2.1, S1.2.2.2) := Agr.fa Agr.rf 33 0 _ 34 u' (by decide) (by decide)
        have t0 : (u1 T1.2.1 143 v') 132 = T1.2.1 132 := u1_n _ _ (by decide)
        have aT0 : Agr ([(130, 31)], [143], [], []) T1 (u2 T1.1 130 31 (iN (m + 1)), u1 T1.2.1 143 v', T1.2.2.1, T1.2.2.2) := Agr.fa Agr.rf 130 31 _ 143 v' (by decide) (by decide)
        have K2 : RK x (u2 S1.1 33 0 (iN (m + 1)), u1 S1.2.1 34 u', S1.2.2.1, S1.2.2.2) 1 ((u1 T1.2.1 143 v') 132) := by rw [t0]; exact hR1.1.cg (a0.sm (by decide))
        have c1 : (u2 S1.1 33 0 (iN (m + 1))) 33 0 = iN (m + 1) := u2_s _ _ _ _
        have c3 : (u2 T1.1 130 31 (iN (m + 1))) 130 31 = iN (m + 1) := u2_s _ _ _ _
        have c2 : (u1 S1.2.1 34 u') 34 = u' := u1_s _ _ _
        have c4 : (u1 T1.2.1 143 v') 143 = v' := u1_s _ _ _
        have cQ : ((u2 S1.1 33 0 (iN (m + 1)), u1 S1.2.1 34 u', S1.2.2.1, S1.2.2.2) : ST).2.2.2 15 = S1.2.2.2 15 := rfl
        generalize hS2 : ((u2 S1.1 33 0 (iN (m + 1)), u1 S1.2.1 34 u', S1.2.2.1, S1.2.2.2) : ST) = S2 at a0 K2 cQ
        generalize hT2 : ((u2 T1.1 130 31 (iN (m + 1)), u1 T1.2.1 143 v', T1.2.2.1, T1.2.2.2) : ST) = T2 at aT0
        have c1 : S2.1 33 0 = iN (m + 1) := by rw [← hS2]; exact c1
        have c2 : S2.2.1 34 = u' := by rw [← hS2]; exact c2
        have c3 : T2.1 130 31 = iN (m + 1) := by rw [← hT2]; exact c3
        have c4 : T2.2.1 143 = v' := by rw [← hT2]; exact c4
        have t2 : T2.2.1 132 = T1.2.1 132 := by rw [← hT2]; exact t0
        have K2 : RK x S2 1 (T2.2.1 132) := by rw [t2]; rw [t0] at K2; exact K2
        obtain ⟨R2, hR2⟩ := K2.lr
        obtain ⟨r, pd, S3, T3, e1, e2, ir, ip, e3, e4, e5⟩ := move1 x S2 T2 K2 R2 hR2 p g (by omega) (by omega)
        have fS := frX0_move_20_1 x S2 _ _ _ _ e1
        have fT := frX11_goesNow_130 x T2 _ _ _ _ e2
        rw [e1, e2]
        dsimp only
        rw [e5]
        obtain ⟨rr, hrr, err⟩ := inb_ex ir
        refine ⟨_, _, _, rfl, rfl, ?_, Or.inl (by rw [err]; exact iN_nn (by omega))⟩
        have a1 : Agr ([(33, 0)], [34, 7, 8, 10, 21, 22], [], []) S1 S3 := (a0.sub (by decide)).tr (fS.sub (by decide))
        have aT1 : Agr ([(130, 31), (130, 22), (130, 23), (130, 24), (130, 25)], [143, 132, 142], [], []) T1 T3 := (aT0.sub (by decide)).tr (fT.sub (by decide))
        rw [t2] at e3
        refine hR1.push (u' := u') (v' := v') en hn hm m1 m2 (a1.sm (by decide)) (aT1.sm (by decide)) ((fS.1 33 0 (by decide)).trans c1) ((fS.2.1 34 (by decide)).trans c2) ((fT.1 130 31 (by decide)).trans c3) ((fT.2.1 143 (by decide)).trans c4) hu hv hv2 e4 ?_ ?_ (((fS.2.2.2 15 (by decide))).trans cQ) ?_
        · rw [e3]
          have hM := hR1.1.2.1.1
          refine ((hM.put p _ ?_ ?_ ?_).put (5 + p) r ?_ ?_ ?_).put (10 + p) pd ?_ ?_ ?_
          · exact fun p' hp' => ⟨fun _ => (hR1.1.2.1.2.2.2.2.2.2.1 g (by omega)).2.1, fun e => by omega, fun e => by omega⟩
          · exact fun g' hg' => ⟨fun e => by omega, fun e => by omega⟩
          · exact fun e => by omega
          · exact fun p' hp' => ⟨fun e => by omega, fun _ => ir, fun e => by omega⟩
          · exact fun g' hg' => ⟨fun e => by omega, fun e => by omega⟩
          · exact fun e => by omega
          · exact fun p' hp' => ⟨fun e => by omega, fun e => by omega, fun _ => ip⟩
          · exact fun g' hg' => ⟨fun e => by omega, fun e => by omega⟩
          · exact fun e => by omega
        · intro k hk
          rw [e3, u1_n _ _ (by omega), u1_n _ _ (by omega), u1_n _ _ (by omega)]
        · intro G2 P2 e91 hG2 e92 hP2
          have hPP : P2 = P' := (iN_eq (by omega) (by omega)).mp (e92.symm.trans p2')
          have hPP' : P' = P := (iN_eq (by omega) (by omega)).mp (p2'.symm.trans (by rw [tt]; exact p2))
          rw [e3]
          refine Or.inl ⟨p, by omega, y5, y0, y1, y2.symm, y3.symm, y4.symm, fun i hi h1 h2 h3 => ?_⟩
          rw [u1_n _ _ h3, u1_n _ _ h2, u1_n _ _ h1]
theorem c_go (x : XT) (S T : ST) (h : Rel x S T) (a b : Int32) : Call x S T (gfX10_go_0 x S a b) (gfX11_go_130 x T a b) := by
  obtain ⟨r, S', T', e1, e2, hR, hA⟩ := s_go x S T h a b
  unfold gfX10_go_0 bfX10_go_0_0 gfX11_go_130 bfX11_go_130_0
  rw [e1, e2]
  exact told_end x S T S' T' r hR hA
set_option maxRecDepth 4000 in
theorem undo_loop (x : XT) (T : ST) (b : Nat) (hb : b + 36 < 592) : ∀ (q k fuel : Nat), k + q = 36 → q < fuel → lfX11_undo_130_34 x fuel (wA T 132 (va_cpy (T.2.1 143) (T.2.1 132) b 0 k)) (iN b) (iN k) = some (T.2.1 143 (b + 36), gG (wA T 132 (va_cpy (T.2.1 143) (T.2.1 132) b 0 36)))
  | 0, k, fuel, hk, hf => by
    obtain ⟨fuel, rfl⟩ : ∃ z, fuel = z + 1 := ⟨fuel - 1, by omega⟩
    have : k = 36 := by omega
    subst this
    rw [lfX11_undo_130_34, bfX11_undo_130_34, if_pos (show (36 : Int32) ≤ iN 36 by decide), show iN b + 36 = iN (b + 36) from iN_add b 36, inb_t hb (by omega), cond_true, iN_nat (by omega), wA_n _ _ (show 143 ≠ 132 by decide), good_eq]
  | q + 1, k, fuel, hk, hf => by
    obtain ⟨fuel, rfl⟩ : ∃ z, fuel = z + 1 := ⟨fuel - 1, by omega⟩
    rw [lfX11_undo_130_34, bfX11_undo_130_34, if_neg (show ¬ (36 : Int32) ≤ iN k from fun hh => by have := (iN_le (m := 36) (by omega) (by omega)).mp hh; omega), iN_add, inb_t (show b + k < 592 by omega) (by omega), cond_true, inb_t (show k < 5703 by omega) (by omega), cond_true, iN_nat (by omega), iN_nat (by omega), iN_succ, wA_n _ _ (show 143 ≠ 132 by decide), wA_u2]
    have := cpy_s (T.2.1 143) (T.2.1 132) b 0 k
    rw [Nat.zero_add] at this
    rw [this]
    exact undo_loop x T b hb q (k + 1) fuel (by omega) (by omega)
theorem UR.pop {u v f f' : Nat → Int32} {n : Nat} (hU : UR u v f (n + 1)) (hf : ∀ i, i < 36 → f' i = v (37 * n + i)) (h91 : f' 91 = f 91) (h92 : f' 92 = f 92) : UR u v f' n := by
  intro k hk
  obtain ⟨q1, q2⟩ := hU k (by omega)
  refine ⟨q1, fun G P a b c d => (q2 G P (h91 ▸ a) b (h92 ▸ c) d).cgB b (fun i hi => ?_)⟩
  rw [if_pos (show k + 1 < n + 1 by omega)]
  by_cases hh : k + 1 < n
  · rw [if_pos hh]
  · rw [if_neg hh, hf i hi, show k + 1 = n by omega]
set_option maxRecDepth 4000 in
theorem c_undo (x : XT) (S T : ST) (h : Rel x S T) : Call x S T (gfX10_undo_0 x S) (gfX11_undo_130 x T) := by
  obtain ⟨n, hn, e1, e2, hU⟩ := h.2.2.2.2.2.1
  unfold gfX10_undo_0 bfX10_undo_0_0 gfX1_takeBack_33 bfX1_takeBack_33_0 gfX11_undo_130 bfX11_undo_130_0
  rw [e1, e2, neg_3]
  cases n with
  | zero =>
    rw [if_neg (show ¬ (0 : Int32) < iN 0 by decide), if_neg (show ¬ ¬ iN 0 = 0 from fun q => q rfl), refuses_eq x T 3 (by omega) (by omega)]
    dsimp only
    rw [told_r x S 3 (by omega) (by omega)]
    exact ⟨_, _, _, rfl, rfl, h.ref 3 (by omega)⟩
  | succ n =>
    obtain ⟨G, hG, g1, g2⟩ := h.gates
    obtain ⟨P, hP, p1, p2⟩ := h.goers
    obtain ⟨hMW, hst⟩ := hU n (by omega)
    have hst := hst G P g2 hG p2 hP
    have hB : (fun i => if n + 1 < n + 1 then T.2.1 143 (37 * (n + 1) + i) else T.2.1 132 i) = T.2.1 132 := by
      funext i; rw [if_neg (by omega)]
    rw [hB] at hst
    have m1 : iN (n + 1) - 1 = iN n := iN_sub (m := n + 1) (n := 1) (by omega)
    have m5 : iN n * 5 = iN (5 * n) := by rw [show (5 : Int32) = iN 5 from rfl, iN_mul, Nat.mul_comm]
    have m37 : (37 : Int32) * iN n = iN (37 * n) := iN_mul 37 n
    rw [if_pos (show (0 : Int32) < iN (n + 1) from (iN_lt (m := 0) (by omega) (by omega)).mpr (by omega)), if_pos (show ¬ iN (n + 1) = 0 from fun q => by have := (iN_eq (n := 0) (by omega) (by omega)).mp q; omega), m1, m5, m37]
    -- the reference
    generalize hT1 : ((u2 T.1 130 31 (iN n), T.2.1, T.2.2.1, T.2.2.2) : ST) = T1
    have ut : T1.2.1 = T.2.1 := by rw [← hT1]
    have ul := undo_loop x T1 (37 * n) (by omega) 36 0 20000 (by omega) (by omega)
    rw [cpy_0, wA_self, show iN 0 = 0 from rfl] at ul
    rw [ul, ut]
    generalize hF : va_cpy (T.2.1 143) (T.2.1 132) (37 * n) 0 36 = F
    have fA : ∀ i, i < 36 → F i = T.2.1 143 (37 * n + i) := fun i hi => by
      rw [← hF, cpy_in _ _ (by omega) (by omega), Nat.sub_zero]
    have fB : ∀ i, 36 ≤ i → F i = T.2.1 132 i := fun i hi => by rw [← hF, cpy_out _ _ (by omega)]
    -- the end of it
    have aT : Agr ([(130, 31)], [132], [], []) T (wA T1 132 F) := by
      rw [← hT1]; exact Agr.fa Agr.rf 130 31 _ 132 F (by decide) (by decide)
    have fin : ∀ (S2 : ST) (W : WS), Agr W S S2 → dj W lC2 = true → S2.1 33 0 = iN n → S2.2.1 34 = S.2.1 34 → S2.2.2.2 15 = S.2.2.2 15 → KA S2 1 F → Rel x S2 (wA T1 132 F) := by
      intro S2 W aS dW c1 c2 cQ hK
      obtain ⟨ka, kw, kt⟩ := h.1
      refine h.mk2 (aS.sm dW) (aT.sm (by decide)) ?_ ⟨n, by omega, c1, by rw [← hT1]; exact u2_s T.1 130 31 _, ?_⟩
      · rw [wA_s]
        refine ⟨hK, ?_, kt.cgf cQ (aS.sm (L := lC2) dW).2.2.2 (fB 94 (by omega)) (fun k hk => fB k (by omega))⟩
        obtain ⟨w0, w1, w2, w3, w4, w5, w6, w7, w8, w9, w10⟩ := kw
        unfold WF
        rw [fB 91 (by omega), fB 92 (by omega), fB 93 (by omega), fB 94 (by omega), fB 95 (by omega), fB 89 (by omega), fB 90 (by omega)]
        refine ⟨hMW.cg fA, w1, w2, w3, w4, w5, fun g hg => ?_, fun p hp => ?_, fun s hs => ?_, w9, w10⟩
        · rw [fB _ (by omega), fB _ (by omega), fB _ (by omega)]; exact w6 g hg
        · rw [fB _ (by omega)]; exact w7 p hp
        · rw [fB _ (by omega), fB _ (by omega), fB _ (by omega)]; exact w8 s hs
      · rw [c2, wA_s, wA_n _ _ (show 143 ≠ 132 by decide), ut]
        exact hU.pop fA (fB 91 (by omega)) (fB 92 (by omega))
    have i0 : inb (iN (5 * n)) 80 = true := inb_t (by omega) (by omega)
    have i1 : inb (iN (5 * n + 1)) 80 = true := inb_t (by omega) (by omega)
    have i2 : inb (iN (5 * n + 2)) 80 = true := inb_t (by omega) (by omega)
    have i3 : inb (iN (5 * n + 3)) 80 = true := inb_t (by omega) (by omega)
    have i4 : inb (iN (5 * n + 4)) 80 = true := inb_t (by omega) (by omega)
    rw [show iN (5 * n) + 1 = iN (5 * n + 1) from iN_add _ 1, show iN (5 * n) + 2 = iN (5 * n + 2) from iN_add _ 2, show iN (5 * n) + 3 = iN (5 * n + 3) from iN_add _ 3, show iN (5 * n) + 4 = iN (5 * n + 4) from iN_add _ 4, i0, i1, i2, i3, i4, iN_nat (show 5 * n < 2147483648 by omega), iN_nat (show 5 * n + 1 < 2147483648 by omega), iN_nat (show 5 * n + 2 < 2147483648 by omega), iN_nat (show 5 * n + 3 < 2147483648 by omega), iN_nat (show 5 * n + 4 < 2147483648 by omega)]
    simp only [cond_true]
    have g1' : (u2 S.1 33 0 (iN n)) 1 0 = iN G := by rw [u2_n _ _ _ _ (by decide)]; exact g1
    have p1' : (u2 S.1 33 0 (iN n)) 1 6 = iN P := by rw [u2_n _ _ _ _ (by decide)]; exact p1
    have aS0 : Agr ([(33, 0)], [], [], []) S (u2 S.1 33 0 (iN n), S.2.1, S.2.2.1, S.2.2.2) := Agr.f Agr.rf 33 0 _ (by decide)
    have K0 : KA (u2 S.1 33 0 (iN n), S.2.1, S.2.2.1, S.2.2.2) 1 (T.2.1 132) := h.1.1.cg (aS0.sm (by decide))
    have bt : ¬ bz true = 0 := by decide
    rcases hst with ⟨p, q1, q2, q3, q4, q5, q6, q7, q8⟩ | ⟨g, q1, q2, q3, q4, q5, q6⟩ | ⟨g, q1, q2, q3, q4, q5, q6⟩ | ⟨q2, q3, q4, q5⟩
    · have q3 : S.2.1 34 (5 * n) = 263 := q3
      have q4 : S.2.1 34 (5 * n + 1) = iN p := q4
      rw [q3, q4, if_neg (fun q => q rfl), hasGoer_eq1 x (u2 S.1 33 0 (iN n), S.2.1, S.2.2.1, S.2.2.2) (iN p) P (by omega) p1', inb_t q1 (by omega)]
      dsimp only
      rw [if_neg bt, inb_t (show p < 5 by omega) (by omega), iN_nat (show p < 2147483648 by omega)]
      unfold bfX1_takeBack_33_233
      simp only [cond_true]
      rw [i0, iN_nat (show 5 * n < 2147483648 by omega), u2_ro _ _ _ (by decide), u2_ro _ _ _ (by decide), u2_ro _ _ _ (by decide), q3]
      simp only [cond_true]
      rw [show (263 : Int32) - 263 = 0 from rfl, told_g x _ 0 (by decide), q2]
      refine ⟨0, _, _, rfl, rfl, Rel.good (fin _ ([(33, 0)], [7, 8, 10], [], []) (Agr.i (Agr.i (Agr.i (Agr.f Agr.rf 33 0 _ (by decide)) 7 p _ (by decide)) 8 p _ (by decide)) 10 p _ (by decide)) (by decide) (u2_s S.1 33 0 _) ?_ rfl ?_)⟩
      · dsimp only
        rw [u2_ro _ _ _ (by decide), u2_ro _ _ _ (by decide), u2_ro _ _ _ (by decide)]
      · have hk := ((K0.a6 p (by omega) (S.2.1 34 (5 * n + 2))).a7 p (by omega) (S.2.1 34 (5 * n + 3))).a9 p (by omega) (S.2.1 34 (5 * n + 4))
        have hFe : F = u1 (u1 (u1 (T.2.1 132) p (S.2.1 34 (5 * n + 2))) (5 + p) (S.2.1 34 (5 * n + 3))) (10 + p) (S.2.1 34 (5 * n + 4)) := by
          funext i
          by_cases hi : i < 36
          · rw [fA i hi]
            by_cases h3 : i = 10 + p
            · subst h3; rw [u1_s]; exact q7
            · rw [u1_n _ _ h3]
              by_cases h2 : i = 5 + p
              · subst h2; rw [u1_s]; exact q6
              · rw [u1_n _ _ h2]
                by_cases h1 : i = p
                · subst h1; rw [u1_s]; exact q5
                · rw [u1_n _ _ h1]; exact q8 i hi h1 h2 h3
          · rw [fB i (by omega), u1_n _ _ (by omega), u1_n _ _ (by omega), u1_n _ _ (by omega)]
        rw [hFe]; exact hk
    · have q3 : S.2.1 34 (5 * n) = 264 := q3
      have q4 : S.2.1 34 (5 * n + 1) = iN g := q4
      rw [q3, q4, if_pos (by decide)]
      unfold bfX1_takeBack_33_113
      rw [i0, iN_nat (show 5 * n < 2147483648 by omega), cond_true]
      dsimp only
      rw [q3, if_neg (fun q => q rfl), hasGate_eq1 x (u2 S.1 33 0 (iN n), S.2.1, S.2.2.1, S.2.2.2) (iN g) G (by omega) g1', inb_t q1 (by omega)]
      dsimp only
      rw [if_neg bt, inb_t (show g < 10 by omega) (by omega), iN_nat (show g < 2147483648 by omega), cond_true]
      obtain ⟨z, hz, ez⟩ := inb_ex (h.1.2.1.1.2.1 g (by omega)).2
      have k5 : S.2.1 6 g = T.2.1 132 (25 + g) := (h.1.1.2.2.2.2.2.1 g (by omega)).2.2.2.2
      have hA : T.2.1 143 (37 * n + (25 + g)) = 1 - iN z := by rw [← ez]; exact q5
      have go : ∀ w : Int32, w = 1 - iN z → Call x S T (match bfX1_takeBack_33_161 x (u2 S.1 33 0 (iN n), S.2.1, S.2.2.1, S.2.2.2) (iN (5 * n)) (iN g) w with
          | none => none
          | some (r3, S4) => match gfX10_told_0 x S4 r3 with
            | none => none
            | some (r7, S8) => some (r7, S8)) (some (T.2.1 143 (37 * n + 36), gG (wA T1 132 F))) := by
        intro w hw
        have hw2 : vp_nar .boolean w = w := by
          rcases (show z = 0 ∨ z = 1 by omega) with rfl | rfl <;> (rw [hw]; rfl)
        unfold bfX1_takeBack_33_161 bfX1_takeBack_33_233
        rw [inb_t (show g < 10 by omega) (by omega), iN_nat (show g < 2147483648 by omega), i0, iN_nat (show 5 * n < 2147483648 by omega), hw2]
        simp only [cond_true]
        rw [u2_ro _ _ _ (by decide), q3, show (264 : Int32) - 263 = 1 from rfl, told_g x _ 1 (by decide), q2]
        refine ⟨1, _, _, rfl, rfl, Rel.good (fin _ ([(33, 0)], [6], [], []) (Agr.i (Agr.f Agr.rf 33 0 _ (by decide)) 6 g w (by decide)) (by decide) (u2_s S.1 33 0 _) ?_ rfl ?_)⟩
        · show (u2 S.2.1 6 g w) 34 = _
          rw [u2_ro _ _ _ (by decide)]
        · have hk := K0.a5 g (by omega) w
          have hFe : F = u1 (T.2.1 132) (25 + g) w := by
            funext i
            by_cases hi : i < 36
            · rw [fA i hi]
              by_cases h3 : i = 25 + g
              · subst h3; rw [u1_s, hw]; exact hA
              · rw [u1_n _ _ h3]; exact q6 i hi h3
            · rw [fB i (by omega), u1_n _ _ (by omega)]
          rw [hFe]; exact hk
      rw [k5, ez]
      rcases (show z = 0 ∨ z = 1 by omega) with rfl | rfl
      · rw [if_neg (show ¬ ¬ iN 0 = 0 from fun q => q rfl)]; exact go 1 rfl
      · rw [if_pos (show ¬ iN 1 = 0 by decide)]; exact go 0 rfl
    · have q3 : S.2.1 34 (5 * n) = 265 := q3
      have q4 : S.2.1 34 (5 * n + 1) = iN g := q4
      rw [q3, q4, if_pos (by decide)]
      unfold bfX1_takeBack_33_113 bfX1_takeBack_33_165
      rw [i0, iN_nat (show 5 * n < 2147483648 by omega), cond_true]
      dsimp only
      rw [q3, if_pos (by decide), cond_true, if_neg (fun q => q rfl), hasGate_eq1 x (u2 S.1 33 0 (iN n), S.2.1, S.2.2.1, S.2.2.2) (iN g) G (by omega) g1', inb_t q1 (by omega)]
      dsimp only
      rw [if_neg bt, show iN (5 * n) + 2 = iN (5 * n + 2) from iN_add _ 2, i2, inb_t (show g < 10 by omega) (by omega), iN_nat (show g < 2147483648 by omega), iN_nat (show 5 * n + 2 < 2147483648 by omega)]
      unfold bfX1_takeBack_33_233
      rw [i0, iN_nat (show 5 * n < 2147483648 by omega)]
      simp only [cond_true]
      rw [u2_ro _ _ _ (by decide), q3, show (265 : Int32) - 263 = 2 from rfl, told_g x _ 2 (by decide), q2]
      refine ⟨2, _, _, rfl, rfl, Rel.good (fin _ ([(33, 0)], [5], [], []) (Agr.i (Agr.f Agr.rf 33 0 _ (by decide)) 5 g _ (by decide)) (by decide) (u2_s S.1 33 0 _) ?_ rfl ?_)⟩
      · dsimp only
        rw [u2_ro _ _ _ (by decide)]
      · have hk := K0.a4 g (by omega) (S.2.1 34 (5 * n + 2))
        have hFe : F = u1 (T.2.1 132) (15 + g) (S.2.1 34 (5 * n + 2)) := by
          funext i
          by_cases hi : i < 36
          · rw [fA i hi]
            by_cases h3 : i = 15 + g
            · subst h3; rw [u1_s]; exact q5
            · rw [u1_n _ _ h3]; exact q6 i hi h3
          · rw [fB i (by omega), u1_n _ _ (by omega)]
        rw [hFe]; exact hk
    · have q3 : S.2.1 34 (5 * n) = 266 := q3
      rw [q3, if_pos (by decide)]
      unfold bfX1_takeBack_33_113 bfX1_takeBack_33_165 bfX1_takeBack_33_208
      rw [i0, iN_nat (show 5 * n < 2147483648 by omega), cond_true]
      dsimp only
      rw [q3, if_pos (by decide), cond_true, if_pos (by decide), cond_true, if_neg (fun q => q rfl)]
      unfold bfX1_takeBack_33_233
      rw [i0, iN_nat (show 5 * n < 2147483648 by omega)]
      simp only [cond_true]
      rw [u2_ro _ _ _ (by decide), q3, show (266 : Int32) - 263 = 3 from rfl, told_g x _ 3 (by decide), q2]
      have k8 : S.2.1 14 0 = T.2.1 132 35 := h.1.1.2.2.2.2.2.2.2.2.1
      rw [k8]
      refine ⟨3, _, _, rfl, rfl, Rel.good (fin _ ([(33, 0)], [14], [], []) (Agr.i (Agr.f Agr.rf 33 0 _ (by decide)) 14 0 _ (by decide)) (by decide) (u2_s S.1 33 0 _) ?_ rfl ?_)⟩
      · dsimp only
        rw [u2_ro _ _ _ (by decide)]
      · have hk := K0.t0 (T.2.1 132 35 - 1)
        have hFe : F = u1 (T.2.1 132) 35 (T.2.1 132 35 - 1) := by
          funext i
          by_cases hi : i < 36
          · rw [fA i hi]
            by_cases h3 : i = 35
            · subst h3; rw [u1_s]; exact q4
            · rw [u1_n _ _ h3]; exact q5 i hi h3
          · rw [fB i (by omega), u1_n _ _ (by omega)]
        rw [hFe]; exact hk
end GO
