section LAWC
theorem lays_l (x : XT) (T : ST) (l n : Nat) (hl : l ≤ 6) (hn : n ≤ 400) (h18 : T.1 130 18 = iN n) : ∀ (d k fuel : Nat) (T1 : ST), k + d = n → d < fuel → Agr ([], [132], [], []) T T1 → (∀ z, z < k → T1.2.1 132 (103 + 400 * l + z) = T.2.1 139 z ∧ T1.2.1 132 (2903 + 400 * l + z) = T.2.1 140 z) → ∃ T', lfX11_lays_130_15 x fuel T1 (iN l) (iN k) = some ((), T') ∧ (∀ z, z < n → T'.2.1 132 (103 + 400 * l + z) = T.2.1 139 z ∧ T'.2.1 132 (2903 + 400 * l + z) = T.2.1 140 z) ∧ (∀ z, (z < 103 + 400 * l ∨ 103 + 400 * l + n ≤ z) → (z < 2903 + 400 * l ∨ 2903 + 400 * l + n ≤ z) → T'.2.1 132 z = T1.2.1 132 z) ∧ Agr ([], [132], [], []) T T'
  | 0, k, fuel, T1, hk, hf, ha, h => by
    obtain ⟨fuel, rfl⟩ : ∃ z, fuel = z + 1 := ⟨fuel - 1, by omega⟩
    have e : k = n := by omega
    subst e
    rw [lfX11_lays_130_15, bfX11_lays_130_15, ha.1 130 18 (by decide), h18, if_pos ((iN_le (by omega) (by omega)).mpr (Nat.le_refl k))]
    exact ⟨T1, rfl, h, fun z _ _ => rfl, ha⟩
  | d + 1, k, fuel, T1, hk, hf, ha, h => by
    obtain ⟨fuel, rfl⟩ : ∃ z, fuel = z + 1 := ⟨fuel - 1, by omega⟩
    have e1 : (103 : Int32) + 400 * iN l + iN k = iN (103 + 400 * l + k) := by rw [show (400 : Int32) * iN l = iN (400 * l) from iN_mul 400 l, show (103 : Int32) + iN (400 * l) = iN (103 + 400 * l) from iN_add 103 _, iN_add]
    have e2 : (2903 : Int32) + 400 * iN l + iN k = iN (2903 + 400 * l + k) := by rw [show (400 : Int32) * iN l = iN (400 * l) from iN_mul 400 l, show (2903 : Int32) + iN (400 * l) = iN (2903 + 400 * l) from iN_add 2903 _, iN_add]
    have a139 := ha.2.1 139 (by decide)
    have a140 := ha.2.1 140 (by decide)
    have aT : Agr ([], [132], [], []) T (T1.1, u2 (u2 T1.2.1 132 (103 + 400 * l + k) (T.2.1 139 k)) 132 (2903 + 400 * l + k) (T.2.1 140 k), T1.2.2.1, T1.2.2.2) := Agr.i (S1 := (T1.1, u2 T1.2.1 132 (103 + 400 * l + k) (T.2.1 139 k), T1.2.2.1, T1.2.2.2)) (Agr.i ha 132 _ _ (by decide)) 132 _ _ (by decide)
    obtain ⟨T', r1, r2, r3, r4⟩ := lays_l x T l n hl hn h18 d (k + 1) fuel (T1.1, u2 (u2 T1.2.1 132 (103 + 400 * l + k) (T.2.1 139 k)) 132 (2903 + 400 * l + k) (T.2.1 140 k), T1.2.2.1, T1.2.2.2) (by omega) (by omega) aT (fun z hz => by
      dsimp only
      by_cases e : z = k
      · subst e
        rw [u2_k _ _ _ (by omega), u2_s, u2_s]
        exact ⟨rfl, rfl⟩
      · rw [u2_k _ _ _ (by omega), u2_k _ _ _ (by omega), u2_k _ _ _ (by omega), u2_k _ _ _ (by omega)]
        exact h z (by omega))
    refine ⟨T', ?_, r2, fun z z1 z2 => ?_, r4⟩
    · rw [lfX11_lays_130_15, bfX11_lays_130_15, ha.1 130 18 (by decide), h18, if_neg (fun z => by have := (iN_le (by omega) (by omega)).mp z; omega), inb_t (show k < 401 by omega) (by omega), cond_true, e1, e2, inb_t (show 103 + 400 * l + k < 5703 by omega) (by omega), cond_true, cond_true, inb_t (show 2903 + 400 * l + k < 5703 by omega) (by omega), cond_true, iN_nat (by omega), iN_nat (by omega), iN_nat (by omega), a139, a140, iN_succ]
      exact r1
    · rw [r3 z z1 z2]
      dsimp only
      rw [u2_k _ _ _ (by omega), u2_k _ _ _ (by omega)]
theorem laysz_eq (x : XT) (T : ST) (l n : Nat) (hl : l ≤ 6) (hn : n ≤ 400) (h18 : T.1 130 18 = iN n) : ∃ T', gfX11_lays_130 x T (iN l) = some ((), T') ∧ T'.2.1 132 (96 + l) = iN n ∧ (∀ z, z < n → T'.2.1 132 (103 + 400 * l + z) = T.2.1 139 z ∧ T'.2.1 132 (2903 + 400 * l + z) = T.2.1 140 z) ∧ (∀ z, z ≠ 96 + l → (z < 103 + 400 * l ∨ 103 + 400 * l + n ≤ z) → (z < 2903 + 400 * l ∨ 2903 + 400 * l + n ≤ z) → T'.2.1 132 z = T.2.1 132 z) ∧ Agr ([], [132], [], []) T T' := by
  have aT : Agr ([], [132], [], []) T (T.1, u2 T.2.1 132 (96 + l) (iN n), T.2.2.1, T.2.2.2) := Agr.i Agr.rf 132 _ _ (by decide)
  obtain ⟨T', r1, r2, r3, r4⟩ := lays_l x T l n hl hn h18 n 0 20000 (T.1, u2 T.2.1 132 (96 + l) (iN n), T.2.2.1, T.2.2.2) (by omega) (by omega) aT (fun z hz => by omega)
  rw [show iN 0 = 0 from rfl] at r1
  refine ⟨T', ?_, ?_, r2, fun z z0 z1 z2 => ?_, r4⟩
  · unfold gfX11_lays_130 bfX11_lays_130_0
    rw [show (96 : Int32) + iN l = iN (96 + l) from iN_add 96 l, inb_t (show 96 + l < 5703 by omega) (by omega), cond_true, iN_nat (by omega), h18]
    exact r1
  · rw [r3 _ (by omega) (by omega)]
    exact u2_s T.2.1 132 _ _
  · rw [r3 z z1 z2]
    exact u2_k T.2.1 132 _ z0
theorem KA.ff {S : ST} {o : Nat} {f f' : Nat → Int32} (h : KA S o f) (hf : ∀ z, z < 96 → f' z = f z) : KA S o f' := by
  obtain ⟨k0, k6, k11, k16, k18, kg, kp, ks, t0, t1, t2⟩ := h
  refine ⟨k0.trans (hf _ (by omega)).symm, k6.trans (hf _ (by omega)).symm, k11.trans (hf _ (by omega)).symm, k16.trans (hf _ (by omega)).symm, k18.trans (hf _ (by omega)).symm, fun g hg => ?_, fun p hp => ?_, fun q hq => ?_, t0.trans (hf _ (by omega)).symm, t1.trans (hf _ (by omega)).symm, t2.trans (hf _ (by omega)).symm⟩
  · rw [hf _ (by omega), hf _ (by omega), hf _ (by omega), hf _ (by omega), hf _ (by omega)]; exact kg g hg
  · rw [hf _ (by omega), hf _ (by omega), hf _ (by omega), hf _ (by omega)]; exact kp p hp
  · rw [hf _ (by omega), hf _ (by omega), hf _ (by omega)]; exact ks q hq
theorem WF.ff {f f' : Nat → Int32} (h : WF f) (hf : ∀ z, z < 96 → f' z = f z) : WF f' := by
  obtain ⟨w0, w1, w2, w3, w4, w5, w6, w7, w8, w9, w10⟩ := h
  unfold WF
  rw [hf 91 (by omega), hf 92 (by omega), hf 93 (by omega), hf 94 (by omega), hf 95 (by omega), hf 89 (by omega), hf 90 (by omega)]
  refine ⟨w0.cg (fun i hi => hf i (by omega)), w1, w2, w3, w4, w5, fun g hg => ?_, fun p hp => ?_, fun s hs => ?_, w9, w10⟩
  · rw [hf _ (by omega), hf _ (by omega), hf _ (by omega)]; exact w6 g hg
  · rw [hf _ (by omega)]; exact w7 p hp
  · rw [hf _ (by omega), hf _ (by omega), hf _ (by omega)]; exact w8 s hs
theorem WF.more {f : Nat → Int32} (h : WF f) (L : Nat) (hL : L < 6) (e : f 94 = iN L) : WF (u1 f 94 (iN (L + 1))) := by
  have fo : ∀ k, k ≠ 94 → u1 f 94 (iN (L + 1)) k = f k := fun k hk => u1_n _ _ hk
  obtain ⟨w0, w1, w2, w3, w4, w5, w6, w7, w8, w9, w10⟩ := h
  unfold WF
  rw [fo 91 (by omega), fo 92 (by omega), fo 93 (by omega), fo 95 (by omega), u1_s, fo 89 (by omega), fo 90 (by omega)]
  refine ⟨w0.cg (fun i hi => fo i (by omega)), w1, w2, w3, inb_t (by omega) (by omega), ?_, fun g hg => ?_, fun p hp => ?_, fun s hs => ?_, w9, w10⟩
  · rcases w5 with z | ⟨l, L', z1, z2, z3, z4⟩
    · exact Or.inl z
    · have : L = L' := (iN_eq (by omega) (by omega)).mp (e.symm.trans z2)
      exact Or.inr ⟨l, L + 1, z1, rfl, by omega, by omega⟩
  · rw [fo _ (by omega), fo _ (by omega), fo _ (by omega)]; exact w6 g hg
  · rw [fo _ (by omega)]; exact w7 p hp
  · rw [fo _ (by omega), fo _ (by omega), fo _ (by omega)]; exact w8 s hs
/-- a text was made, with five cells -/
def NewT (x x' : XT) (S S' : ST) (C Z : Nat) : Prop := x'.1 = x.1 + 5 ∧ Xe x x' ∧ XW x' ∧ tx x' (158 + x.1) = true ∧ mL x' (158 + x.1 + 1) = C ∧ mL x' (158 + x.1 + 3) = 4 * C ∧ mL x' (158 + x.1 + 4) = Z ∧ Se (158 + x.1) S S' ∧ S'.1 (158 + x.1) 0 = iN C ∧ S'.1 (158 + x.1) 1 = iN Z ∧ (∀ z, z < C → S'.2.1 (158 + x.1 + 1) z = S.2.1 26 z) ∧ (∀ z, z < 4 * C → S'.2.1 (158 + x.1 + 3) z = S.2.1 28 z) ∧ (∀ z, z < Z → S'.2.1 (158 + x.1 + 4) z = S.2.1 29 z)
theorem law_pure (x : XT) (S T : ST) (h : Rel x S T) (hx : XW x) :
    (¬ S.1 1 16 < 6 ∧ ∃ S' T' S2, gfX8_clear_18 x S = some ((), S') ∧ gfX11_law_130 x T = some (-5, T') ∧ gfX10_told_0 x S' (-5) = some (-5, S2) ∧ Rel x S2 T') ∨
    (S.1 1 16 < 6 ∧ ∃ S4 T' S5, gfX10_readTape_0 x S 0 = some (0, S4) ∧ gfX11_law_130 x T = some (-6, T') ∧ gfX10_told_0 x S4 (-6) = some (-6, S5) ∧ Rel x S5 T') ∨
    (S.1 1 16 < 6 ∧ ∃ S4 T' C Z L, gfX10_readTape_0 x S 0 = some (1, S4) ∧ C ≤ 12 ∧ Z ≤ 400 ∧ S4.1 25 0 = iN C ∧ S4.1 25 1 = iN Z ∧ gfX11_law_130 x T = some (iN L, T') ∧ ∀ x' S5, NewT x x' S4 S5 C Z → ∃ S6 S7, gfX7_addLaw_1_T x' S5 (158 + x.1) = some (iN L, S6) ∧ gfX10_told_0 x' S6 (iN L) = some (iN L, S7) ∧ Rel x' S7 T' ∧ XW x') := by
  obtain ⟨ka, kw, kt⟩ := h.1
  obtain ⟨L, hL, eL⟩ := inb_ex kw.2.2.2.2.1
  have l1 : S.1 1 16 = iN L := ka.2.2.2.1.trans eL
  by_cases c6 : L = 6
  · subst c6
    refine Or.inl ⟨by rw [l1]; decide, (u2 S.1 18 1 0, S.2.1, S.2.2.1, S.2.2.2), gR (u2 T.1 130 13 0, T.2.1, T.2.2.1, T.2.2.2) 5, tR (u2 S.1 18 1 0, S.2.1, S.2.2.1, S.2.2.2) 5, rfl, ?_, told_r x _ 5 (by omega) (by omega), ?_⟩
    · unfold gfX11_law_130 bfX11_law_130_0
      rw [eL, if_neg (show ¬ ¬ iN 6 = 6 from fun z => z rfl), show (-5 : Int32) = -iN 5 from rfl, refuses_eq x _ 5 (by omega) (by omega)]
    · have aS : Agr ([(18, 1)], [], [], []) S (u2 S.1 18 1 0, S.2.1, S.2.2.1, S.2.2.2) := Agr.f Agr.rf 18 1 0 (by decide)
      have aT : Agr ([(130, 13)], [], [], []) T (u2 T.1 130 13 0, T.2.1, T.2.2.1, T.2.2.2) := Agr.f Agr.rf 130 13 0 (by decide)
      refine (h.rd (aS.sm (by decide)) (aT.sm (by decide)) (u2_s S.1 18 1 0) (u2_s T.1 130 13 0) ?_).ref 5 (by omega)
      rw [aS.1 0 13 (by decide), aT.1 130 14 (by decide)]
      exact h.2.2.2.2.1.1
  · have lt6 : S.1 1 16 < 6 := by rw [l1]; exact (iN_lt (n := 6) (by omega) (by omega)).mpr (by omega)
    have n6 : ¬ T.2.1 132 94 = 6 := fun z => c6 ((iN_eq (n := 6) (by omega) (by omega)).mp (eL.symm.trans z))
    rcases read_law x S T h.2.2.1 h.2.2.2.2.2.2.2 with ⟨S4, T4, k, q1, q2, q3, q4, q5⟩ | ⟨S4, T4, n, C, Z, q1, q2, q3, q4, q5, q6, q7, q8, q9, q10, q11, q12, q13, q14⟩
    · have e1 := readTape_of x S S4 0 0 (Or.inl rfl) q1
      have h4 := h.taped e1 q2 q5 (q3.trans q4.symm)
      refine Or.inr (Or.inl ⟨lt6, rtS S4, gR T4 6, tR (rtS S4) 6, e1, ?_, told_r x _ 6 (by omega) (by omega), h4.ref 6 (by omega)⟩)
      unfold gfX11_law_130 bfX11_law_130_0
      rw [if_pos n6, q2]
      dsimp only
      rw [if_neg (show ¬ ¬ (0 : Int32) = 0 from fun z => z rfl), show (-6 : Int32) = -iN 6 from rfl, refuses_eq x _ 6 (by omega) (by omega)]
    · have e1 := readTape_of x S S4 0 1 (Or.inr rfl) q1
      have h4 := h.taped e1 q2 q5 (q3.trans q4.symm)
      have f4 := frX11_readsAs_130 x T _ _ _ q2
      have e132 : T4.2.1 132 = T.2.1 132 := f4.2.1 132 (by decide)
      have eL4 : T4.2.1 132 94 = iN L := by rw [e132]; exact eL
      obtain ⟨T5, r1, r2, r3, r4, r5⟩ := laysz_eq x T4 L n (by omega) q6 q7
      have e94 : T5.2.1 132 94 = iN L := by rw [r4 94 (by omega) (by omega) (by omega)]; exact eL4
      refine Or.inr (Or.inr ⟨lt6, rtS S4, gG (T5.1, u2 T5.2.1 132 94 (iN (L + 1)), T5.2.2.1, T5.2.2.2), C, Z, L, e1, q10, q11, (rtS_o S4 25 0 (by decide) (by decide)).trans q12, (rtS_o S4 25 1 (by decide) (by decide)).trans q13, ?_, fun x' S5 hN => ?_⟩)
      · unfold gfX11_law_130 bfX11_law_130_0
        rw [if_pos n6, q2]
        dsimp only
        rw [if_pos (show ¬ (1 : Int32) = 0 by decide), eL4, r1]
        dsimp only
        rw [e94, iN_succ, good_eq, show iN (L + 1) - 1 = iN L from iN_sub (m := L + 1) (n := 1) (by omega)]
      · obtain ⟨n1, n2, n3, n4, n5, n6', n7, n8, n9, n10, n11, n12, n13⟩ := hN
        have h5 := h4.ext hx n2 n8
        have s16 : S5.1 1 16 = iN L := by
          rw [(n8 1 (by omega)).1, rtS_o S4 1 16 (by decide) (by decide), (frX4_read_24_18 x S _ _ _ q1).1 1 16 (by decide)]; exact l1
        refine ⟨(u2 S5.1 1 16 (iN (L + 1)), S5.2.1, S5.2.2.1, u2 S5.2.2.2 15 L (some (158 + x.1))), _, ?_, told_g x' _ (iN L) (iN_nn (by omega)), ?_, n3⟩
        · unfold gfX7_addLaw_1_T bfX7_addLaw_1_T_0
          rw [n4, cond_true, s16, if_pos (show iN L < 6 from (iN_lt (n := 6) (by omega) (by omega)).mpr (by omega)), inb_t (show L < 6 by omega) (by omega), cond_true, iN_nat (by omega), iN_succ]
        · refine Rel.good ?_
          have aS : Agr ([(1, 16)], [], [], [15]) S5 (u2 S5.1 1 16 (iN (L + 1)), S5.2.1, S5.2.2.1, u2 S5.2.2.2 15 L (some (158 + x.1))) := Agr.q (S1 := (u2 S5.1 1 16 (iN (L + 1)), S5.2.1, S5.2.2.1, S5.2.2.2)) (Agr.f Agr.rf 1 16 _ (by decide)) 15 L _ (by decide)
          have aT : Agr ([], [132], [], []) T4 (T5.1, u2 T5.2.1 132 94 (iN (L + 1)), T5.2.2.1, T5.2.2.2) := Agr.i r5 132 94 _ (by decide)
          have row : (u2 T5.2.1 132 94 (iN (L + 1))) 132 = u1 (T5.2.1 132) 94 (iN (L + 1)) := u2_row _ _ _ _
          have lo : ∀ z, z < 96 → u1 (T5.2.1 132) 94 (iN (L + 1)) z = u1 (T4.2.1 132) 94 (iN (L + 1)) z := by
            intro z hz
            by_cases e : z = 94
            · rw [e, u1_s, u1_s]
            · rw [u1_n _ _ e, u1_n _ _ e, r4 z (by omega) (by omega) (by omega)]
          have s158 := (aS.sm (L := ([], [], [], [])) (by decide)).2.2.2
          refine h5.mk2 (aS.sm (by decide)) (aT.sm (by decide)) ?_ (h5.2.2.2.2.2.1.cg (aS.1 33 0 (by decide)) (aS.2.1 34 (by decide)) (aT.1 130 31 (by decide)) (aT.2.1 143 (by decide)) ?_ ?_ ?_)
          · show RK x' _ 1 ((u2 T5.2.1 132 94 (iN (L + 1))) 132)
            rw [row]
            obtain ⟨ka5, kw5, kt5⟩ := h5.1
            refine ⟨((ka5.f16 (iN (L + 1))).ff lo), (kw5.more L (by omega) eL4).ff lo, ?_, ?_⟩
            · intro z hz
              show qk x' (u2 S5.2.2.2 15 L (some (158 + x.1)) 15 z) = true
              by_cases e : z = L
              · rw [e, u2_s]
                show Nat.beq (mK x' (158 + x.1)) 9 = true
                rw [(tx_ok n4).1]
                rfl
              · rw [u2_k _ _ _ e]; exact kt5.1 z hz
            · intro z L' z1 z2 z3
              rw [u1_s] at z1
              have eL' : L + 1 = L' := (iN_eq (by omega) (by omega)).mp z1
              by_cases e : z = L
              · subst e
                obtain ⟨P, J, V, dS, dT, p0, pc⟩ := q14
                refine ⟨158 + x.1, n, C, V, dS, dT, u2_s S5.2.2.2 15 z _, by rw [u1_n _ _ (by omega)]; exact r2, n4, by omega, q6, q9, q10, Z, q11, n5, n6', n7, ?_, ?_, P, J, p0, fun c hc => ?_⟩
                · rw [(s158 _ (by omega)).1]; exact n9
                · rw [(s158 _ (by omega)).1]; exact n10
                · obtain ⟨w1, w2, w3, w4, w5⟩ := pc c hc
                  have hPJ : P c < J c := by
                    obtain ⟨j1, a0, a1, a2, m, k1, k2, hv2, t1, t2, b0, b1, b2, b3, haZ, ha12, hsum, htest⟩ := w3
                    have r1 : P c < j1 := by
                      rcases hsum with ⟨-, e1, -⟩ | ⟨-, -, hg⟩
                      · omega
                      · have := hg.lt.1; omega
                    rcases htest with ⟨e1, -, -⟩ | ⟨-, -, hg⟩
                    · omega
                    · have := hg.lt.1; omega
                  have cdv : ∀ y, y < n → u1 (T5.2.1 132) 94 (iN (z + 1)) (103 + 400 * z + y) = T4.2.1 139 y ∧ u1 (T5.2.1 132) 94 (iN (z + 1)) (2903 + 400 * z + y) = T4.2.1 140 y := by
                    intro y hy
                    rw [u1_n _ _ (by omega), u1_n _ _ (by omega)]
                    exact r3 y hy
                  refine ⟨w1, w2, ?_, fun y => ⟨(w4 y).1, ((cdv _ (w4 y).1).1).trans (w4 y).2⟩, w5⟩
                  rw [(s158 _ (by omega)).2, (s158 _ (by omega)).2, (s158 _ (by omega)).2]
                  exact w3.cg (fun y hy => cdv y (by omega)) (cdv _ (by omega)).1 (fun y hy => (n13 y hy).trans rfl) (n11 c hc) (fun r hr => n12 _ (by omega))
              · obtain ⟨t, N, C', V, dS, dT, w1, w2, w3⟩ := kt5.2 z L eL4 (by omega) (by omega)
                have hN4 : N ≤ 400 := w3.2.2.1
                refine ⟨t, N, C', V, dS, dT, ?_, ?_, ?_⟩
                · show u2 S5.2.2.2 15 L (some (158 + x.1)) 15 z = some t
                  rw [u2_k _ _ _ e]; exact w1
                · rw [u1_n _ _ (by omega), r4 _ (by omega) (by omega) (by omega)]; exact w2
                · refine w3.cg s158 (fun y hy => ?_)
                  rw [u1_n _ _ (by omega), u1_n _ _ (by omega), r4 _ (by omega) (by omega) (by omega), r4 _ (by omega) (by omega) (by omega)]
                  exact ⟨rfl, rfl⟩
          · intro z hz
            show (u2 T5.2.1 132 94 (iN (L + 1))) 132 z = _
            rw [row, u1_n _ _ (by omega), r4 z (by omega) (by omega) (by omega)]
          · show (u2 T5.2.1 132 94 (iN (L + 1))) 132 91 = _
            rw [row, u1_n _ _ (by omega), r4 91 (by omega) (by omega) (by omega)]
          · show (u2 T5.2.1 132 94 (iN (L + 1))) 132 92 = _
            rw [row, u1_n _ _ (by omega), r4 92 (by omega) (by omega) (by omega)]
end LAWC
