section STEPS
/-- a call's answer: good, or REFUSED by one of these -/
def Ans (r : Int32) : Prop := ¬ r < 0 ∨ ∃ k, 1 ≤ k ∧ k ≤ 6 ∧ r = -iN k
def CallA (x : XT) (a b : Option (Int32 × ST)) : Prop := ∃ r S' T', a = some (r, S') ∧ b = some (r, T') ∧ Rel x S' T' ∧ Ans r
theorem goodOr_g (x : XT) (T : ST) (r : Int32) (h : ¬ r < 0) : gfX11_goodOr_130 x T r = some (r, gG T) := by
  unfold gfX11_goodOr_130 bfX11_goodOr_130_0 bfX11_goodOr_130_17
  rw [if_pos (Int32.not_lt.mp h), good_eq]
theorem goodOr_r (x : XT) (T : ST) (k : Nat) (h1 : 1 ≤ k) (h2 : k ≤ 6) : gfX11_goodOr_130 x T (-iN k) = some (-iN k, gR T k) := by
  unfold gfX11_goodOr_130 bfX11_goodOr_130_0 bfX11_goodOr_130_17
  rw [if_neg (Int32.not_le.mpr (iN_ref k h1 h2)), refuses_eq x T k h1 h2]
theorem told_end (x : XT) (S T S' T' : ST) (r : Int32) : Rel x S' T' → Ans r → Call x S T (match gfX10_told_0 x S' r with
      | none => none
      | some (r7, S8) => some (r7, S8)) (match gfX11_goodOr_130 x T' r with
      | none => none
      | some (r7, S8) => some (r7, S8)) := by
  intro hR hA
  rcases hA with hA | ⟨k, k1, k2, rfl⟩
  · rw [told_g x S' r hA, goodOr_g x T' r hA]
    exact ⟨_, _, _, rfl, rfl, hR.good⟩
  · rw [told_r x S' k k1 k2, goodOr_r x T' k k1 k2]
    exact ⟨_, _, _, rfl, rfl, hR.ref k (by omega)⟩
theorem CallA.ref {x : XT} {S T : ST} (h : Rel x S T) (k : Nat) (h1 : 1 ≤ k) (h2 : k ≤ 6) : CallA x (some (-iN k, S)) (some (-iN k, T)) := ⟨_, _, _, rfl, rfl, h, Or.inr ⟨k, h1, h2, rfl⟩⟩
/-- what both sides have kept -/
theorem Rel.push {x : XT} {S T S2 T2 : ST} (h : Rel x S T) {n m : Nat} {u' v' : Nat → Int32} (en : S.1 33 0 = iN n) (hn : n ≤ 16) (hm : m ≤ 15) (m1 : n < 16 → m = n) (m2 : n = 16 → m = 15) (hS : Sm lC2 S S2) (hT : Sm lR2 T T2) (c1 : S2.1 33 0 = iN (m + 1)) (c2 : S2.2.1 34 = u') (c3 : T2.1 130 31 = iN (m + 1)) (c4 : T2.2.1 143 = v')
    (hu : ∀ k i, k < m → i < 5 → u' (5 * k + i) = S.2.1 34 (5 * (k + (n - m)) + i)) (hv : ∀ k i, k < m → i < 37 → v' (37 * k + i) = T.2.1 143 (37 * (k + (n - m)) + i)) (hv2 : ∀ i, i < 36 → v' (37 * m + i) = T.2.1 132 i)
    (hK : KA S2 1 (T2.2.1 132)) (hM : MW (T2.2.1 132)) (hf : ∀ k, 36 ≤ k → T2.2.1 132 k = T.2.1 132 k) (hQ : S2.2.2.2 15 = S.2.2.2 15)
    (hs : ∀ G P, T.2.1 132 91 = iN G → G ≤ 10 → T.2.1 132 92 = iN P → P ≤ 5 → UStep (fun i => u' (5 * m + i)) (v' (37 * m + 36)) G P (T.2.1 132) (T2.2.1 132)) : Rel x S2 T2 := by
  obtain ⟨ka, kw, kt⟩ := h.1
  obtain ⟨n0, hn0, e1, e2, e3⟩ := h.2.2.2.2.2.1
  have : n0 = n := by
    have := e1.symm.trans en
    exact (iN_eq (by omega) (by omega)).mp this
  subst this
  refine h.mk2 hS hT ⟨hK, ?_, kt.cgf hQ hS.2.2.2 (hf 94 (by omega)) (fun k hk => hf k (by omega))⟩ ⟨m + 1, by omega, c1, c3, ?_⟩
  · obtain ⟨w0, w1, w2, w3, w4, w5, w6, w7, w8, w9, w10⟩ := kw
    unfold WF
    rw [hf 91 (by omega), hf 92 (by omega), hf 93 (by omega), hf 94 (by omega), hf 95 (by omega), hf 89 (by omega), hf 90 (by omega)]
    refine ⟨hM, w1, w2, w3, w4, w5, fun g hg => ?_, fun p hp => ?_, fun s hs => ?_, w9, w10⟩
    · rw [hf _ (by omega), hf _ (by omega), hf _ (by omega)]; exact w6 g hg
    · rw [hf _ (by omega)]; exact w7 p hp
    · rw [hf _ (by omega), hf _ (by omega), hf _ (by omega)]; exact w8 s hs
  · rw [c2, c4]
    exact e3.push (by omega) (by omega) kw.1 hu hv hv2 (hf 91 (by omega)) (hf 92 (by omega)) hs
/-- both keep, then one place is changed -/
theorem keep2 (x : XT) (S T : ST) (h : Rel x S T) (w a b c d : Int32) (rw_ : Int32) : ∃ n m u' v', S.1 33 0 = iN n ∧ n ≤ 16 ∧ m ≤ 15 ∧ (n < 16 → m = n) ∧ (n = 16 → m = 15) ∧ gfX1_keep_33 x S w a b c d = some ((), (u2 S.1 33 0 (iN (m + 1)), u1 S.2.1 34 u', S.2.2.1, S.2.2.2)) ∧ gfX11_keeps_130 x T rw_ = some ((), (u2 T.1 130 31 (iN (m + 1)), u1 T.2.1 143 v', T.2.2.1, T.2.2.2)) ∧ (∀ k i, k < m → i < 5 → u' (5 * k + i) = S.2.1 34 (5 * (k + (n - m)) + i)) ∧ (∀ k i, k < m → i < 37 → v' (37 * k + i) = T.2.1 143 (37 * (k + (n - m)) + i)) ∧ (∀ i, i < 36 → v' (37 * m + i) = T.2.1 132 i) ∧ u' (5 * m) = w ∧ u' (5 * m + 1) = a ∧ u' (5 * m + 2) = b ∧ u' (5 * m + 3) = c ∧ u' (5 * m + 4) = d ∧ v' (37 * m + 36) = rw_ := by
  obtain ⟨n, hn, e1, e2, -⟩ := h.2.2.2.2.2.1
  obtain ⟨u', m, q1, q2, q3, q4, q5, q6, q7, q8, q9, q10⟩ := keepC x S n hn e1 w a b c d
  obtain ⟨v', m', r1, r2, r3, r4, r5, r6, r7⟩ := keepR x T n hn e2 rw_
  have : m' = m := by
    by_cases hh : n < 16
    · rw [q2 hh, r2 hh]
    · rw [q3 (by omega), r3 (by omega)]
  subst this
  exact ⟨n, m', u', v', e1, hn, q1, q2, q3, q4, r4, q5, r5, r6, q6, q7, q8, q9, q10, r7⟩
theorem Agr.fa {W : WS} {S S1 : ST} (h : Agr W S S1) (a k : Nat) (v : Int32) (b : Nat) (g : Nat → Int32) (hm : (a, k) ∈ W.1) (hb : b ∈ W.2.1) : Agr W S (u2 S1.1 a k v, u1 S1.2.1 b g, S1.2.2.1, S1.2.2.2) := Agr.ic (Agr.f h a k v hm) b g hb
theorem s_set (x : XT) (S T : ST) (h : Rel x S T) (a w : Int32) : CallA x (gfX1_changeArm_33 x S a w) (gfX11_setsKept_130 x T a w) := by
  obtain ⟨G, hG, g1, g2⟩ := h.gates
  unfold gfX1_changeArm_33 bfX1_changeArm_33_0 gfX11_setsKept_130 bfX11_setsKept_130_0
  rw [show (10 : Int32) = iN 10 from rfl, within_eq x S w 10 (by omega), isArm_eq, neg_1, neg_2, neg_3]
  dsimp only
  cases hw : inb w 10 with
  | false => exact CallA.ref h 1 (by omega) (by omega)
  | true =>
    have bt : ¬ bz true = 0 := by decide
    rw [if_pos bt, if_pos bt, hasGate_eq1 x S a G (by omega) g1, isGate_eq x T a G (by omega) g2]
    dsimp only
    cases ha : inb a G with
    | false => exact CallA.ref h 2 (by omega) (by omega)
    | true =>
      obtain ⟨g, hg, rfl⟩ := inb_ex ha
      have k4 := (h.1.1.2.2.2.2.2.1 g (by omega)).2.2.2.1
      have k4 : S.2.1 5 g = T.2.1 132 (15 + g) := k4
      have e15 : (15 : Int32) + iN g = iN (15 + g) := iN_add 15 g
      rw [if_pos bt, if_pos bt, inb_t (show g < 10 by omega) (by omega), cond_true, iN_nat (by omega), e15, inb_t (show 15 + g < 5703 by omega) (by omega), cond_true, iN_nat (by omega), k4]
      by_cases hh : T.2.1 132 (15 + g) = w
      · rw [if_neg (fun q => q hh), if_neg (fun q => q hh)]
        exact CallA.ref h 3 (by omega) (by omega)
      · rw [if_pos hh, if_pos hh]
        obtain ⟨n, m, u', v', en, hn, hm, m1, m2, kc, kr, hu, hv, hv2, y0, y1, y2, y3, y4, y5⟩ := keep2 x S T h 265 (iN g) (T.2.1 132 (15 + g)) 0 0 2
        rw [kc, kr]
        simp only [cond_true]
        obtain ⟨z, hz, ez⟩ := inb_ex (h.1.2.1.1.2.1 g (by omega)).1
        refine ⟨_, _, _, rfl, rfl, ?_, Or.inl (by rw [ez]; exact iN_nn (by omega))⟩
        have aS : Agr ([(33, 0)], [34, 5], [], []) S (u2 S.1 33 0 (iN (m + 1)), u2 (u1 S.2.1 34 u') 5 g w, S.2.2.1, S.2.2.2) := Agr.i (Agr.fa Agr.rf 33 0 _ 34 u' (by decide) (by decide)) 5 g w (by decide)
        have aT : Agr ([(130, 31)], [143, 132], [], []) T (u2 T.1 130 31 (iN (m + 1)), u2 (u1 T.2.1 143 v') 132 (15 + g) w, T.2.2.1, T.2.2.2) := Agr.i (Agr.fa Agr.rf 130 31 _ 143 v' (by decide) (by decide)) 132 (15 + g) w (by decide)
        have r132 : (u2 (u1 T.2.1 143 v') 132 (15 + g) w) 132 = u1 (T.2.1 132) (15 + g) w := by rw [u2_row, u1_n _ _ (by decide)]
        have hK : KA (u2 S.1 33 0 (iN (m + 1)), u2 (u1 S.2.1 34 u') 5 g w, S.2.2.1, S.2.2.2) 1 (u1 (T.2.1 132) (15 + g) w) := by
          have a0 : Agr ([(33, 0)], [34], [], []) S (u2 S.1 33 0 (iN (m + 1)), u1 S.2.1 34 u', S.2.2.1, S.2.2.2) := Agr.fa Agr.rf 33 0 _ 34 u' (by decide) (by decide)
          exact (h.1.1.cg (a0.sm (by decide))).a4 g (by omega) w
        refine h.push (u' := u') (v' := v') en hn hm m1 m2 (aS.sm (by decide)) (aT.sm (by decide)) (u2_s S.1 33 0 _) ?_ (u2_s T.1 130 31 _) ?_ hu hv hv2 ?_ ?_ ?_ rfl ?_
        · show u2 (u1 S.2.1 34 u') 5 g w 34 = u'
          rw [u2_ro _ _ _ (by decide), u1_s]
        · show u2 (u1 T.2.1 143 v') 132 (15 + g) w 143 = v'
          rw [u2_ro _ _ _ (by decide), u1_s]
        · show KA _ 1 (u2 (u1 T.2.1 143 v') 132 (15 + g) w 132)
          rw [r132]; exact hK
        · show MW (u2 (u1 T.2.1 143 v') 132 (15 + g) w 132)
          rw [r132]
          exact h.1.2.1.1.put _ w (fun p hp => ⟨fun e => by omega, fun e => by omega, fun e => by omega⟩) (fun g' hg' => ⟨fun _ => hw, fun e => by omega⟩) (fun e => by omega)
        · intro k hk
          show u2 (u1 T.2.1 143 v') 132 (15 + g) w 132 k = _
          rw [r132]; exact u1_n _ _ (by omega)
        · intro G' P e91 hG' e92 hP
          show UStep _ _ G' P (T.2.1 132) (u2 (u1 T.2.1 143 v') 132 (15 + g) w 132)
          rw [r132]
          have : G' = G := (iN_eq (by omega) (by omega)).mp (e91.symm.trans g2)
          subst this
          exact Or.inr (Or.inr (Or.inl ⟨g, hg, y5, y0, y1, y2.symm, fun i hi hne => (u1_n _ _ hne).symm⟩))
theorem c_set (x : XT) (S T : ST) (h : Rel x S T) (a w : Int32) : Call x S T (gfX10_set_0 x S a w) (gfX11_set_130 x T a w) := by
  obtain ⟨r, S', T', e1, e2, hR, hA⟩ := s_set x S T h a w
  unfold gfX10_set_0 bfX10_set_0_0 gfX11_set_130 bfX11_set_130_0
  rw [e1, e2]
  exact told_end x S T S' T' r hR hA
theorem s_pass (x : XT) (S T : ST) (h : Rel x S T) : CallA x (gfX1_nextDay_33 x S) (gfX11_passesKept_130 x T) := by
  obtain ⟨dd, hd, ed⟩ := inb_ex h.1.2.1.1.2.2
  have k8 : S.2.1 14 0 = T.2.1 132 35 := h.1.1.2.2.2.2.2.2.2.2.1
  unfold gfX1_nextDay_33 bfX1_nextDay_33_0 gfX11_passesKept_130 bfX11_passesKept_130_0
  rw [k8, ed, neg_3]
  by_cases hh : dd = 999
  · subst hh
    rw [if_neg (show ¬ iN 999 < 999 by decide), if_neg (show ¬ ¬ iN 999 = 999 from fun q => q rfl)]
    exact CallA.ref h 3 (by omega) (by omega)
  · rw [if_pos (show iN dd < 999 from (iN_lt (n := 999) (by omega) (by omega)).mpr (by omega)), if_pos (show ¬ iN dd = 999 from fun q => hh ((iN_eq (n := 999) (by omega) (by omega)).mp q))]
    obtain ⟨n, m, u', v', en, hn, hm, m1, m2, kc, kr, hu, hv, hv2, y0, y1, y2, y3, y4, y5⟩ := keep2 x S T h 266 0 0 0 0 3
    rw [kc, kr]
    dsimp only
    have e1 : (u1 S.2.1 34 u') 14 0 = iN dd := by rw [u1_n _ _ (by decide), k8, ed]
    have e2 : (u1 T.2.1 143 v') 132 35 = iN dd := by rw [u1_n _ _ (by decide), ed]
    rw [e1, e2, iN_succ]
    refine ⟨_, _, _, rfl, rfl, ?_, Or.inl (iN_nn (by omega))⟩
    have aS : Agr ([(33, 0)], [34, 14], [], []) S (u2 S.1 33 0 (iN (m + 1)), u2 (u1 S.2.1 34 u') 14 0 (iN (dd + 1)), S.2.2.1, S.2.2.2) := Agr.i (Agr.fa Agr.rf 33 0 _ 34 u' (by decide) (by decide)) 14 0 _ (by decide)
    have aT : Agr ([(130, 31)], [143, 132], [], []) T (u2 T.1 130 31 (iN (m + 1)), u2 (u1 T.2.1 143 v') 132 35 (iN (dd + 1)), T.2.2.1, T.2.2.2) := Agr.i (Agr.fa Agr.rf 130 31 _ 143 v' (by decide) (by decide)) 132 35 _ (by decide)
    have r132 : (u2 (u1 T.2.1 143 v') 132 35 (iN (dd + 1))) 132 = u1 (T.2.1 132) 35 (iN (dd + 1)) := by rw [u2_row, u1_n _ _ (by decide)]
    have hK : KA (u2 S.1 33 0 (iN (m + 1)), u2 (u1 S.2.1 34 u') 14 0 (iN (dd + 1)), S.2.2.1, S.2.2.2) 1 (u1 (T.2.1 132) 35 (iN (dd + 1))) := by
      have a0 : Agr ([(33, 0)], [34], [], []) S (u2 S.1 33 0 (iN (m + 1)), u1 S.2.1 34 u', S.2.2.1, S.2.2.2) := Agr.fa Agr.rf 33 0 _ 34 u' (by decide) (by decide)
      exact (h.1.1.cg (a0.sm (by decide))).t0 (iN (dd + 1))
    refine h.push (u' := u') (v' := v') en hn hm m1 m2 (aS.sm (by decide)) (aT.sm (by decide)) (u2_s S.1 33 0 _) ?_ (u2_s T.1 130 31 _) ?_ hu hv hv2 ?_ ?_ ?_ rfl ?_
    · show u2 (u1 S.2.1 34 u') 14 0 (iN (dd + 1)) 34 = u'
      rw [u2_ro _ _ _ (by decide), u1_s]
    · show u2 (u1 T.2.1 143 v') 132 35 (iN (dd + 1)) 143 = v'
      rw [u2_ro _ _ _ (by decide), u1_s]
    · show KA _ 1 (u2 (u1 T.2.1 143 v') 132 35 (iN (dd + 1)) 132)
      rw [r132]; exact hK
    · show MW (u2 (u1 T.2.1 143 v') 132 35 (iN (dd + 1)) 132)
      rw [r132]
      exact h.1.2.1.1.put _ _ (fun p hp => ⟨fun e => by omega, fun e => by omega, fun e => by omega⟩) (fun g' hg' => ⟨fun e => by omega, fun e => by omega⟩) (fun _ => inb_t (by omega) (by omega))
    · intro k hk
      show u2 (u1 T.2.1 143 v') 132 35 (iN (dd + 1)) 132 k = _
      rw [r132]; exact u1_n _ _ (by omega)
    · intro G' P e91 hG' e92 hP
      show UStep _ _ G' P (T.2.1 132) (u2 (u1 T.2.1 143 v') 132 35 (iN (dd + 1)) 132)
      rw [r132]
      refine Or.inr (Or.inr (Or.inr ⟨y5, y0, ?_, fun i hi hne => (u1_n _ _ hne).symm⟩))
      rw [u1_s, ed]
      exact (iN_sub (m := dd + 1) (n := 1) (by omega)).symm
theorem c_pass (x : XT) (S T : ST) (h : Rel x S T) : Call x S T (gfX10_pass_0 x S) (gfX11_pass_130 x T) := by
  obtain ⟨r, S', T', e1, e2, hR, hA⟩ := s_pass x S T h
  unfold gfX10_pass_0 bfX10_pass_0_0 gfX11_pass_130 bfX11_pass_130_0
  rw [e1, e2]
  exact told_end x S T S' T' r hR hA
theorem s_latch (x : XT) (S T : ST) (h : Rel x S T) (a : Int32) : CallA x (gfX1_flip_33 x S a) (gfX11_latchesKept_130 x T a) := by
  obtain ⟨G, hG, g1, g2⟩ := h.gates
  unfold gfX1_flip_33 bfX1_flip_33_0 gfX11_latchesKept_130 bfX11_latchesKept_130_0
  rw [hasGate_eq1 x S a G (by omega) g1, isGate_eq x T a G (by omega) g2, neg_2]
  dsimp only
  cases ha : inb a G with
  | false => exact CallA.ref h 2 (by omega) (by omega)
  | true =>
    have bt : ¬ bz true = 0 := by decide
    obtain ⟨g, hg, rfl⟩ := inb_ex ha
    have k5 := (h.1.1.2.2.2.2.2.1 g (by omega)).2.2.2.2
    have k5 : S.2.1 6 g = T.2.1 132 (25 + g) := k5
    obtain ⟨z, hz, ez⟩ := inb_ex (h.1.2.1.1.2.1 g (by omega)).2
    have e25 : (25 : Int32) + iN g = iN (25 + g) := iN_add 25 g
    obtain ⟨n, m, u', v', en, hn, hm, m1, m2, kc, kr, hu, hv, hv2, y0, y1, y2, y3, y4, y5⟩ := keep2 x S T h 264 (iN g) 0 0 0 1
    rw [if_pos bt, if_pos bt, kc, kr]
    dsimp only
    have e1 : (u1 S.2.1 34 u') 6 g = iN z := by rw [u1_n _ _ (by decide), k5, ez]
    have e2 : (u1 T.2.1 143 v') 132 (25 + g) = iN z := by rw [u1_n _ _ (by decide), ez]
    rw [inb_t (show g < 10 by omega) (by omega), e25, inb_t (show 25 + g < 5703 by omega) (by omega), iN_nat (by omega), iN_nat (by omega)]
    simp only [e1, e2]
    unfold bfX1_flip_33_50 bfX1_flip_33_68
    rw [inb_t (show g < 10 by omega) (by omega), iN_nat (by omega)]
    simp only [cond_true, u2_s]
    have fin : ∀ w : Int32, w = 1 - iN z → (w = 0 ∨ w = 1) → Rel x (u2 S.1 33 0 (iN (m + 1)), u2 (u1 S.2.1 34 u') 6 g w, S.2.2.1, S.2.2.2) (u2 T.1 130 31 (iN (m + 1)), u2 (u1 T.2.1 143 v') 132 (25 + g) w, T.2.2.1, T.2.2.2) := by
      intro w hw hw2
      have aS : Agr ([(33, 0)], [34, 6], [], []) S (u2 S.1 33 0 (iN (m + 1)), u2 (u1 S.2.1 34 u') 6 g w, S.2.2.1, S.2.2.2) := Agr.i (Agr.fa Agr.rf 33 0 _ 34 u' (by decide) (by decide)) 6 g w (by decide)
      have aT : Agr ([(130, 31)], [143, 132], [], []) T (u2 T.1 130 31 (iN (m + 1)), u2 (u1 T.2.1 143 v') 132 (25 + g) w, T.2.2.1, T.2.2.2) := Agr.i (Agr.fa Agr.rf 130 31 _ 143 v' (by decide) (by decide)) 132 (25 + g) w (by decide)
      have r132 : (u2 (u1 T.2.1 143 v') 132 (25 + g) w) 132 = u1 (T.2.1 132) (25 + g) w := by rw [u2_row, u1_n _ _ (by decide)]
      have hK : KA (u2 S.1 33 0 (iN (m + 1)), u2 (u1 S.2.1 34 u') 6 g w, S.2.2.1, S.2.2.2) 1 (u1 (T.2.1 132) (25 + g) w) := by
        have a0 : Agr ([(33, 0)], [34], [], []) S (u2 S.1 33 0 (iN (m + 1)), u1 S.2.1 34 u', S.2.2.1, S.2.2.2) := Agr.fa Agr.rf 33 0 _ 34 u' (by decide) (by decide)
        exact (h.1.1.cg (a0.sm (by decide))).a5 g (by omega) w
      refine h.push (u' := u') (v' := v') en hn hm m1 m2 (aS.sm (by decide)) (aT.sm (by decide)) (u2_s S.1 33 0 _) ?_ (u2_s T.1 130 31 _) ?_ hu hv hv2 ?_ ?_ ?_ rfl ?_
      · show u2 (u1 S.2.1 34 u') 6 g w 34 = u'
        rw [u2_ro _ _ _ (by decide), u1_s]
      · show u2 (u1 T.2.1 143 v') 132 (25 + g) w 143 = v'
        rw [u2_ro _ _ _ (by decide), u1_s]
      · show KA _ 1 (u2 (u1 T.2.1 143 v') 132 (25 + g) w 132)
        rw [r132]; exact hK
      · show MW (u2 (u1 T.2.1 143 v') 132 (25 + g) w 132)
        rw [r132]
        exact h.1.2.1.1.put _ w (fun p hp => ⟨fun e => by omega, fun e => by omega, fun e => by omega⟩) (fun g' hg' => ⟨fun e => by omega, fun _ => by rcases hw2 with rfl | rfl <;> rfl⟩) (fun e => by omega)
      · intro k hk
        show u2 (u1 T.2.1 143 v') 132 (25 + g) w 132 k = _
        rw [r132]; exact u1_n _ _ (by omega)
      · intro G' P e91 hG' e92 hP
        show UStep _ _ G' P (T.2.1 132) (u2 (u1 T.2.1 143 v') 132 (25 + g) w 132)
        rw [r132]
        have : G' = G := (iN_eq (by omega) (by omega)).mp (e91.symm.trans g2)
        subst this
        refine Or.inr (Or.inl ⟨g, hg, y5, y0, y1, ?_, fun i hi hne => (u1_n _ _ hne).symm⟩)
        rw [u1_s, ez, hw]
        rcases (show z = 0 ∨ z = 1 by omega) with rfl | rfl <;> rfl
    rcases (show z = 0 ∨ z = 1 by omega) with rfl | rfl
    · rw [if_neg (show ¬ ¬ iN 0 = 0 from fun q => q rfl), if_neg (show ¬ vp_nar .boolean 1 = 0 by decide)]
      exact ⟨1, _, _, rfl, rfl, fin 1 rfl (Or.inr rfl), Or.inl (by decide)⟩
    · rw [if_pos (show ¬ iN 1 = 0 by decide), if_pos (show vp_nar .boolean 0 = 0 by decide)]
      exact ⟨0, _, _, rfl, rfl, fin 0 rfl (Or.inl rfl), Or.inl (by decide)⟩
theorem c_latch (x : XT) (S T : ST) (h : Rel x S T) (a : Int32) : Call x S T (gfX10_latch_0 x S a) (gfX11_latch_130 x T a) := by
  obtain ⟨r, S', T', e1, e2, hR, hA⟩ := s_latch x S T h a
  unfold gfX10_latch_0 bfX10_latch_0_0 gfX11_latch_130 bfX11_latch_130_0
  rw [e1, e2]
  exact told_end x S T S' T' r hR hA
end STEPS
