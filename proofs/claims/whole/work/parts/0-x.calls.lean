section CALLS3
theorem neg_1 : (-1 : Int32) = -iN 1 := rfl
theorem neg_2 : (-2 : Int32) = -iN 2 := rfl
theorem neg_3 : (-3 : Int32) = -iN 3 := rfl
theorem neg_5 : (-5 : Int32) = -iN 5 := rfl
theorem neg_6 : (-6 : Int32) = -iN 6 := rfl
theorem addSight_eq (x : XT) (S : ST) (a b c : Int32) (n : Nat) (hn : n ≤ 6) (h : S.1 1 11 = iN n) : gfX7_addSight_1 x S a b c = if (inb a 10 && inb b 20 && inb c 20) = true then (if n = 6 then some (-5, S) else some (iN (n + 1), (u2 S.1 1 11 (iN (n + 1)), u2 (u2 (u2 S.2.1 11 n a) 12 n b) 13 n c, S.2.2.1, S.2.2.2))) else some (-1, S) := by
  unfold gfX7_addSight_1 bfX7_addSight_1_0 bfX7_addSight_1_27
  rw [show (10 : Int32) = iN 10 from rfl, show (20 : Int32) = iN 20 from rfl]
  simp only [within_eq x S a 10 (by omega), within_eq x S b 20 (by omega), within_eq x S c 20 (by omega), bz_0]
  cases inb a 10
  · rfl
  cases inb b 20
  · rfl
  cases inb c 20
  · rfl
  simp only [h, Bool.and_self, if_true, Bool.true_eq_false, if_false, not_false_eq_true]
  by_cases h6 : n = 6
  · subst h6; rw [if_pos rfl]; rfl
  · rw [if_neg h6, if_pos (show iN n < 6 from (iN_lt (n := 6) (by omega) (by omega)).mpr (by omega)), inb_t (show n < 6 by omega) (by omega), cond_true, cond_true, cond_true, iN_nat (by omega), iN_succ]
theorem rseen_eq (x : XT) (T : ST) (a b c : Int32) (n : Nat) (hn : n ≤ 6) (h : T.2.1 132 93 = iN n) : gfX11_seen_130 x T a b c = if (inb a 10 && inb b 20 && inb c 20) = true then (if n = 6 then some (-iN 5, gR T 5) else some (iN (n + 1), gG (T.1, u1 T.2.1 132 (u1 (u1 (u1 (u1 (T.2.1 132) (71 + 3 * n) a) (72 + 3 * n) b) (73 + 3 * n) c) 93 (iN (n + 1))), T.2.2.1, T.2.2.2))) else some (-iN 1, gR T 1) := by
  unfold gfX11_seen_130 bfX11_seen_130_0 bfX11_seen_130_21
  rw [neg_1, neg_5]
  simp only [isArm_eq, isMany_eq, bz_0, refuses_eq x T 1 (by omega) (by omega), refuses_eq x T 5 (by omega) (by omega)]
  cases inb a 10
  · rfl
  cases inb b 20
  · rfl
  cases inb c 20
  · rfl
  simp only [h, Bool.and_self, if_true, Bool.true_eq_false, if_false, not_false_eq_true]
  by_cases h6 : n = 6
  · subst h6; rw [if_pos rfl]; rfl
  · rw [if_neg h6, if_pos (show ¬ iN n = 6 from fun e => h6 ((iN_eq (n := 6) (by omega) (by omega)).mp e))]
    have e0 : (71 : Int32) + 3 * iN n = iN (71 + 3 * n) := by
      rw [show (3 : Int32) * iN n = iN (3 * n) from iN_mul 3 n]; exact iN_add 71 _
    have e1 : iN (71 + 3 * n) + 1 = iN (72 + 3 * n) := by rw [iN_succ]; congr 1; omega
    have e2 : iN (71 + 3 * n) + 2 = iN (73 + 3 * n) := by rw [show (2 : Int32) = iN 2 from rfl, iN_add]; congr 1; omega
    have g : (u2 (u2 (u2 T.2.1 132 (71 + 3 * n) a) 132 (72 + 3 * n) b) 132 (73 + 3 * n) c) 132 93 = iN n := by
      rw [u2_k _ _ _ (by omega), u2_k _ _ _ (by omega), u2_k _ _ _ (by omega), h]
    rw [e0, e1, e2, inb_t (show 71 + 3 * n < 5703 by omega) (by omega), inb_t (show 72 + 3 * n < 5703 by omega) (by omega), inb_t (show 73 + 3 * n < 5703 by omega) (by omega), cond_true, cond_true, cond_true, iN_nat (by omega), iN_nat (by omega), iN_nat (by omega), g, iN_succ, good_eq]
    have g2 : u2 (u2 (u2 (u2 T.2.1 132 (71 + 3 * n) a) 132 (72 + 3 * n) b) 132 (73 + 3 * n) c) 132 93 (iN (n + 1)) = u1 T.2.1 132 (u1 (u1 (u1 (u1 (T.2.1 132) (71 + 3 * n) a) (72 + 3 * n) b) (73 + 3 * n) c) 93 (iN (n + 1))) := by
      funext q
      by_cases hq : q = 132
      · subst hq; rw [u2_row, u2_row, u2_row, u2_row, u1_s]
      · rw [u2_ro _ _ _ hq, u2_ro _ _ _ hq, u2_ro _ _ _ hq, u2_ro _ _ _ hq, u1_n _ _ hq]
    rw [g2]
theorem Agr.ai {W : WS} {S S1 : ST} (h : Agr W S S1) (a : Nat) (v : Nat → Int32) (hm : a ∈ W.2.1) : Agr W S (S1.1, u1 S1.2.1 a v, S1.2.2.1, S1.2.2.2) := Agr.ic h a v hm
theorem c_seen (x : XT) (S T : ST) (h : Rel x S T) (a b c : Int32) : Call x S T (gfX10_seen_0 x S a b c) (gfX11_seen_130 x T a b c) := by
  obtain ⟨ka, kw, kt⟩ := h.1
  obtain ⟨k0, k1, k2, k3, k4, k5, k6, k7, k8, k9, k10⟩ := ka
  obtain ⟨w0, w1, w2, w3, w4, w5, w6, w7, w8, w9, w10⟩ := kw
  obtain ⟨n, hn, e⟩ := inb_ex w3
  have e1 : S.1 1 11 = iN n := k2.trans e
  unfold gfX10_seen_0 bfX10_seen_0_0
  rw [addSight_eq x S a b c n (by omega) e1, rseen_eq x T a b c n (by omega) e]
  by_cases hb : (inb a 10 && inb b 20 && inb c 20) = true
  · rw [if_pos hb, if_pos hb]
    by_cases h6 : n = 6
    · rw [if_pos h6, if_pos h6, neg_5]
      dsimp only
      rw [told_r x S 5 (by omega) (by omega)]
      exact ⟨_, _, _, rfl, rfl, h.ref 5 (by omega)⟩
    · rw [if_neg h6, if_neg h6]
      dsimp only
      rw [told_g x _ _ (iN_nn (by omega))]
      refine ⟨_, _, _, rfl, rfl, Rel.good ?_⟩
      simp only [Bool.and_eq_true] at hb
      obtain ⟨⟨b1, b2⟩, b3⟩ := hb
      generalize hF : u1 (u1 (u1 (u1 (T.2.1 132) (71 + 3 * n) a) (72 + 3 * n) b) (73 + 3 * n) c) 93 (iN (n + 1)) = F
      have f93 : F 93 = iN (n + 1) := by rw [← hF, u1_s]
      have fo : ∀ k, k < 71 ∨ 89 ≤ k → k ≠ 93 → F k = T.2.1 132 k := by
        intro k hk hk2
        rw [← hF, u1_n _ _ hk2, u1_n _ _ (by omega), u1_n _ _ (by omega), u1_n _ _ (by omega)]
      have fs : ∀ s, s < 6 → F (71 + 3 * s) = (if s = n then a else T.2.1 132 (71 + 3 * s)) ∧ F (72 + 3 * s) = (if s = n then b else T.2.1 132 (72 + 3 * s)) ∧ F (73 + 3 * s) = (if s = n then c else T.2.1 132 (73 + 3 * s)) := by
        intro s hs
        by_cases q : s = n
        · subst q
          rw [if_pos rfl, if_pos rfl, if_pos rfl, ← hF]
          refine ⟨?_, ?_, ?_⟩
          · rw [u1_n _ _ (by omega), u1_n _ _ (by omega), u1_n _ _ (by omega), u1_s]
          · rw [u1_n _ _ (by omega), u1_n _ _ (by omega), u1_s]
          · rw [u1_n _ _ (by omega), u1_s]
        · rw [if_neg q, if_neg q, if_neg q, ← hF]
          refine ⟨?_, ?_, ?_⟩
          · rw [u1_n _ _ (by omega), u1_n _ _ (by omega), u1_n _ _ (by omega), u1_n _ _ (by omega)]
          · rw [u1_n _ _ (by omega), u1_n _ _ (by omega), u1_n _ _ (by omega), u1_n _ _ (by omega)]
          · rw [u1_n _ _ (by omega), u1_n _ _ (by omega), u1_n _ _ (by omega), u1_n _ _ (by omega)]
      have aS : Agr ([(1, 11)], [11, 12, 13], [], []) S (u2 S.1 1 11 (iN (n + 1)), u2 (u2 (u2 S.2.1 11 n a) 12 n b) 13 n c, S.2.2.1, S.2.2.2) := Agr.i (Agr.i (Agr.i (Agr.f Agr.rf 1 11 _ (by decide)) 11 n a (by decide)) 12 n b (by decide)) 13 n c (by decide)
      have aT : Agr ([], [132], [], []) T (T.1, u1 T.2.1 132 F, T.2.2.1, T.2.2.2) := Agr.ai Agr.rf 132 F (by decide)
      have s132 : u1 T.2.1 132 F 132 = F := u1_s _ _ _
      have A11 : ∀ s, (u2 (u2 (u2 S.2.1 11 n a) 12 n b) 13 n c) 11 s = if s = n then a else S.2.1 11 s := fun s => by
        rw [u2_ro _ _ _ (by decide), u2_ro _ _ _ (by decide), u2_row, u1_if]
      have A12 : ∀ s, (u2 (u2 (u2 S.2.1 11 n a) 12 n b) 13 n c) 12 s = if s = n then b else S.2.1 12 s := fun s => by
        rw [u2_ro _ _ _ (by decide), u2_row, u1_if, u2_ro _ _ _ (by decide)]
      have A13 : ∀ s, (u2 (u2 (u2 S.2.1 11 n a) 12 n b) 13 n c) 13 s = if s = n then c else S.2.1 13 s := fun s => by
        rw [u2_row, u1_if, u2_ro _ _ _ (by decide), u2_ro _ _ _ (by decide)]
      have Ao : ∀ q, q ≠ 11 → q ≠ 12 → q ≠ 13 → (u2 (u2 (u2 S.2.1 11 n a) 12 n b) 13 n c) q = S.2.1 q := fun q q1 q2 q3 => by
        rw [u2_ro _ _ _ q3, u2_ro _ _ _ q2, u2_ro _ _ _ q1]
      have n1 : ∀ k, k ≠ 11 → u2 S.1 1 11 (iN (n + 1)) 1 k = S.1 1 k := fun k hh => u2_k _ _ _ hh
      refine h.mk2 (aS.sm (by decide)) (aT.sm (by decide)) ?_ (h.2.2.2.2.2.1.cg (show u2 S.1 1 11 (iN (n + 1)) 33 0 = S.1 33 0 from u2_n _ _ _ _ (by decide)) (Ao 34 (by decide) (by decide) (by decide)) rfl (show u1 T.2.1 132 F 143 = T.2.1 143 from u1_n _ _ (by decide)) ?_ ?_ ?_)
      · show RK x _ 1 (u1 T.2.1 132 F 132)
        rw [s132]
        refine ⟨?_, ?_, ?_⟩
        · unfold KA
          dsimp only
          rw [n1 0 (by decide), n1 6 (by decide), u2_s, n1 16 (by decide), n1 18 (by decide), fo 91 (by omega) (by decide), fo 92 (by omega) (by decide), f93, fo 94 (by omega) (by decide), fo 95 (by omega) (by decide), fo 35 (by omega) (by decide), fo 89 (by omega) (by decide), fo 90 (by omega) (by decide), Ao (1 + 1) (by decide) (by decide) (by decide), Ao (1 + 2) (by decide) (by decide) (by decide), Ao (1 + 3) (by decide) (by decide) (by decide), Ao (1 + 4) (by decide) (by decide) (by decide), Ao (1 + 5) (by decide) (by decide) (by decide), Ao (1 + 6) (by decide) (by decide) (by decide), Ao (1 + 7) (by decide) (by decide) (by decide), Ao (1 + 8) (by decide) (by decide) (by decide), Ao (1 + 9) (by decide) (by decide) (by decide), Ao (1 + 13) (by decide) (by decide) (by decide)]
          refine ⟨k0, k1, rfl, k3, k4, fun g hg => ?_, fun p hp => ?_, fun s hs => ?_, k8, k9, k10⟩
          · rw [fo _ (by omega) (by omega), fo _ (by omega) (by omega), fo _ (by omega) (by omega), fo _ (by omega) (by omega), fo _ (by omega) (by omega)]; exact k5 g hg
          · rw [fo _ (by omega) (by omega), fo _ (by omega) (by omega), fo _ (by omega) (by omega), fo _ (by omega) (by omega)]; exact k6 p hp
          · obtain ⟨g1, g2, g3⟩ := fs s hs
            obtain ⟨q1, q2, q3⟩ := k7 s hs
            rw [g1, g2, g3]
            have q1 : S.2.1 11 s = T.2.1 132 (71 + 3 * s) := q1
            have q2 : S.2.1 12 s = T.2.1 132 (72 + 3 * s) := q2
            have q3 : S.2.1 13 s = T.2.1 132 (73 + 3 * s) := q3
            exact ⟨(A11 s).trans (by rw [q1]), (A12 s).trans (by rw [q2]), (A13 s).trans (by rw [q3])⟩
        · unfold WF
          rw [fo 91 (by omega) (by decide), fo 92 (by omega) (by decide), f93, fo 94 (by omega) (by decide), fo 95 (by omega) (by decide), fo 89 (by omega) (by decide), fo 90 (by omega) (by decide)]
          refine ⟨w0.cg (fun i hi => fo i (by omega) (by omega)), w1, w2, inb_t (by omega) (by omega), w4, w5, fun g hg => ?_, fun p hp => ?_, fun s hs => ?_, w9, w10⟩
          · rw [fo _ (by omega) (by omega), fo _ (by omega) (by omega), fo _ (by omega) (by omega)]; exact w6 g hg
          · rw [fo _ (by omega) (by omega)]; exact w7 p hp
          · obtain ⟨g1, g2, g3⟩ := fs s hs
            rw [g1, g2, g3]
            by_cases q : s = n
            · rw [if_pos q, if_pos q, if_pos q]; exact ⟨b1, b2, b3⟩
            · rw [if_neg q, if_neg q, if_neg q]; exact w8 s hs
        · exact kt.cgf rfl (aS.sm (L := ([], [], [], [])) (by decide)).2.2.2 (fo 94 (by omega) (by decide)) (fun k hk => fo k (by omega) (by omega))
      · intro i hi
        show u1 T.2.1 132 F 132 i = _
        rw [s132]; exact fo i (by omega) (by omega)
      · show u1 T.2.1 132 F 132 91 = _
        rw [s132]; exact fo 91 (by omega) (by decide)
      · show u1 T.2.1 132 F 132 92 = _
        rw [s132]; exact fo 92 (by omega) (by decide)
  · rw [if_neg hb, if_neg hb, neg_1]
    dsimp only
    rw [told_r x S 1 (by omega) (by omega)]
    exact ⟨_, _, _, rfl, rfl, h.ref 1 (by omega)⟩
end CALLS3
