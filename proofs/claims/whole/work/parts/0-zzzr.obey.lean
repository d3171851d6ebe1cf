section OBEY
def Hi36 (T T' : ST) : Prop := ∀ k, 36 ≤ k → T'.2.1 132 k = T.2.1 132 k
theorem Hi36.of {T T' : ST} (h : T'.2.1 132 = T.2.1 132) : Hi36 T T' := fun k _ => by rw [h]
theorem Hi36.tr {T T' T'' : ST} (h1 : Hi36 T T') (h2 : Hi36 T' T'') : Hi36 T T'' := fun k hk => (h2 k hk).trans (h1 k hk)
theorem hi_set (x : XT) (S T : ST) (h : Rel x S T) (a w r : Int32) (T' : ST) (e : gfX11_setsKept_130 x T a w = some (r, T')) : Hi36 T T' := by
  obtain ⟨G, hG, g1, g2⟩ := h.gates
  have bt : ¬ bz true = 0 := by decide
  unfold gfX11_setsKept_130 bfX11_setsKept_130_0 at e
  rw [isArm_eq] at e
  dsimp only at e
  cases hw : inb w 10 with
  | false =>
    rw [hw, if_neg (show ¬ ¬ bz false = 0 from fun q => q rfl)] at e
    injection e with e; injection e with e1 e2
    rw [← e2]
    exact fun _ _ => rfl
  | true =>
    rw [hw, if_pos bt, isGate_eq x T a G (by omega) g2] at e
    dsimp only at e
    cases ha : inb a G with
    | false =>
      rw [ha, if_neg (show ¬ ¬ bz false = 0 from fun q => q rfl)] at e
      injection e with e; injection e with e1 e2
      rw [← e2]
      exact fun _ _ => rfl
    | true =>
      obtain ⟨g, hg, rfl⟩ := inb_ex ha
      rw [ha, if_pos bt, show (15 : Int32) + iN g = iN (15 + g) from iN_add 15 g, inb_t (show 15 + g < 5703 by omega) (by omega), cond_true, iN_nat (by omega)] at e
      by_cases hh : T.2.1 132 (15 + g) = w
      · rw [if_neg (fun q => q hh)] at e
        injection e with e; injection e with e1 e2
        rw [← e2]
        exact fun _ _ => rfl
      · rw [if_pos hh] at e
        obtain ⟨n, hn, e1, e2, -⟩ := h.2.2.2.2.2.1
        obtain ⟨v', m', r1, r2, r3, r4, r5, r6, r7⟩ := keepR x T n hn e2 2
        rw [r4] at e
        simp only [cond_true] at e
        injection e with e; injection e with e1 e2
        rw [← e2]
        intro k hk
        show u2 (u1 T.2.1 143 v') 132 (15 + g) w 132 k = _
        rw [u2_k _ _ _ (by omega), u1_n _ _ (by decide)]
theorem hi_latch (x : XT) (S T : ST) (h : Rel x S T) (a r : Int32) (T' : ST) (e : gfX11_latchesKept_130 x T a = some (r, T')) : Hi36 T T' := by
  obtain ⟨G, hG, g1, g2⟩ := h.gates
  have bt : ¬ bz true = 0 := by decide
  unfold gfX11_latchesKept_130 bfX11_latchesKept_130_0 at e
  rw [isGate_eq x T a G (by omega) g2] at e
  dsimp only at e
  cases ha : inb a G with
  | false =>
    rw [ha, if_neg (show ¬ ¬ bz false = 0 from fun q => q rfl)] at e
    injection e with e; injection e with e1 e2
    rw [← e2]
    exact fun _ _ => rfl
  | true =>
    obtain ⟨g, hg, rfl⟩ := inb_ex ha
    obtain ⟨n, hn, e1, e2, -⟩ := h.2.2.2.2.2.1
    obtain ⟨v', m', r1, r2, r3, r4, r5, r6, r7⟩ := keepR x T n hn e2 1
    rw [ha, if_pos bt, r4, show (25 : Int32) + iN g = iN (25 + g) from iN_add 25 g, inb_t (show 25 + g < 5703 by omega) (by omega), iN_nat (by omega)] at e
    simp only [cond_true] at e
    injection e with e; injection e with e1 e2
    rw [← e2]
    intro k hk
    show u2 (u1 T.2.1 143 v') 132 (25 + g) _ 132 k = _
    rw [u2_k _ _ _ (by omega), u1_n _ _ (by decide)]
theorem hi_pass (x : XT) (S T : ST) (h : Rel x S T) (r : Int32) (T' : ST) (e : gfX11_passesKept_130 x T = some (r, T')) : Hi36 T T' := by
  unfold gfX11_passesKept_130 bfX11_passesKept_130_0 at e
  by_cases c : T.2.1 132 35 = 999
  · rw [if_neg (fun z => z c)] at e
    injection e with e; injection e with e1 e2
    rw [← e2]
    exact fun _ _ => rfl
  · obtain ⟨n, hn, e1, e2, -⟩ := h.2.2.2.2.2.1
    obtain ⟨v', m', r1, r2, r3, r4, r5, r6, r7⟩ := keepR x T n hn e2 3
    rw [if_pos c, r4] at e
    dsimp only at e
    injection e with e; injection e with e1 e2
    rw [← e2]
    intro k hk
    show u2 (u1 T.2.1 143 v') 132 35 _ 132 k = _
    rw [u2_k _ _ _ (by omega), u1_n _ _ (by decide)]
theorem hi_go (x : XT) (S T : ST) (h : Rel x S T) (a b r : Int32) (T' : ST) (e : gfX11_goesKept_130 x T a b = some (r, T')) : Hi36 T T' := by
  obtain ⟨G, hG, g1, g2⟩ := h.gates
  obtain ⟨P, hP, p1, p2⟩ := h.goers
  have bt : ¬ bz true = 0 := by decide
  unfold gfX11_goesKept_130 bfX11_goesKept_130_0 bfX11_goesKept_130_16 at e
  rw [isGoer_eq x T a P (by omega) p2] at e
  dsimp only at e
  cases ha : inb a P with
  | false =>
    rw [ha, if_pos (show bz false = 0 from rfl)] at e
    injection e with e; injection e with e1 e2
    rw [← e2]
    exact fun _ _ => rfl
  | true =>
    rw [ha, if_neg bt, isGate_eq x T b G (by omega) g2] at e
    dsimp only at e
    cases hb : inb b G with
    | false =>
      rw [hb, if_neg (show ¬ ¬ bz false = 0 from fun q => q rfl)] at e
      injection e with e; injection e with e1 e2
      rw [← e2]
      exact fun _ _ => rfl
    | true =>
      obtain ⟨p, hp, rfl⟩ := inb_ex ha
      obtain ⟨g, hg, rfl⟩ := inb_ex hb
      obtain ⟨R, hR⟩ := h.1.lr
      obtain ⟨r', S1, T1, e1, e2, e3⟩ := can1 x S T h.1 R hR p g (by omega) (by omega)
      have f1 := frX11_canGo_130 x T _ _ _ _ e2
      have t1 : T1.2.1 132 = T.2.1 132 := f1.2.1 132 (by decide)
      rw [hb, if_pos bt, e2] at e
      dsimp only at e
      rcases e3 with rfl | rfl
      · rw [if_neg (fun q => q rfl)] at e
        injection e with e; injection e with e1 e2
        rw [← e2]
        exact Hi36.of t1
      · rw [if_pos (by decide)] at e
        cases hk : gfX11_keeps_130 x T1 0 with
        | none => rw [hk] at e; exact absurd e (by simp)
        | some q =>
          obtain ⟨u, T2⟩ := q
          rw [hk] at e
          dsimp only at e
          have f2 := frX11_keeps_130 x T1 _ _ _ hk
          have t2 : T2.2.1 132 = T.2.1 132 := (f2.2.1 132 (by decide)).trans t1
          obtain ⟨R2, hR2⟩ : ∃ R2, LR x S 1 (T2.2.1 132) R2 := by rw [t2]; exact ⟨R, hR⟩
          have K2 : RK x S 1 (T2.2.1 132) := by rw [t2]; exact h.1
          obtain ⟨r3, pd, S3, T3, y1, y2, -, -, y3, -, -⟩ := move1 x S T2 K2 R2 hR2 p g (by omega) (by omega)
          rw [y2] at e
          dsimp only at e
          injection e with e; injection e with e1 e2
          rw [← e2]
          intro k hk
          rw [y3, u1_n _ _ (by omega), u1_n _ _ (by omega), u1_n _ _ (by omega), t2]
/-- one of the four is done by both -/
def Obey (x : XT) (S T : ST) (rc rr : Option (Int32 × ST)) : Prop := ∃ r S' T', rc = some (if 0 ≤ r then 1 else 0, S') ∧ rr = some (r, T') ∧ Rel x S' T' ∧ Hi36 T T' ∧ (0 ≤ r → S'.1 51 0 = S.1 51 0 + 1 ∧ S'.1 51 1 = T'.1 130 28 ∧ ¬ S'.1 51 1 = -2000000000)
theorem Ans.nb {r : Int32} (h : 0 ≤ r) : ¬ r = -2000000000 := fun e => by
  rw [e] at h
  exact absurd h (by decide)
theorem ob_end (x : XT) (S : ST) (r : Int32) : bfX5_runOnce_51_25_194 x S r = some (if 0 ≤ r then 1 else 0, if 0 ≤ r then (u2 S.1 51 0 (S.1 51 0 + 1), S.2.1, S.2.2.1, S.2.2.2) else S) := by
  unfold bfX5_runOnce_51_25_194
  by_cases c : 0 ≤ r
  · rw [if_pos c, if_pos c, if_pos c]
  · rw [if_neg c, if_neg c, if_neg c]
theorem ob_rel {x : XT} {S T : ST} (h : Rel x S T) (r : Int32) : Rel x (if 0 ≤ r then (u2 S.1 51 0 (S.1 51 0 + 1), S.2.1, S.2.2.1, S.2.2.2) else S) T := by
  by_cases c : 0 ≤ r
  · rw [if_pos c]
    exact h.scrC (W := ([(51, 0)], [], [], [])) (Agr.f Agr.rf 51 0 _ (by decide)) (by decide)
  · rw [if_neg c]; exact h
theorem ob_plain {x : XT} {S T S1 T1 : ST} {r : Int32} (hR : Rel x S1 T1) (hi : Hi36 T T1) (e0 : S1.1 51 0 = S.1 51 0) (e1 : S1.1 51 1 = S.1 51 1) (e2 : T1.1 130 28 = T.1 130 28) (hl : S.1 51 1 = T.1 130 28) (hn : ¬ S.1 51 1 = -2000000000) : Obey x S T (bfX5_runOnce_51_25_194 x S1 r) (some (r, T1)) := by
  refine ⟨r, _, T1, ob_end x S1 r, rfl, ob_rel hR r, hi, fun c => ?_⟩
  rw [if_pos c]
  refine ⟨?_, ?_, ?_⟩
  · show u2 S1.1 51 0 (S1.1 51 0 + 1) 51 0 = _
    rw [u2_s, e0]
  · show u2 S1.1 51 0 (S1.1 51 0 + 1) 51 1 = _
    rw [u2_k _ _ _ (by decide), e1, e2, hl]
  · show ¬ u2 S1.1 51 0 (S1.1 51 0 + 1) 51 1 = _
    rw [u2_k _ _ _ (by decide), e1]
    exact hn
theorem obey (x : XT) (S T : ST) (h : Rel x S T) (c u : Nat) (hc : c < 12) (hu : u ≤ 3) (e46 : T.1 130 46 = iN (oc u)) (e26 : S.2.1 26 c = iN (263 + u)) (a b : Int32) (ha : ¬ a = -2000000000) (hb : ¬ b = -2000000000) (h0 : u ≤ 2 → T.2.2.1 156 0 = a.toInt64) (h1 : u = 0 ∨ u = 2 → T.2.2.1 156 1 = b.toInt64) (hl : S.1 51 1 = T.1 130 28) (hn : ¬ S.1 51 1 = -2000000000) : Obey x S T (bfX5_runOnce_51_25_88 x S (iN c) a b) (gfX11_obeys_130 x T) := by
  obtain ⟨G, hG, g1, g2⟩ := h.gates
  obtain ⟨P, hP, p1, p2⟩ := h.goers
  unfold bfX5_runOnce_51_25_88 gfX11_obeys_130 bfX11_obeys_130_0
  rw [if_neg ha, if_pos hb, inb_t hc (by omega), cond_true, iN_nat (by omega), e26]
  have hu' : u = 0 ∨ u = 1 ∨ u = 2 ∨ u = 3 := by omega
  rcases hu' with rfl | rfl | rfl | rfl
  · rw [h0 (by omega), smallV_eq, if_pos (show iN (263 + 0) = 263 from rfl)]
    dsimp only
    rw [e46, if_neg (show ¬ iN (oc 0) = 22 by decide), if_neg (show ¬ iN (oc 0) = 23 by decide), if_neg (show ¬ iN (oc 0) = 24 by decide), if_neg (show ¬ iN (oc 0) = 25 by decide), h1 (Or.inl rfl), smallV_eq]
    dsimp only
    rw [← smV_go x S G P hG hP g1 p1 a b]
    obtain ⟨r, S1, T1, q1, q2, q3, q4⟩ := s_go x S T h (smV a) (smV b)
    have hi := hi_go x S T h _ _ _ _ q2
    have fS := frX1_sendThrough_33 x S _ _ _ _ q1
    have fT := frX11_goesKept_130 x T _ _ _ _ q2
    rw [q1, q2]
    dsimp only
    unfold bfX11_obeys_130_98
    have hS : Rel x (u2 S1.1 51 1 r, S1.2.1, S1.2.2.1, S1.2.2.2) T1 := q3.scrC (W := ([(51, 1)], [], [], [])) (Agr.f Agr.rf 51 1 _ (by decide)) (by decide)
    have hT : ∀ v, Rel x (u2 S1.1 51 1 r, S1.2.1, S1.2.2.1, S1.2.2.2) (u2 T1.1 130 28 v, T1.2.1, T1.2.2.1, T1.2.2.2) := fun v => hS.scr (W := ([], [], [], [])) (V := ([(130, 28)], [], [], [])) Agr.rf (by decide) (Agr.f Agr.rf 130 28 _ (by decide)) (by decide)
    refine ⟨r, _, if 0 ≤ r then (u2 T1.1 130 28 r, T1.2.1, T1.2.2.1, T1.2.2.2) else (u2 T1.1 130 28 (T1.1 130 28), T1.2.1, T1.2.2.1, T1.2.2.2), ob_end x _ r, ?_, ?_, ?_, fun c => ?_⟩
    · by_cases c : 0 ≤ r
      · rw [if_pos c, if_pos c]
      · rw [if_neg c, if_neg c]
    · refine ob_rel ?_ r
      by_cases c : 0 ≤ r
      · rw [if_pos c]; exact hT _
      · rw [if_neg c]; exact hT _
    · by_cases c : 0 ≤ r
      · rw [if_pos c]; exact hi
      · rw [if_neg c]; exact hi
    · rw [if_pos c, if_pos c]
      refine ⟨?_, ?_, ?_⟩
      · show u2 (u2 S1.1 51 1 r) 51 0 ((u2 S1.1 51 1 r) 51 0 + 1) 51 0 = _
        rw [u2_s, u2_k _ _ _ (by decide), fS.1 51 0 (by decide)]
      · show u2 (u2 S1.1 51 1 r) 51 0 ((u2 S1.1 51 1 r) 51 0 + 1) 51 1 = u2 T1.1 130 28 r 130 28
        rw [u2_k _ _ _ (by decide), u2_s, u2_s]
      · show ¬ u2 (u2 S1.1 51 1 r) 51 0 ((u2 S1.1 51 1 r) 51 0 + 1) 51 1 = _
        rw [u2_k _ _ _ (by decide), u2_s]
        exact Ans.nb c
  · rw [h0 (by omega), smallV_eq, if_neg (show ¬ iN (263 + 1) = 263 by decide), if_pos (show iN (263 + 1) = 264 from rfl)]
    dsimp only
    rw [e46, if_pos (show iN (oc 1) = 22 from rfl), ← smV_flip x S G hG g1 a]
    obtain ⟨r, S1, T1, q1, q2, q3, q4⟩ := s_latch x S T h (smV a)
    have fS := frX1_flip_33 x S _ _ _ q1
    have fT := frX11_latchesKept_130 x T _ _ _ q2
    have hi := hi_latch x S T h _ _ _ q2
    rw [q1, q2]
    exact ob_plain q3 hi (fS.1 51 0 (by decide)) (fS.1 51 1 (by decide)) (fT.1 130 28 (by decide)) hl hn
  · rw [h0 (by omega), smallV_eq, if_neg (show ¬ iN (263 + 2) = 263 by decide), if_neg (show ¬ iN (263 + 2) = 264 by decide), if_pos (show iN (263 + 2) = 265 from rfl)]
    dsimp only
    rw [e46, if_neg (show ¬ iN (oc 2) = 22 by decide), if_pos (show iN (oc 2) = 23 from rfl), h1 (Or.inr rfl), smallV_eq]
    dsimp only
    rw [← smV_set x S G hG g1 a b]
    obtain ⟨r, S1, T1, q1, q2, q3, q4⟩ := s_set x S T h (smV a) (smV b)
    have fS := frX1_changeArm_33 x S _ _ _ _ q1
    have fT := frX11_setsKept_130 x T _ _ _ _ q2
    have hi := hi_set x S T h _ _ _ _ q2
    rw [q1, q2]
    exact ob_plain q3 hi (fS.1 51 0 (by decide)) (fS.1 51 1 (by decide)) (fT.1 130 28 (by decide)) hl hn
  · obtain ⟨z, hz⟩ := small_ok x T (T.2.2.1 156 0)
    rw [hz, if_neg (show ¬ iN (263 + 3) = 263 by decide), if_neg (show ¬ iN (263 + 3) = 264 by decide), if_neg (show ¬ iN (263 + 3) = 265 by decide)]
    dsimp only
    rw [e46, if_neg (show ¬ iN (oc 3) = 22 by decide), if_neg (show ¬ iN (oc 3) = 23 by decide), if_neg (show ¬ iN (oc 3) = 24 by decide), if_pos (show iN (oc 3) = 25 from rfl)]
    obtain ⟨r, S1, T1, q1, q2, q3, q4⟩ := s_pass x S T h
    have fS := frX1_nextDay_33 x S _ _ q1
    have fT := frX11_passesKept_130 x T _ _ q2
    have hi := hi_pass x S T h _ _ q2
    rw [q1, q2]
    exact ob_plain q3 hi (fS.1 51 0 (by decide)) (fS.1 51 1 (by decide)) (fT.1 130 28 (by decide)) hl hn
end OBEY
