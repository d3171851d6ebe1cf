section FLOW4
theorem canGoal_eq (x : XT) (T : ST) (b c : Int32) : gfX11_canBeGoal x T b c = some (bz (inb b 6 && (decide (c = -1) || inb c 20)), T) := by
  have hl : gfX11_lies x T c (-1) 19 = some (bz (decide (c = -1) || inb c 20), T) := by
    have h2 := lies_eq x T c 20 (by omega)
    rw [show iN 20 - 1 = 19 from rfl] at h2
    by_cases e : c = -1
    · subst e; rfl
    · rw [decide_eq_false e, Bool.false_or, ← h2]
      unfold gfX11_lies bfX11_lies_0
      by_cases h0 : c < 0
      · rw [if_pos h0, if_pos ?_]
        rw [Int32.lt_iff_toInt_lt] at h0 ⊢
        rw [show (-1 : Int32).toInt = -1 from rfl]
        rw [show (0 : Int32).toInt = 0 from rfl] at h0
        have : ¬ c.toInt = -1 := fun z => e (Int32.toInt_inj.mp (z.trans rfl))
        omega
      · rw [if_neg h0, if_neg ?_]
        rw [Int32.lt_iff_toInt_lt] at h0 ⊢
        rw [show (-1 : Int32).toInt = -1 from rfl]
        rw [show (0 : Int32).toInt = 0 from rfl] at h0
        omega
  unfold gfX11_canBeGoal bfX11_canBeGoal_0 bfX11_canBeGoal_21 bfX11_canBeGoal_22
  rw [isPark_eq]
  dsimp only
  rw [hl]
  cases inb b 6
  · rfl
  cases (decide (c = -1) || inb c 20) <;> rfl
theorem parts_eq (x : XT) (S T : ST) (h : ∀ q, q < 120 → S.2.2.1 78 q = T.2.2.1 150 q) (b c : Int32) : ∀ (d k f1 f2 : Nat) (v : Int64), k + d = 120 → d < f1 → d < f2 → ∃ r, lfX6_flowed_54_5 x f1 S b c v (iN k) = some (r, S) ∧ lfX11_partsAt_130_5 x f2 T b c v (iN k) = some (r, T)
  | 0, k, f1, f2, v, hk, l1, l2 => by
    obtain ⟨f1, rfl⟩ : ∃ z, f1 = z + 1 := ⟨f1 - 1, by omega⟩
    obtain ⟨f2, rfl⟩ : ∃ z, f2 = z + 1 := ⟨f2 - 1, by omega⟩
    have e : k = 120 := by omega
    subst e
    rw [lfX6_flowed_54_5, bfX6_flowed_54_5, if_pos (show (120 : Int32) ≤ iN 120 by decide), lfX11_partsAt_130_5, bfX11_partsAt_130_5, if_pos (show (120 : Int32) ≤ iN 120 by decide)]
    exact ⟨v, rfl, rfl⟩
  | d + 1, k, f1, f2, v, hk, l1, l2 => by
    obtain ⟨f1, rfl⟩ : ∃ z, f1 = z + 1 := ⟨f1 - 1, by omega⟩
    obtain ⟨f2, rfl⟩ : ∃ z, f2 = z + 1 := ⟨f2 - 1, by omega⟩
    have n120 : ¬ (120 : Int32) ≤ iN k := fun z => by have := (iN_le (m := 120) (by omega) (by omega)).mp z; omega
    rw [lfX6_flowed_54_5, bfX6_flowed_54_5, if_neg n120, isAt_eq x S k (by omega), lfX11_partsAt_130_5, bfX11_partsAt_130_5, if_neg n120, isGoal_eq x T k (by omega)]
    dsimp only
    unfold bfX6_flowed_54_34 bfX11_partsAt_130_34
    rw [inb_t (show k < 120 by omega) (by omega), cond_true, cond_true, iN_nat (by omega), iN_succ, h k (by omega)]
    cases bG k b c
    · rw [if_pos (show bz false = 0 from rfl), if_pos (show bz false = 0 from rfl)]
      exact parts_eq x S T h b c d (k + 1) f1 f2 _ (by omega) (by omega) (by omega)
    · rw [if_neg (show ¬ bz true = 0 by decide), if_neg (show ¬ bz true = 0 by decide)]
      exact parts_eq x S T h b c d (k + 1) f1 f2 _ (by omega) (by omega) (by omega)
theorem lp_r (x : XT) (f : Nat → Int32) (R : RF) (p G : Nat) (hp : p < 5) (hW : WF f) (A : Int64) : ∀ (d k fuel : Nat) (T : ST), k + d = 120 → d < fuel → BR T f R p G → (∀ q, q < k → T.2.2.1 150 q = if q = pl0 f p then A else 0) → ∃ T', lfX11_laysParts_130_8 x fuel T (iN p) A (iN k) = some ((), T') ∧ (∀ q, q < 120 → T'.2.2.1 150 q = if q = pl0 f p then A else 0) ∧ BR T' f R p G
  | 0, k, fuel, T, hk, hf, hT, h => by
    obtain ⟨fuel, rfl⟩ : ∃ z, fuel = z + 1 := ⟨fuel - 1, by omega⟩
    have e : k = 120 := by omega
    subst e
    refine ⟨T, ?_, h, hT⟩
    rw [lfX11_laysParts_130_8, bfX11_laysParts_130_8, if_pos (show (120 : Int32) ≤ iN 120 by decide)]
  | d + 1, k, fuel, T, hk, hf, hT, h => by
    obtain ⟨fuel, rfl⟩ : ∃ z, fuel = z + 1 := ⟨fuel - 1, by omega⟩
    have hs := pl0_lt hW p hp
    have go : ∀ v : Int64, v = (if k = pl0 f p then A else 0) → ∃ T', lfX11_laysParts_130_8 x fuel (T.1, T.2.1, u2 T.2.2.1 150 k v, T.2.2.2) (iN p) A (iN (k + 1)) = some ((), T') ∧ (∀ q, q < 120 → T'.2.2.1 150 q = if q = pl0 f p then A else 0) ∧ BR T' f R p G := by
      intro v hv
      exact lp_r x f R p G hp hW A d (k + 1) fuel (T.1, T.2.1, u2 T.2.2.1 150 k v, T.2.2.2) (by omega) (by omega) (hT.cl (Agr.j Agr.rf 150 k v (by decide))) (fun q hq => by
        dsimp only
        by_cases e : q = k
        · subst e; rw [u2_s]; exact hv
        · rw [u2_k _ _ _ e]; exact h q (by omega))
    rw [lfX11_laysParts_130_8, bfX11_laysParts_130_8, if_neg (show ¬ (120 : Int32) ≤ iN k from fun z => by have := (iN_le (m := 120) (by omega) (by omega)).mp z; omega), placeOf_eq x T f p hp hW hT.1]
    dsimp only
    unfold bfX11_laysParts_130_36
    rw [inb_t (show k < 120 by omega) (by omega), cond_true, cond_true, iN_nat (by omega), iN_succ]
    by_cases e : k = pl0 f p
    · rw [if_neg (fun z => z (by rw [e]))]
      exact go A (by rw [if_pos e])
    · rw [if_pos (show ¬ iN k = iN (pl0 f p) from fun z => e ((iN_eq (by omega) (by omega)).mp z))]
      exact go 0 (by rw [if_neg e])
/-- the class begins to let flow; so does the reference -/
theorem flow_0 (x : XT) (S T : ST) (h : Rel x S T) (p : Nat) (hp : p < 5) (A : Int64) (n sh : Int32) : ∃ R G S1 S2 T1, G ≤ 10 ∧ T.2.1 132 91 = iN G ∧ gfX6_begin_54_1 x S (iN p) = some ((), S1) ∧ gfX6_flow_54 x S1 A n sh = lfX6_flow_54_21 x 20000 S2 n sh 0 ∧ gfX11_laysParts_130 x T (iN p) A = some ((), T1) ∧ BC x S2 (T.2.1 132) R p ∧ BR T1 (T.2.1 132) R p G ∧ ∀ q, q < 120 → S2.2.2.1 78 q = T1.2.2.1 150 q := by
  have hW := h.1.2.1
  obtain ⟨R, G, S1, T1, hG, h91, b1, b2, c1, c2, hR⟩ := begun x S T h p hp
  obtain ⟨S2, a1, a2⟩ := fl78 x 120 0 20000 S1 (by omega) (by omega) (fun j hj => by omega)
  rw [show iN 0 = 0 from rfl] at a1
  have a0 : gfJ7_fill_d0a16_78 x S1 0 = some ((), S2) := a1
  have e1 := frJ7_fill_d0a16_78 x S1 _ _ _ a0
  have hB : BC x S2 (T.2.1 132) R p := b2.cl (e1.sub (by decide))
  have hs := pl0_lt hW p hp
  obtain ⟨T2, d1, d2, d3⟩ := lp_r x (T.2.1 132) R p G hp hW A 120 0 20000 T1 (by omega) (by omega) c2 (fun q hq => by omega)
  rw [show iN 0 = 0 from rfl] at d1
  refine ⟨R, G, S1, (S2.1, S2.2.1, u2 S2.2.2.1 78 (pl0 (T.2.1 132) p) A, S2.2.2.2), T2, hG, h91, b1, ?_, ?_, hB.cl (Agr.j Agr.rf 78 _ _ (by decide)), d3, fun q hq => ?_⟩
  · unfold gfX6_flow_54 bfX6_flow_54_0
    rw [a0]
    dsimp only
    rw [start_eq x S2 _ R p hp hW hB]
    dsimp only
    rw [inb_t hs (by omega), cond_true, iN_nat (by omega)]
  · unfold gfX11_laysParts_130 bfX11_laysParts_130_0
    rw [c1]
    exact d1
  · dsimp only
    rw [d2 q hq]
    by_cases e : q = pl0 (T.2.1 132) p
    · rw [e, u2_s, if_pos rfl]
    · rw [u2_k _ _ _ e, if_neg e]; exact a2 q hq
theorem ways_loop (x : XT) (f : Nat → Int32) (R : RF) (p G : Nat) (hp : p < 5) (hW : WF f) (hG : G ≤ 10) (h91 : f 91 = iN G) (b c : Int32) (n : Nat) (hn : n ≤ 12) : ∀ (d k f1 f2 : Nat) (S T : ST), k + d = n → d < f1 → d < f2 → BC x S f R p → BR T f R p G → (∀ q, q < 120 → S.2.2.1 78 q = T.2.2.1 150 q) → ∃ S' r T', lfX6_flow_54_21 x f1 S (iN n) 0 (iN k) = some ((), S') ∧ gfX6_flowed_54 x S' b c = some (r, S') ∧ lfX11_ways_130_40 x f2 T b c (iN n) (iN k) = some (r, T')
  | 0, k, f1, f2, S, T, hk, l1, l2, hS, hT, h => by
    obtain ⟨f1, rfl⟩ : ∃ z, f1 = z + 1 := ⟨f1 - 1, by omega⟩
    obtain ⟨f2, rfl⟩ : ∃ z, f2 = z + 1 := ⟨f2 - 1, by omega⟩
    have e := (iN_le (m := n) (n := k) (by omega) (by omega)).mpr (by omega)
    obtain ⟨r, r1, r2⟩ := parts_eq x S T h b c 120 0 20000 20000 0 (by omega) (by omega) (by omega)
    rw [show iN 0 = 0 from rfl] at r1 r2
    have r2 : gfX11_partsAt_130 x T b c = some (r, T) := r2
    rw [lfX6_flow_54_21, bfX6_flow_54_21, if_pos e, lfX11_ways_130_40, bfX11_ways_130_40, if_pos e, r2]
    exact ⟨S, r, T, rfl, r1, rfl⟩
  | d + 1, k, f1, f2, S, T, hk, l1, l2, hS, hT, h => by
    obtain ⟨f1, rfl⟩ : ∃ z, f1 = z + 1 := ⟨f1 - 1, by omega⟩
    obtain ⟨f2, rfl⟩ : ∃ z, f2 = z + 1 := ⟨f2 - 1, by omega⟩
    have e : ¬ iN n ≤ iN k := fun z => by have := (iN_le (by omega) (by omega)).mp z; omega
    obtain ⟨S1, T1, a1, a2, a3⟩ := step_eq x f R p G hp hW hG h91 0 (by decide) (lfX6_flow_54_21 x f1) (iN n) (iN k) e S T hS hT h
    rw [lfX6_flow_54_21, a1, lfX11_ways_130_40, bfX11_ways_130_40, if_neg e, a2]
    dsimp only
    rw [iN_succ]
    exact ways_loop x f R p G hp hW hG h91 b c n hn d (k + 1) f1 f2 S1 T1 (by omega) (by omega) (by omega) a3.1 a3.2.1 a3.2.2.1
theorem c_ways (x : XT) (S T : ST) (h : Rel x S T) (a b c n : Int32) : Call x S T (gfX10_ways_0 x S a b c n) (gfX11_ways_130 x T a b c n) := by
  obtain ⟨P, hP, p1, p2⟩ := h.goers
  have hl := lies_eq x T n 13 (by omega)
  rw [show iN 13 - 1 = 12 from rfl] at hl
  have key : ∃ r S' T', gfX10_ways_0 x S a b c n = some (r, S') ∧ gfX11_ways_130 x T a b c n = some (r, T') := by
    unfold gfX10_ways_0 bfX10_ways_0_0 bfX10_ways_0_22 gfX11_ways_130 bfX11_ways_130_0 bfX11_ways_130_27
    rw [canSeek_eq x S a b c P (by omega) p1, isGoer_eq x T a P (by omega) p2, Bool.and_assoc]
    dsimp only
    rw [canGoal_eq]
    dsimp only
    rw [hl]
    dsimp only
    cases ha : inb a P with
    | false =>
      rw [if_pos (show bz false = 0 from rfl), Bool.false_and, if_pos (show bz false = 0 from rfl)]
      exact ⟨_, _, _, rfl, rfl⟩
    | true =>
      rw [if_neg (show ¬ bz true = 0 by decide), Bool.true_and]
      cases hb : (inb b 6 && (decide (c = -1) || inb c 20)) with
      | false =>
        rw [if_pos (show bz false = 0 from rfl), if_pos (show bz false = 0 from rfl)]
        exact ⟨_, _, _, rfl, rfl⟩
      | true =>
        rw [if_neg (show ¬ bz true = 0 by decide), if_neg (show ¬ bz true = 0 by decide)]
        cases hn : inb n 13 with
        | false =>
          rw [if_neg (show ¬ ¬ bz false = 0 from fun z => z rfl)]
          rcases inb_f (v := n) (n := 13) (by omega) (by rw [hn]; decide) with q | q
          · rw [if_pos q]; exact ⟨_, _, _, rfl, rfl⟩
          · by_cases z : n < 0
            · rw [if_pos z]; exact ⟨_, _, _, rfl, rfl⟩
            · rw [if_neg z, if_neg (show ¬ n ≤ 12 from fun w => by
                have := Int32.le_trans q w
                exact absurd this (by decide))]
              exact ⟨_, _, _, rfl, rfl⟩
        | true =>
          obtain ⟨m, hm, rfl⟩ := inb_ex hn
          obtain ⟨p, hp, rfl⟩ := inb_ex ha
          rw [if_pos (show ¬ bz true = 0 by decide), if_neg (iN_nn (by omega)), if_pos (show iN m ≤ 12 from (iN_le (n := 12) (by omega) (by omega)).mpr (by omega))]
          obtain ⟨R, G, S1, S2, T1, hG, h91, b1, b2, b3, b4, b5, b6⟩ := flow_0 x S T h p (by omega) 1 (iN m) 0
          obtain ⟨S3, r, T3, d1, d2, d3⟩ := ways_loop x (T.2.1 132) R p G (by omega) h.1.2.1 hG h91 b c m (by omega) m 0 20000 20000 S2 T1 (by omega) (by omega) (by omega) b4 b5 b6
          rw [show iN 0 = 0 from rfl] at d1 d3
          rw [b1, b3]
          dsimp only
          rw [b2, d1, d3]
          dsimp only
          rw [d2]
          exact ⟨_, _, _, rfl, rfl⟩
  obtain ⟨r, S', T', q1, q2⟩ := key
  exact Call.of h q1 q2 (frX10_ways_0 x S _ _ _ _ _ _ q1) (by decide) (frX11_ways_130 x T _ _ _ _ _ _ q2) (by decide)
theorem likely_loop (x : XT) (f : Nat → Int32) (R : RF) (p G : Nat) (hp : p < 5) (hW : WF f) (hG : G ≤ 10) (h91 : f 91 = iN G) (b c : Int32) (n : Nat) (hn : n ≤ 30) : ∀ (d k f1 f2 : Nat) (S T : ST), k + d = n → d < f1 → d < f2 → BC x S f R p → BR T f R p G → (∀ q, q < 120 → S.2.2.1 78 q = T.2.2.1 150 q) → ∃ S' r T', lfX6_flow_54_21 x f1 S (iN n) 1 (iN k) = some ((), S') ∧ gfX6_flowed_54 x S' b c = some (r, S') ∧ lfX11_likely_130_42 x f2 T b c (iN n) (iN k) = some (r, T')
  | 0, k, f1, f2, S, T, hk, l1, l2, hS, hT, h => by
    obtain ⟨f1, rfl⟩ : ∃ z, f1 = z + 1 := ⟨f1 - 1, by omega⟩
    obtain ⟨f2, rfl⟩ : ∃ z, f2 = z + 1 := ⟨f2 - 1, by omega⟩
    have e := (iN_le (m := n) (n := k) (by omega) (by omega)).mpr (by omega)
    obtain ⟨r, r1, r2⟩ := parts_eq x S T h b c 120 0 20000 20000 0 (by omega) (by omega) (by omega)
    rw [show iN 0 = 0 from rfl] at r1 r2
    have r2 : gfX11_partsAt_130 x T b c = some (r, T) := r2
    rw [lfX6_flow_54_21, bfX6_flow_54_21, if_pos e, lfX11_likely_130_42, bfX11_likely_130_42, if_pos e, r2]
    exact ⟨S, r, T, rfl, r1, rfl⟩
  | d + 1, k, f1, f2, S, T, hk, l1, l2, hS, hT, h => by
    obtain ⟨f1, rfl⟩ : ∃ z, f1 = z + 1 := ⟨f1 - 1, by omega⟩
    obtain ⟨f2, rfl⟩ : ∃ z, f2 = z + 1 := ⟨f2 - 1, by omega⟩
    have e : ¬ iN n ≤ iN k := fun z => by have := (iN_le (by omega) (by omega)).mp z; omega
    obtain ⟨S1, T1, a1, a2, a3⟩ := step_eq x f R p G hp hW hG h91 1 (by decide) (lfX6_flow_54_21 x f1) (iN n) (iN k) e S T hS hT h
    rw [lfX6_flow_54_21, a1, lfX11_likely_130_42, bfX11_likely_130_42, if_neg e, a2]
    dsimp only
    rw [iN_succ]
    exact likely_loop x f R p G hp hW hG h91 b c n hn d (k + 1) f1 f2 S1 T1 (by omega) (by omega) (by omega) a3.1 a3.2.1 a3.2.2.1
theorem c_likely (x : XT) (S T : ST) (h : Rel x S T) (a b c n : Int32) : Call x S T (gfX10_likely_0 x S a b c n) (gfX11_likely_130 x T a b c n) := by
  obtain ⟨P, hP, p1, p2⟩ := h.goers
  have hl := lies_eq x T n 31 (by omega)
  rw [show iN 31 - 1 = 30 from rfl] at hl
  have key : ∃ r S' T', gfX10_likely_0 x S a b c n = some (r, S') ∧ gfX11_likely_130 x T a b c n = some (r, T') := by
    unfold gfX10_likely_0 bfX10_likely_0_0 bfX10_likely_0_22 gfX11_likely_130 bfX11_likely_130_0 bfX11_likely_130_27
    rw [canSeek_eq x S a b c P (by omega) p1, isGoer_eq x T a P (by omega) p2, Bool.and_assoc]
    dsimp only
    rw [canGoal_eq]
    dsimp only
    rw [hl]
    dsimp only
    cases ha : inb a P with
    | false =>
      rw [if_pos (show bz false = 0 from rfl), Bool.false_and, if_pos (show bz false = 0 from rfl)]
      exact ⟨_, _, _, rfl, rfl⟩
    | true =>
      rw [if_neg (show ¬ bz true = 0 by decide), Bool.true_and]
      cases hb : (inb b 6 && (decide (c = -1) || inb c 20)) with
      | false =>
        rw [if_pos (show bz false = 0 from rfl), if_pos (show bz false = 0 from rfl)]
        exact ⟨_, _, _, rfl, rfl⟩
      | true =>
        rw [if_neg (show ¬ bz true = 0 by decide), if_neg (show ¬ bz true = 0 by decide)]
        cases hn : inb n 31 with
        | false =>
          rw [if_neg (show ¬ ¬ bz false = 0 from fun z => z rfl)]
          rcases inb_f (v := n) (n := 31) (by omega) (by rw [hn]; decide) with q | q
          · rw [if_pos q]; exact ⟨_, _, _, rfl, rfl⟩
          · by_cases z : n < 0
            · rw [if_pos z]; exact ⟨_, _, _, rfl, rfl⟩
            · rw [if_neg z, if_neg (show ¬ n ≤ 30 from fun w => by
                have := Int32.le_trans q w
                exact absurd this (by decide))]
              exact ⟨_, _, _, rfl, rfl⟩
        | true =>
          obtain ⟨m, hm, rfl⟩ := inb_ex hn
          obtain ⟨p, hp, rfl⟩ := inb_ex ha
          rw [if_pos (show ¬ bz true = 0 by decide), if_neg (iN_nn (by omega)), if_pos (show iN m ≤ 30 from (iN_le (n := 30) (by omega) (by omega)).mpr (by omega))]
          obtain ⟨R, G, S1, S2, T1, hG, h91, b1, b2, b3, b4, b5, b6⟩ := flow_0 x S T h p (by omega) 1000000000000 (iN m) 1
          obtain ⟨S3, r, T3, d1, d2, d3⟩ := likely_loop x (T.2.1 132) R p G (by omega) h.1.2.1 hG h91 b c m (by omega) m 0 20000 20000 S2 T1 (by omega) (by omega) (by omega) b4 b5 b6
          rw [show iN 0 = 0 from rfl] at d1 d3
          rw [b1, b3]
          dsimp only
          rw [b2, d1, d3]
          dsimp only
          rw [d2]
          exact ⟨_, _, _, rfl, rfl⟩
  obtain ⟨r, S', T', q1, q2⟩ := key
  exact Call.of h q1 q2 (frX10_likely_0 x S _ _ _ _ _ _ q1) (by decide) (frX11_likely_130 x T _ _ _ _ _ _ q2) (by decide)
end FLOW4
