section REACH
theorem canSeek_eq (x : XT) (S : ST) (a b c : Int32) (n : Nat) (hn : n < 2147483648) (h : S.1 1 6 = iN n) : gfX10_canSeek_0 x S a b c = some (bz (inb a n && inb b 6 && (decide (c = -1) || inb c 20)), S) := by
  unfold gfX10_canSeek_0 bfX10_canSeek_0_0 bfX10_canSeek_0_38 bfX10_canSeek_0_34 bfX10_canSeek_0_39
  rw [show (6 : Int32) = iN 6 from rfl, show (20 : Int32) = iN 20 from rfl]
  simp only [hasGoer_eq1 x S a n hn h, within_eq x S b 6 (by omega), within_eq x S c 20 (by omega), bz_0, show bbz 0 = true from rfl, show bbz 1 = true from rfl, cond_true]
  cases inb a n
  · rfl
  cases inb b 6
  · rfl
  by_cases hc : c = -1
  · rw [decide_eq_true hc, if_neg (by decide), if_neg (by decide), if_pos hc]; rfl
  · rw [decide_eq_false hc, if_neg (by decide), if_neg (by decide), if_neg hc]
    cases inb c 20 <;> rfl
/-- the class begins, the reference lays out -/
theorem begun (x : XT) (S T : ST) (h : Rel x S T) (p : Nat) (hp : p < 5) : ∃ R G S1 T1, G ≤ 10 ∧ T.2.1 132 91 = iN G ∧ gfX6_begin_54_1 x S (iN p) = some ((), S1) ∧ BC x S1 (T.2.1 132) R p ∧ gfX11_laysOut_130 x T (iN p) = some ((), T1) ∧ BR T1 (T.2.1 132) R p G ∧ LR x S 1 (T.2.1 132) R := by
  obtain ⟨R, hR⟩ := h.1.lr
  obtain ⟨G, hG, g1, g2⟩ := h.gates
  obtain ⟨S1, b1, b2⟩ := begin_eq x S _ h.1 R hR p
  obtain ⟨T1, c1, c2, c3⟩ := laysOut_eq x S T 1 _ R hR p G hp hG g2 rfl
  exact ⟨R, G, S1, T1, hG, g2, b1, b2, c1, c2, hR⟩
theorem FI.fd {x : XT} {S T : ST} {f : Nat → Int32} {R : RF} {p G n : Nat} (h : FI x S T f R p G n) (q : Nat) (hq : q < 120) : S.2.1 72 q = -1 ↔ (1000000 : Int32) ≤ T.2.1 148 q := by
  have hn := h.2.2.1
  rcases h.2.2.2.2.1 q hq with ⟨a, b⟩ | ⟨d, a, b, c⟩
  · rw [a, b]; exact ⟨fun _ => by decide, fun _ => rfl⟩
  · rw [b, c]
    exact ⟨fun z => absurd z (iN_m1 (by omega)), fun z => by have := (iN_le (m := 1000000) (by omega) (by omega)).mp z; omega⟩
theorem many_loop (x : XT) (f : Nat → Int32) (R : RF) (p G n : Nat) (S T : ST) (hF : FI x S T f R p G n) (b : Nat) (hb : b < 6) : ∀ (d m f1 f2 : Nat) (v : Int32), m + d = 20 → d < f1 → d < f2 → ∃ r, lfX6_manyBits_54_8 x f1 S (iN b) v (iN m) = some (r, S) ∧ lfX11_manys_130_37 x f2 T (iN b) v (iN m) = some (r, T)
  | 0, m, f1, f2, v, hm, l1, l2 => by
    obtain ⟨f1, rfl⟩ : ∃ z, f1 = z + 1 := ⟨f1 - 1, by omega⟩
    obtain ⟨f2, rfl⟩ : ∃ z, f2 = z + 1 := ⟨f2 - 1, by omega⟩
    have e : m = 20 := by omega
    subst e
    rw [lfX6_manyBits_54_8, bfX6_manyBits_54_8, if_pos (show (20 : Int32) ≤ iN 20 by decide), lfX11_manys_130_37, bfX11_manys_130_37, if_pos (show (20 : Int32) ≤ iN 20 by decide)]
    exact ⟨v, rfl, rfl⟩
  | d + 1, m, f1, f2, v, hm, l1, l2 => by
    obtain ⟨f1, rfl⟩ : ∃ z, f1 = z + 1 := ⟨f1 - 1, by omega⟩
    obtain ⟨f2, rfl⟩ : ∃ z, f2 = z + 1 := ⟨f2 - 1, by omega⟩
    have n20 : ¬ (20 : Int32) ≤ iN m := fun q => by have := (iN_le (m := 20) (by omega) (by omega)).mp q; omega
    have hfd := hF.fd (20 * b + m) (by omega)
    rw [lfX6_manyBits_54_8, bfX6_manyBits_54_8, if_neg n20, lfX11_manys_130_37, bfX11_manys_130_37, if_neg n20]
    unfold bfX6_manyBits_54_35 bfX11_manys_130_70
    rw [Int32.mul_comm (iN b) 20, show (20 : Int32) * iN b = iN (20 * b) from iN_mul 20 b, iN_add, inb_t (show 20 * b + m < 120 by omega) (by omega), cond_true, cond_true, iN_nat (by omega), iN_succ]
    by_cases e : S.2.1 72 (20 * b + m) = -1
    · rw [if_pos e, if_pos (hfd.mp e), Int32.or_zero]
      exact many_loop x f R p G n S T hF b hb d (m + 1) f1 f2 v (by omega) (by omega) (by omega)
    · rw [if_neg e, if_neg (fun z => e (hfd.mpr z))]
      exact many_loop x f R p G n S T hF b hb d (m + 1) f1 f2 _ (by omega) (by omega) (by omega)
theorem c_manys (x : XT) (S T : ST) (h : Rel x S T) (a b : Int32) : Call x S T (gfX10_manys_0 x S a b) (gfX11_manys_130 x T a b) := by
  obtain ⟨P, hP, p1, p2⟩ := h.goers
  have key : ∃ r S' T', gfX10_manys_0 x S a b = some (r, S') ∧ gfX11_manys_130 x T a b = some (r, T') := by
    unfold gfX10_manys_0 bfX10_manys_0_0 gfX11_manys_130 bfX11_manys_130_0 bfX11_manys_130_15
    rw [canSeek_eq x S a b (-1) P (by omega) p1, isGoer_eq x T a P (by omega) p2]
    dsimp only
    rw [isPark_eq]
    cases ha : inb a P with
    | false =>
      rw [if_pos (show bz false = 0 from rfl), if_neg (show ¬ ¬ bz (false && inb b 6 && (decide ((-1 : Int32) = -1) || inb (-1) 20)) = 0 from fun z => z rfl)]
      exact ⟨_, _, _, rfl, rfl⟩
    | true =>
      rw [if_neg (show ¬ bz true = 0 by decide)]
      dsimp only
      cases hb : inb b 6 with
      | false =>
        rw [if_neg (show ¬ ¬ bz false = 0 from fun z => z rfl), if_neg (show ¬ ¬ bz (true && false && (decide ((-1 : Int32) = -1) || inb (-1) 20)) = 0 from fun z => z rfl)]
        exact ⟨_, _, _, rfl, rfl⟩
      | true =>
        rw [if_pos (show ¬ bz true = 0 by decide), if_pos (show ¬ bz (true && true && (decide ((-1 : Int32) = -1) || inb (-1) 20)) = 0 by decide)]
        obtain ⟨p, hp, rfl⟩ := inb_ex ha
        obtain ⟨k, hk, rfl⟩ := inb_ex hb
        obtain ⟨R, G, S1, T1, hG, h91, b1, b2, c1, c2, hR⟩ := begun x S T h p (by omega)
        obtain ⟨S2, T2, n, d1, d2, d3⟩ := all_eq x (T.2.1 132) R p G (by omega) h.1.2.1 hG h91 S1 T1 b2 c2
        obtain ⟨r, e1, e2⟩ := many_loop x (T.2.1 132) R p G n S2 T2 d3 k hk 20 0 20000 20000 0 (by omega) (by omega) (by omega)
        rw [show iN 0 = 0 from rfl] at e1 e2
        rw [b1, c1]
        dsimp only
        rw [placeOf_eq x T1 (T.2.1 132) p (by omega) h.1.2.1 c2.1]
        dsimp only
        rw [d2]
        dsimp only
        rw [e2]
        unfold gfX6_manyBits_54 bfX6_manyBits_54_0
        rw [d1]
        dsimp only
        rw [e1]
        exact ⟨_, _, _, rfl, rfl⟩
  obtain ⟨r, S', T', q1, q2⟩ := key
  exact Call.of h q1 q2 (frX10_manys_0 x S _ _ _ _ q1) (by decide) (frX11_manys_130 x T _ _ _ _ q2) (by decide)
def fdB (S : ST) (b : Nat) : Nat → Nat → Bool
  | 0, _ => false
  | d + 1, m => decide (¬ S.2.1 72 (20 * b + m) = -1) || fdB S b d (m + 1)
def pB (b : Nat) : Int32 := (1 : Int32) <<< (iN b &&& 31)
theorem park_in (x : XT) (S : ST) (b : Nat) (hb : b < 6) : ∀ (d m fuel : Nat) (v : Int32), m + d = 20 → lfX6_parkBits_54_8 x (fuel + d) S v (iN (20 * b + m)) = lfX6_parkBits_54_8 x fuel S (v ||| (bif fdB S b d m then pB b else 0)) (iN (20 * (b + 1)))
  | 0, m, fuel, v, hm => by
    rw [show 20 * b + m = 20 * (b + 1) by omega, fdB, cond_false, Int32.or_zero, Nat.add_zero]
  | d + 1, m, fuel, v, hm => by
    rw [← Nat.add_assoc, lfX6_parkBits_54_8, bfX6_parkBits_54_8, if_neg (show ¬ (120 : Int32) ≤ iN (20 * b + m) from fun q => by have := (iN_le (m := 120) (by omega) (by omega)).mp q; omega), inb_t (show 20 * b + m < 120 by omega) (by omega), cond_true, iN_nat (by omega)]
    unfold bfX6_parkBits_54_33
    rw [iN_succ, div20 _ (by omega), show (20 * b + m) / 20 = b by omega, show 20 * b + m + 1 = 20 * b + (m + 1) by omega, fdB]
    by_cases e : S.2.1 72 (20 * b + m) = -1
    · rw [if_pos e, decide_eq_false (fun z => z e), Bool.false_or]
      exact park_in x S b hb d (m + 1) fuel v (by omega)
    · rw [if_neg e, decide_eq_true e, Bool.true_or, cond_true, park_in x S b hb d (m + 1) fuel _ (by omega)]
      show lfX6_parkBits_54_8 x fuel S (v ||| pB b ||| (bif fdB S b d (m + 1) then pB b else 0)) (iN (20 * (b + 1))) = _
      cases fdB S b d (m + 1)
      · rw [cond_false, Int32.or_zero]
      · rw [cond_true, Int32.or_assoc, Int32.or_self]
theorem comes_in (x : XT) (f : Nat → Int32) (R : RF) (p G n : Nat) (S T : ST) (hF : FI x S T f R p G n) (b : Nat) (hb : b < 6) : ∀ (d m fuel : Nat) (o : Bool), m + d = 20 → d < fuel → lfX11_comesTo_130_4 x fuel T (iN b) (bz o) (iN m) = some (bz (o || fdB S b d m), T)
  | 0, m, fuel, o, hm, hf => by
    obtain ⟨fuel, rfl⟩ : ∃ z, fuel = z + 1 := ⟨fuel - 1, by omega⟩
    have e : m = 20 := by omega
    subst e
    rw [lfX11_comesTo_130_4, bfX11_comesTo_130_4, if_pos (show (20 : Int32) ≤ iN 20 by decide), bz_b, cond_true, fdB, Bool.or_false]
  | d + 1, m, fuel, o, hm, hf => by
    obtain ⟨fuel, rfl⟩ : ∃ z, fuel = z + 1 := ⟨fuel - 1, by omega⟩
    have hfd := hF.fd (20 * b + m) (by omega)
    rw [lfX11_comesTo_130_4, bfX11_comesTo_130_4, if_neg (show ¬ (20 : Int32) ≤ iN m from fun q => by have := (iN_le (m := 20) (by omega) (by omega)).mp q; omega), fdB]
    unfold bfX11_comesTo_130_30 bfX11_comesTo_130_35
    rw [iN_succ]
    cases o with
    | true =>
      rw [if_pos (show ¬ bz true = 0 by decide), show (1 : Int32) = bz true from rfl, comes_in x f R p G n S T hF b hb d (m + 1) fuel true (by omega) (by omega), Bool.true_or, Bool.true_or]
    | false =>
      rw [if_neg (show ¬ ¬ bz false = 0 from fun z => z rfl), show (20 : Int32) * iN b = iN (20 * b) from iN_mul 20 b, iN_add, inb_t (show 20 * b + m < 120 by omega) (by omega), cond_true, iN_nat (by omega), Bool.false_or]
      by_cases e : S.2.1 72 (20 * b + m) = -1
      · rw [if_pos (hfd.mp e), decide_eq_false (fun z => z e), Bool.false_or, show (0 : Int32) = bz false from rfl, comes_in x f R p G n S T hF b hb d (m + 1) fuel false (by omega) (by omega), Bool.false_or]
      · rw [if_neg (fun z => e (hfd.mpr z)), decide_eq_true e, Bool.true_or, show (1 : Int32) = bz true from rfl, comes_in x f R p G n S T hF b hb d (m + 1) fuel true (by omega) (by omega), Bool.true_or]
theorem reach_out (x : XT) (f : Nat → Int32) (R : RF) (p G n : Nat) (S T : ST) (hF : FI x S T f R p G n) : ∀ (d b f1 f2 : Nat) (v : Int32), b + d = 6 → 20 * d < f1 → d < f2 → ∃ r, lfX6_parkBits_54_8 x f1 S v (iN (20 * b)) = some (r, S) ∧ lfX11_reach_130_29 x f2 T v (iN b) = some (r, T)
  | 0, b, f1, f2, v, hb, l1, l2 => by
    obtain ⟨f1, rfl⟩ : ∃ z, f1 = z + 1 := ⟨f1 - 1, by omega⟩
    obtain ⟨f2, rfl⟩ : ∃ z, f2 = z + 1 := ⟨f2 - 1, by omega⟩
    have e : b = 6 := by omega
    subst e
    rw [lfX6_parkBits_54_8, bfX6_parkBits_54_8, if_pos (show (120 : Int32) ≤ iN (20 * 6) by decide), lfX11_reach_130_29, bfX11_reach_130_29, if_pos (show (6 : Int32) ≤ iN 6 by decide)]
    exact ⟨v, rfl, rfl⟩
  | d + 1, b, f1, f2, v, hb, l1, l2 => by
    obtain ⟨f1, rfl⟩ : ∃ z, f1 = z + 20 := ⟨f1 - 20, by omega⟩
    obtain ⟨f2, rfl⟩ : ∃ z, f2 = z + 1 := ⟨f2 - 1, by omega⟩
    have c := comes_in x f R p G n S T hF b (by omega) 20 0 20000 false (by omega) (by omega)
    rw [show iN 0 = 0 from rfl, Bool.false_or, show bz false = 0 from rfl] at c
    have c : gfX11_comesTo_130 x T (iN b) = some (bz (fdB S b 20 0), T) := c
    have q := park_in x S b (by omega) 20 0 f1 v (by omega)
    rw [Nat.add_zero (20 * b)] at q
    rw [q, lfX11_reach_130_29, bfX11_reach_130_29, if_neg (show ¬ (6 : Int32) ≤ iN b from fun q => by have := (iN_le (m := 6) (by omega) (by omega)).mp q; omega), c]
    dsimp only
    unfold bfX11_reach_130_51
    rw [iN_succ]
    obtain ⟨r, r1, r2⟩ := reach_out x f R p G n S T hF d (b + 1) f1 f2 (v ||| (bif fdB S b 20 0 then pB b else 0)) (by omega) (by omega) (by omega)
    refine ⟨r, r1, ?_⟩
    rw [← r2]
    cases fdB S b 20 0
    · rw [if_pos (show bz false = 0 from rfl), cond_false]
    · rw [if_neg (show ¬ bz true = 0 by decide), cond_true, pB]
theorem c_reach (x : XT) (S T : ST) (h : Rel x S T) (a : Int32) : Call x S T (gfX10_reach_0 x S a) (gfX11_reach_130 x T a) := by
  obtain ⟨P, hP, p1, p2⟩ := h.goers
  have key : ∃ r S' T', gfX10_reach_0 x S a = some (r, S') ∧ gfX11_reach_130 x T a = some (r, T') := by
    unfold gfX10_reach_0 bfX10_reach_0_0 gfX11_reach_130 bfX11_reach_130_0
    rw [hasGoer_eq1 x S a P (by omega) p1, isGoer_eq x T a P (by omega) p2]
    dsimp only
    cases ha : inb a P with
    | false =>
      rw [if_neg (show ¬ ¬ bz false = 0 from fun z => z rfl), if_neg (show ¬ ¬ bz false = 0 from fun z => z rfl)]
      exact ⟨_, _, _, rfl, rfl⟩
    | true =>
      rw [if_pos (show ¬ bz true = 0 by decide), if_pos (show ¬ bz true = 0 by decide)]
      obtain ⟨p, hp, rfl⟩ := inb_ex ha
      obtain ⟨R, G, S1, T1, hG, h91, b1, b2, c1, c2, hR⟩ := begun x S T h p (by omega)
      obtain ⟨S2, T2, n, d1, d2, d3⟩ := all_eq x (T.2.1 132) R p G (by omega) h.1.2.1 hG h91 S1 T1 b2 c2
      obtain ⟨r, e1, e2⟩ := reach_out x (T.2.1 132) R p G n S2 T2 d3 6 0 20000 20000 0 (by omega) (by omega) (by omega)
      rw [Nat.mul_zero, show iN 0 = 0 from rfl] at e1
      rw [show iN 0 = 0 from rfl] at e2
      rw [b1, c1]
      dsimp only
      rw [placeOf_eq x T1 (T.2.1 132) p (by omega) h.1.2.1 c2.1]
      dsimp only
      rw [d2]
      dsimp only
      rw [e2]
      unfold gfX6_parkBits_54 bfX6_parkBits_54_0
      rw [d1]
      dsimp only
      rw [e1]
      exact ⟨_, _, _, rfl, rfl⟩
  obtain ⟨r, S', T', q1, q2⟩ := key
  exact Call.of h q1 q2 (frX10_reach_0 x S _ _ _ q1) (by decide) (frX11_reach_130 x T _ _ _ q2) (by decide)
end REACH
