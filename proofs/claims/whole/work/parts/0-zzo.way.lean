section WAY
/-- both sides on paper: the WAY's length -/
theorem len_both (x : XT) (f : Nat → Int32) (R : RF) (p G : Nat) (hp : p < 5) (hW : WF f) (hG : G ≤ 10) (h91 : f 91 = iN G) (b c : Int32) (S T : ST) (hS : BC x S f R p) (hT : BR T f R p G) : ∃ S' T' r, gfX6_wayLength_54 x S b c = some (r, S') ∧ gfX11_laysLeft_130 x T b c 0 = some ((), T') ∧ T'.2.1 132 = f ∧ ((T'.2.1 147 (pl0 f p) < 1000000 ∧ r = T'.2.1 147 (pl0 f p)) ∨ (¬ T'.2.1 147 (pl0 f p) < 1000000 ∧ r = -1)) := by
  have hs := pl0_lt hW p hp
  obtain ⟨T2, L, l1, l2, l3⟩ := left_eq x f R p G hW hG h91 b c 0 T hT
  have wl := way_len x f R p G hp hW hG h91 b c S hS L l2.2.2.2.2 l2.2.2.2.1 l3
  have l147 := l2.2.1 _ hs
  unfold gfX6_wayLength_54 bfX6_wayLength_54_0 bfX6_wayLength_54_22
  rcases wl with ⟨w1, S', w2⟩ | ⟨w1, S', t, w2, w3, w4, -⟩
  · rw [w2]
    dsimp only
    rw [if_neg (fun z => z rfl)]
    refine ⟨_, T2, -1, rfl, l1, l2.1.1, Or.inr ⟨?_, rfl⟩⟩
    rw [l147, w1]; decide
  · rw [w3]
    dsimp only
    rw [if_pos (iN_m1 (by omega)), inb_t w2 (by omega), cond_true, iN_nat (by omega), w4]
    refine ⟨_, T2, _, rfl, l1, l2.1.1, Or.inl ⟨?_, l147.symm⟩⟩
    rw [l147]
    exact (iN_lt (n := 1000000) (by omega) (by omega)).mpr w1
/-- both sides on paper: a GATE of the WAY -/
theorem gate_both (x : XT) (f : Nat → Int32) (R : RF) (p G : Nat) (hp : p < 5) (hW : WF f) (hG : G ≤ 10) (h91 : f 91 = iN G) (b c : Int32) (S T : ST) (hS : BC x S f R p) (hT : BR T f R p G) (ix : Nat) (hx : ix < 2147483648) : ∃ S' T' r, gfX6_wayGate_54 x S b c (iN ix) = some (r, S') ∧ gfX11_laysLeft_130 x T b c 0 = some ((), T') ∧ T'.2.1 132 = f ∧ ((¬ T'.2.1 147 (pl0 f p) < 1000000 ∧ r = -1) ∨ (T'.2.1 147 (pl0 f p) < 1000000 ∧ ¬ iN ix < T'.2.1 147 (pl0 f p) ∧ r = -1) ∨ (T'.2.1 147 (pl0 f p) < 1000000 ∧ iN ix < T'.2.1 147 (pl0 f p) ∧ lfX11_way_130_99 x 20000 T' (iN ix) (iN (pl0 f p)) (-1) 0 = some (r, T'))) := by
  have hs := pl0_lt hW p hp
  obtain ⟨T2, L, l1, l2, l3⟩ := left_eq x f R p G hW hG h91 b c 0 T hT
  have wl := way_len x f R p G hp hW hG h91 b c S hS L l2.2.2.2.2 l2.2.2.2.1 l3
  have l147 := l2.2.1 _ hs
  unfold gfX6_wayGate_54 bfX6_wayGate_54_0 bfX6_wayGate_54_29
  rcases wl with ⟨w1, S', w2⟩ | ⟨w1, S', t, w2, w3, w4, w5⟩
  · rw [w2]
    dsimp only
    rw [if_pos rfl]
    refine ⟨_, T2, -1, rfl, l1, l2.1.1, Or.inl ⟨?_, rfl⟩⟩
    rw [l147, w1]; decide
  · rw [w3]
    dsimp only
    have lt : T2.2.1 147 (pl0 f p) < 1000000 := by
      rw [l147]
      exact (iN_lt (n := 1000000) (by omega) (by omega)).mpr w1
    rw [if_neg (iN_m1 (by omega)), if_neg (iN_nn hx), inb_t w2 (by omega), cond_true, iN_nat (show t < 2147483648 by omega), w4]
    by_cases hi : ix < L (pl0 f p)
    · rw [if_pos ((iN_lt (by omega) (by omega)).mpr hi), cond_true]
      rcases w5 with ⟨z, -⟩ | ⟨S1, Q, P, H, D, n, i, g, d1, d2, d3, d5, d6, d7, eq, d8⟩
      · omega
      · have hd := (d1.2.2.1 i d2).2.2.2.1
        have h120 := d1.2.1
        have wk := d1.wk hG d2 d3 w2 d5 d7 L l2.2.2.2.2 l2.2.2.2.1 l3
        have ne : ∀ m, m < D i → Q (chn P i m) ≠ t := fun m hm z => by
          have q := (d1.2.2.1 _ (d1.c1 d2 m (by omega)).1).2.2.1
          have q2 := (d1.2.2.1 _ (d1.c1 d2 m (by omega)).1).2.2.2.1
          rw [z, d6] at q
          exact iN_m1 (by omega) q.symm
        have c73 : ∀ m, m ≤ D i → cpl P Q i t m < 120 ∧ S'.2.1 73 (cpl P Q i t m) = iN (lgt P H i g m) := by
          intro m hm
          refine ⟨(wk.1 m hm).2.1, ?_⟩
          rw [d8]
          dsimp only
          cases m with
          | zero =>
            show u2 (u2 (u2 S1.2.1 72 t (iN (D i + 1))) 73 t (iN g)) 74 t (iN (Q i)) 73 t = iN g
            rw [u2_ro _ _ _ (by decide), u2_s]
          | succ m =>
            show u2 (u2 (u2 S1.2.1 72 t (iN (D i + 1))) 73 t (iN g)) 74 t (iN (Q i)) 73 (Q (chn P i m)) = iN (H (chn P i m))
            rw [u2_ro _ _ _ (by decide), u2_k _ _ _ (ne m (by omega)), u2_ro _ _ _ (by decide)]
            exact (d1.2.2.2.2.2.2.1 _ (d1.c0 d2 m (by omega)) (d1.c1 d2 m (by omega)).1).2.2.2.2.1
        have c74 : ∀ m, m ≤ D i → S'.2.1 74 (cpl P Q i t m) = iN (cpl P Q i t (m + 1)) := by
          intro m hm
          rw [d8]
          dsimp only
          cases m with
          | zero =>
            show u2 (u2 (u2 S1.2.1 72 t (iN (D i + 1))) 73 t (iN g)) 74 t (iN (Q i)) 74 t = iN (Q i)
            rw [u2_s]
          | succ m =>
            show u2 (u2 (u2 S1.2.1 72 t (iN (D i + 1))) 73 t (iN g)) 74 t (iN (Q i)) 74 (Q (chn P i m)) = iN (Q (P (chn P i m)))
            rw [u2_k _ _ _ (ne m (by omega)), u2_ro _ _ _ (by decide), u2_ro _ _ _ (by decide)]
            exact (d1.2.2.2.2.2.2.1 _ (d1.c0 d2 m (by omega)) (d1.c1 d2 m (by omega)).1).2.2.2.2.2.1
        have r1 := gate_back x S' (lgt P H i g) (cpl P Q i t) (D i) (by omega) c73 c74 ix (D i - ix) 0 (D i) 20000 (by omega) (by omega) (by omega)
        have r2 := way_out x T2 f R p G hW hG l2.1 L l2.2.1 l2.2.2.1 (fun m => Q (chn P i m)) (lgt P H i g) (cpl P Q i t) (D i) (by omega) wk ix ix (D i) 0 20000 (-1) (by omega) (by omega) (by omega) (by omega)
        have eS : Q (chn P i (D i)) = pl0 f p := by
          obtain ⟨y1, y2⟩ := d1.c1 d2 (D i) (Nat.le_refl _)
          rcases Nat.eq_zero_or_pos (chn P i (D i)) with z | z
          · rw [z, d1.2.2.2.2.2.1.1]
          · have := (d1.2.2.2.2.2.2.1 _ z y1).2.2.2.1
            omega
        rw [eS, show iN 0 = 0 from rfl] at r2
        have r1 : lfX6_wayGate_54_42 x 20000 S' (iN ix) (iN t) (iN (D i)) = some (iN (lgt P H i g (0 + (D i - ix))), S') := r1
        rw [eq, show iN (D i + 1) - 1 = iN (D i) from iN_sub (m := D i + 1) (n := 1) (by omega), r1, Nat.zero_add]
        refine ⟨_, T2, _, rfl, l1, l2.1.1, Or.inr (Or.inr ⟨lt, ?_, r2⟩)⟩
        rw [l147]
        exact (iN_lt (by omega) (by omega)).mpr hi
    · rw [if_neg (fun z => hi ((iN_lt (by omega) (by omega)).mp z))]
      refine ⟨_, T2, _, rfl, l1, l2.1.1, Or.inr (Or.inl ⟨lt, ?_, rfl⟩)⟩
      rw [l147]
      exact fun z => hi ((iN_lt (by omega) (by omega)).mp z)
theorem c_way (x : XT) (S T : ST) (h : Rel x S T) (a b c v : Int32) : Call x S T (gfX10_way_0 x S a b c v) (gfX11_way_130 x T a b c v) := by
  obtain ⟨P, hP, p1, p2⟩ := h.goers
  have key : ∃ r S' T', gfX10_way_0 x S a b c v = some (r, S') ∧ gfX11_way_130 x T a b c v = some (r, T') := by
    unfold gfX10_way_0 bfX10_way_0_0 bfX10_way_0_53 gfX11_way_130 bfX11_way_130_0 bfX11_way_130_22 bfX11_way_130_75 bfX11_way_130_92
    rw [canSeek_eq x S a b c P (by omega) p1, isGoer_eq x T a P (by omega) p2, Bool.and_assoc]
    dsimp only
    rw [canGoal_eq]
    dsimp only
    cases ha : inb a P with
    | false =>
      rw [if_pos (show bz false = 0 from rfl), Bool.false_and, if_neg (show ¬ ¬ bz false = 0 from fun z => z rfl)]
      exact ⟨_, _, _, rfl, rfl⟩
    | true =>
      rw [if_neg (show ¬ bz true = 0 by decide), Bool.true_and]
      cases hb : (inb b 6 && (decide (c = -1) || inb c 20)) with
      | false =>
        rw [if_neg (show ¬ ¬ bz false = 0 from fun z => z rfl), if_pos (show bz false = 0 from rfl)]
        exact ⟨_, _, _, rfl, rfl⟩
      | true =>
        rw [if_pos (show ¬ bz true = 0 by decide), if_neg (show ¬ bz true = 0 by decide)]
        obtain ⟨p, hp, rfl⟩ := inb_ex ha
        have hW := h.1.2.1
        obtain ⟨R, G, S1, T1, hG, h91, b1, b2, c1, c2, hR⟩ := begun x S T h p (by omega)
        have hs := pl0_lt hW p (by omega)
        have hpl := fun (T' : ST) (e : T'.2.1 132 = T.2.1 132) => placeOf_eq x T' _ p (by omega) hW e
        rw [b1, c1]
        dsimp only
        by_cases v1 : v = -1
        · subst v1
          obtain ⟨S2, T2, r, q1, q2, q3, q4⟩ := len_both x _ R p G (by omega) hW hG h91 b c S1 T1 b2 c2
          rw [if_neg (fun z => z rfl), q1, if_pos (show (-1 : Int32) ≤ -1 by decide), q2]
          dsimp only
          rw [hpl T2 q3]
          dsimp only
          rw [inb_t hs (by omega), cond_true, iN_nat (by omega), if_pos (show (-1 : Int32) = -1 from rfl), if_neg (show ¬ ¬ (-1 : Int32) = -1 from fun z => z rfl)]
          rcases q4 with ⟨z1, z2⟩ | ⟨z1, z2⟩
          · rw [if_pos z1, cond_true, z2]
            exact ⟨_, _, _, rfl, rfl⟩
          · rw [if_neg z1, z2]
            exact ⟨_, _, _, rfl, rfl⟩
        · rw [if_pos v1]
          by_cases v2 : v < 0
          · have v3 : ¬ (-1 : Int32) ≤ v := fun z => by
              have e1 := Int32.lt_iff_toInt_lt.mp v2
              have e2 := Int32.le_iff_toInt_le.mp z
              rw [show (0 : Int32).toInt = 0 from rfl] at e1
              rw [show (-1 : Int32).toInt = -1 from rfl] at e2
              exact v1 (Int32.toInt_inj.mp (by rw [show (-1 : Int32).toInt = -1 from rfl]; omega))
            rw [if_neg v3]
            have cg : ∃ S', gfX6_wayGate_54 x S1 b c v = some (-1, S') := by
              unfold gfX6_wayGate_54 bfX6_wayGate_54_0 bfX6_wayGate_54_29
              have fe : ∃ r S', gfX6_find_54 x S1 b c = some (r, S') := by
                rcases find_eq x _ R p G (by omega) hW hG h91 b c S1 b2 with ⟨S', e1, -⟩ | ⟨-, S', t, e1, -⟩ | ⟨-, S', Q, P, H, D, n, e1, -⟩
                · exact ⟨_, _, e1⟩
                · exact ⟨_, _, e1⟩
                · exact ⟨_, _, e1⟩
              obtain ⟨r, S', e1⟩ := fe
              rw [e1]
              dsimp only
              by_cases e : r = -1
              · rw [if_pos e]; exact ⟨_, rfl⟩
              · rw [if_neg e, if_pos v2]; exact ⟨_, rfl⟩
            obtain ⟨S', e1⟩ := cg
            rw [e1]
            exact ⟨_, _, _, rfl, rfl⟩
          · have e := (Int32.ofNat_toNatClampNeg v (Int32.not_lt.mp v2)).symm
            have hx : v.toNatClampNeg < 2147483648 := Int32.toNatClampNeg_lt v
            have e : v = iN v.toNatClampNeg := e
            generalize v.toNatClampNeg = ix at *
            subst e
            have v3 : (-1 : Int32) ≤ iN ix := by
              rw [Int32.le_iff_toInt_le, iN_int hx, show (-1 : Int32).toInt = -1 from rfl]
              omega
            obtain ⟨S2, T2, r, q1, q2, q3, q4⟩ := gate_both x _ R p G (by omega) hW hG h91 b c S1 T1 b2 c2 ix hx
            rw [q1, if_pos v3, q2]
            dsimp only
            rw [hpl T2 q3]
            dsimp only
            rw [inb_t hs (by omega), cond_true, iN_nat (show pl0 (T.2.1 132) p < 2147483648 by omega), if_neg v1, cond_true, if_pos v1]
            rcases q4 with ⟨z1, z2⟩ | ⟨z1, z2, z3⟩ | ⟨z1, z2, z3⟩
            · rw [if_neg z1, z2]
              exact ⟨_, _, _, rfl, rfl⟩
            · rw [if_pos z1, if_neg z2, z3]
              exact ⟨_, _, _, rfl, rfl⟩
            · rw [if_pos z1, if_pos z2, z3]
              exact ⟨_, _, _, rfl, rfl⟩
  obtain ⟨r, S', T', q1, q2⟩ := key
  exact Call.of h q1 q2 (frX10_way_0 x S _ _ _ _ _ _ q1) (by decide) (frX11_way_130 x T _ _ _ _ _ _ q2) (by decide)
end WAY
