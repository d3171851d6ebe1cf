section ROW
set_option maxRecDepth 20000 in
theorem sb_d : ∀ k : Fin 256, inb ((iN k.1).toInt8.toInt32) 6 = inb (iN k.1) 6 ∧ inb ((iN k.1).toInt8.toInt32) 8 = inb (iN k.1) 8 ∧ inb ((iN k.1).toInt8.toInt32) 10 = inb (iN k.1) 10 ∧ (inb (iN k.1) 10 = true → (iN k.1).toInt8.toInt32 = iN k.1) := by decide
theorem sb {b c : Int32} (h : inb b 256 = true ∧ c = b.toInt8.toInt32) : inb c 6 = inb b 6 ∧ inb c 8 = inb b 8 ∧ inb c 10 = inb b 10 ∧ (inb b 10 = true → c = b) := by
  obtain ⟨h1, rfl⟩ := h
  obtain ⟨k, hk, rfl⟩ := inb_ex h1
  exact sb_d ⟨k, hk⟩
theorem Rel.gates' {x : XT} {S : ST} {f : Nat → Int32} (h : RK x S 1 f) : ∃ G, G ≤ 10 ∧ S.1 1 0 = iN G ∧ f 91 = iN G := by
  obtain ⟨k, hk, e⟩ := inb_ex h.2.1.2.1
  exact ⟨k, by omega, h.1.1.trans e, e⟩
theorem inb_up {b : Int32} {m n : Nat} (h : inb b m = true) (hmn : m ≤ n) (hn : n < 2147483648) : inb b n = true := by
  obtain ⟨k, hk, rfl⟩ := inb_ex h
  exact inb_t (by omega) hn
theorem byteAt_eq (x : XT) (S : ST) (n i : Nat) (hn : n ≤ 400) (hi : i < 500) (h : S.1 18 1 = iN n) : gfX8_byteAt_18 x S (iN i) = some (if i < n then S.2.1 19 i else -1, S) := by
  unfold gfX8_byteAt_18 bfX8_byteAt_18_0 bfX8_byteAt_18_21 bfX8_byteAt_18_22
  rw [if_neg (iN_nn (by omega)), h]
  by_cases hc : i < n
  · rw [if_neg (fun q => by have := (iN_le (by omega) (by omega)).mp q; omega), inb_t (show i < 400 by omega) (by omega), cond_true, iN_nat (by omega), if_pos hc]
  · rw [if_pos ((iN_le (by omega) (by omega)).mpr (by omega)), if_neg hc]
def wRC : WS := ([(1, 0), (0, 15)], [2, 3, 4, 5, 6], [], [])
def wRR : WS := ([(130, 6)], [132], [], [])
/-- what the rows after k do -/
def RowE (x : XT) (S T : ST) (a b : Option (Int32 × ST)) : Prop := ∃ S' T' c, a = some (iN c, tG (u2 (u2 S'.1 18 1 0) 33 0 0, S'.2.1, S'.2.2.1, S'.2.2.2)) ∧ b = some (iN c, gG (u2 T'.1 130 31 0, T'.2.1, T'.2.2.1, T'.2.2.2)) ∧ Agr wRC S S' ∧ Agr wRR T T' ∧ RK x S' 1 (T'.2.1 132) ∧ S'.1 0 15 = T'.1 130 6
def eN (n : Nat) : Int32 := if n % 4 = 0 then 0 else 1
theorem row_end (x : XT) (S : ST) (n c : Nat) (hc : c < 1000) (fuel k : Nat) (hk : k < 1000) (hn : n ≤ k) (h : S.1 18 1 = iN n) : lfX10_row_0_26 x (fuel + 1) S (iN c) (iN k) = some (iN c, tG (u2 (u2 S.1 18 1 0) 33 0 0, S.2.1, S.2.2.1, S.2.2.2)) := by
  rw [lfX10_row_0_26, bfX10_row_0_26, h, if_pos ((iN_le (by omega) (by omega)).mpr hn), show gfX8_clear_18 x S = some ((), (u2 S.1 18 1 0, S.2.1, S.2.2.1, S.2.2.2)) from rfl]
  dsimp only
  rw [toldAnew_g x _ _ (iN_nn (by omega))]
theorem row_loop (x : XT) (n : Nat) (hn : n ≤ 400) : ∀ (m k c f1 f2 : Nat) (S T : ST), k + m = n / 4 → m + 2 < f1 → m + 2 < f2 → c ≤ k → S.1 18 1 = iN n → (∀ i, i < 400 → inb (S.2.1 19 i) 256 = true ∧ T.2.1 137 i = (S.2.1 19 i).toInt8.toInt32) → RK x S 1 (T.2.1 132) → T.1 130 6 = S.1 0 15 + eN n → RowE x S T (lfX10_row_0_26 x f1 S (iN c) (iN (4 * k))) (lfX11_row_130_40 x f2 T (iN n) (iN c) (iN (4 * k)))
  | 0, k, c, f1, f2, S, T, hk, h1, h2, hc, hS, hb, hK, hF => by
    obtain ⟨f1, rfl⟩ : ∃ z, f1 = z + 2 := ⟨f1 - 2, by omega⟩
    obtain ⟨f2, rfl⟩ : ∃ z, f2 = z + 1 := ⟨f2 - 1, by omega⟩
    have hR : lfX11_row_130_40 x (f2 + 1) T (iN n) (iN c) (iN (4 * k)) = some (iN c, gG (u2 T.1 130 31 0, T.2.1, T.2.2.1, T.2.2.2)) := by
      rw [lfX11_row_130_40, bfX11_row_130_40, show iN (4 * k) + 4 = iN (4 * k + 4) from iN_add _ 4, if_pos ((iN_lt (by omega) (by omega)).mpr (by omega)), settled_eq]
    rw [hR]
    by_cases h4 : n % 4 = 0
    · rw [row_end x S n c (by omega) (f1 + 1) (4 * k) (by omega) (by omega) hS]
      exact ⟨S, T, c, rfl, rfl, Agr.rf, Agr.rf, hK, by rw [hF, eN, if_pos h4, Int32.add_zero]⟩
    · have hL : lfX10_row_0_26 x (f1 + 2) S (iN c) (iN (4 * k)) = lfX10_row_0_26 x (f1 + 1) (u2 S.1 0 15 (S.1 0 15 + 1), S.2.1, S.2.2.1, S.2.2.2) (iN c) (iN (4 * k + 4)) := by
        obtain ⟨G, hG, g1, -⟩ : ∃ G, G ≤ 10 ∧ S.1 1 0 = iN G ∧ T.2.1 132 91 = iN G := Rel.gates' hK
        rw [lfX10_row_0_26, bfX10_row_0_26, hS, if_neg (fun q => by have := (iN_le (by omega) (by omega)).mp q; omega), show iN (4 * k) + 1 = iN (4 * k + 1) from iN_add _ 1, show iN (4 * k) + 2 = iN (4 * k + 2) from iN_add _ 2, show iN (4 * k) + 3 = iN (4 * k + 3) from iN_add _ 3]
        simp only [byteAt_eq x S n _ hn (show 4 * k < 500 by omega) hS, byteAt_eq x S n _ hn (show 4 * k + 1 < 500 by omega) hS, byteAt_eq x S n _ hn (show 4 * k + 2 < 500 by omega) hS, byteAt_eq x S n _ hn (show 4 * k + 3 < 500 by omega) hS]
        rw [if_neg (show ¬ 4 * k + 3 < n by omega), addGate_eq x S _ _ _ _ G hG g1, if_neg (show ¬ (inb _ 6 && inb _ 6 && inb _ 8 && inb (-1) 10) = true by rw [show inb (-1) 10 = false from rfl, Bool.and_false]; decide)]
        dsimp only
        rw [if_neg (show ¬ (0 : Int32) ≤ -iN 1 by decide), bfX10_row_0_101, show iN (4 * k) + 4 = iN (4 * k + 4) from iN_add _ 4]
      have aS : Agr wRC S (u2 S.1 0 15 (S.1 0 15 + 1), S.2.1, S.2.2.1, S.2.2.2) := Agr.f Agr.rf 0 15 _ (by decide)
      rw [hL, row_end x _ n c (by omega) f1 (4 * k + 4) (by omega) (by omega) ((aS.1 18 1 (by decide)).trans hS)]
      refine ⟨_, T, c, rfl, rfl, aS, Agr.rf, hK.cg (Agr.sm (W := ([(0, 15)], [], [], [])) (Agr.f Agr.rf 0 15 _ (by decide)) (by decide)), ?_⟩
      rw [hF, eN, if_neg h4]
      exact u2_s S.1 0 15 _
  | m + 1, k, c, f1, f2, S, T, hk, h1, h2, hc, hS, hb, hK, hF => by
    obtain ⟨f1, rfl⟩ : ∃ z, f1 = z + 1 := ⟨f1 - 1, by omega⟩
    obtain ⟨f2, rfl⟩ : ∃ z, f2 = z + 1 := ⟨f2 - 1, by omega⟩
    obtain ⟨G, hG, g1, g2⟩ : ∃ G, G ≤ 10 ∧ S.1 1 0 = iN G ∧ T.2.1 132 91 = iN G := Rel.gates' hK
    have b0 := hb (4 * k) (by omega)
    have b1 := hb (4 * k + 1) (by omega)
    have b2 := hb (4 * k + 2) (by omega)
    have b3 := hb (4 * k + 3) (by omega)
    obtain ⟨a0, -, -, c0⟩ := sb b0
    obtain ⟨a1, -, -, c1⟩ := sb b1
    obtain ⟨-, a2, -, c2⟩ := sb b2
    obtain ⟨-, -, a3, c3⟩ := sb b3
    have i0 : inb (iN (4 * k)) 400 = true := inb_t (by omega) (by omega)
    have i1 : inb (iN (4 * k + 1)) 400 = true := inb_t (by omega) (by omega)
    have i2 : inb (iN (4 * k + 2)) 400 = true := inb_t (by omega) (by omega)
    have i3 : inb (iN (4 * k + 3)) 400 = true := inb_t (by omega) (by omega)
    generalize e0 : S.2.1 19 (4 * k) = p0 at *
    generalize e1 : S.2.1 19 (4 * k + 1) = p1 at *
    generalize e2 : S.2.1 19 (4 * k + 2) = p2 at *
    generalize e3 : S.2.1 19 (4 * k + 3) = p3 at *
    have hL : lfX10_row_0_26 x (f1 + 1) S (iN c) (iN (4 * k)) = if (inb p0 6 && inb p1 6 && inb p2 8 && inb p3 10) = true ∧ ¬ G = 10 then lfX10_row_0_26 x f1 (adG S G p0 p1 p2 p3) (iN (c + 1)) (iN (4 * (k + 1))) else lfX10_row_0_26 x f1 (u2 S.1 0 15 (S.1 0 15 + 1), S.2.1, S.2.2.1, S.2.2.2) (iN c) (iN (4 * (k + 1))) := by
      rw [lfX10_row_0_26, bfX10_row_0_26, hS, if_neg (fun q => by have := (iN_le (by omega) (by omega)).mp q; omega), show iN (4 * k) + 1 = iN (4 * k + 1) from iN_add _ 1, show iN (4 * k) + 2 = iN (4 * k + 2) from iN_add _ 2, show iN (4 * k) + 3 = iN (4 * k + 3) from iN_add _ 3]
      simp only [byteAt_eq x S n _ hn (show 4 * k < 500 by omega) hS, byteAt_eq x S n _ hn (show 4 * k + 1 < 500 by omega) hS, byteAt_eq x S n _ hn (show 4 * k + 2 < 500 by omega) hS, byteAt_eq x S n _ hn (show 4 * k + 3 < 500 by omega) hS]
      rw [if_pos (show 4 * k + 3 < n by omega), if_pos (show 4 * k + 2 < n by omega), if_pos (show 4 * k + 1 < n by omega), if_pos (show 4 * k < n by omega), e0, e1, e2, e3, addGate_eq x S _ _ _ _ G hG g1]
      unfold bfX10_row_0_101
      rw [show iN (4 * k) + 4 = iN (4 * (k + 1)) from iN_add _ 4]
      by_cases q1 : (inb p0 6 && inb p1 6 && inb p2 8 && inb p3 10) = true
      · rw [if_pos q1]
        by_cases q2 : G = 10
        · rw [if_pos q2, if_neg (show ¬ (_ ∧ ¬ G = 10) from fun q => q.2 q2)]
          dsimp only
          rw [if_neg (show ¬ (0 : Int32) ≤ -iN 5 by decide)]
        · rw [if_neg q2, if_pos (And.intro q1 q2)]
          dsimp only
          rw [if_pos (show (0 : Int32) ≤ iN G from Int32.not_lt.mp (iN_nn (by omega))), iN_succ]
      · rw [if_neg q1, if_neg (show ¬ (_ ∧ ¬ G = 10) from fun q => q1 q.1)]
        dsimp only
        rw [if_neg (show ¬ (0 : Int32) ≤ -iN 1 by decide)]
    have hR : lfX11_row_130_40 x (f2 + 1) T (iN n) (iN c) (iN (4 * k)) = if (inb p0 6 && inb p1 6 && inb p2 8 && inb p3 10) = true ∧ ¬ G = 10 then lfX11_row_130_40 x f2 (u2 T.1 130 6 (T.1 130 6 + 0), (wA T 132 (adR (T.2.1 132) G p0 p1 p2 p3)).2.1, T.2.2.1, T.2.2.2) (iN n) (iN (c + 1)) (iN (4 * (k + 1))) else lfX11_row_130_40 x f2 (u2 T.1 130 6 (T.1 130 6 + 1), T.2.1, T.2.2.1, T.2.2.2) (iN n) (iN c + 0) (iN (4 * (k + 1))) := by
      rw [lfX11_row_130_40, bfX11_row_130_40, show iN (4 * k) + 4 = iN (4 * (k + 1)) from iN_add _ 4, if_neg (fun q => by have := (iN_lt (by omega) (by omega)).mp q; omega), gateMany_eq]
      dsimp only
      rw [g2]
      unfold bfX11_row_130_96 bfX11_row_130_97 bfX11_row_130_138 bfX11_row_130_149 bfX11_row_130_166
      rw [show iN (4 * k) + 4 = iN (4 * (k + 1)) from iN_add _ 4]
      by_cases q2 : G = 10
      · rw [if_neg (show ¬ (_ ∧ ¬ G = 10) from fun q => q.2 q2), if_pos (show (10 : Int32) ≤ iN G by rw [q2]; decide), if_pos rfl, if_pos rfl, if_pos rfl]
      · rw [if_neg (show ¬ (10 : Int32) ≤ iN G from fun q => by have := (iN_le (m := 10) (by omega) (by omega)).mp q; omega), show iN (4 * k) + 1 = iN (4 * k + 1) from iN_add _ 1, show iN (4 * k) + 2 = iN (4 * k + 2) from iN_add _ 2, show iN (4 * k) + 3 = iN (4 * k + 3) from iN_add _ 3, i0, i1, i2, i3, iN_nat (by omega), iN_nat (by omega), iN_nat (by omega), iN_nat (by omega)]
        simp only [cond_true]
        rw [canGate_eq, a0, a1, a2, a3]
        dsimp only
        by_cases q1 : (inb p0 6 && inb p1 6 && inb p2 8 && inb p3 10) = true
        · rw [if_pos (And.intro q1 q2), q1, if_neg (show ¬ bz true = 0 by decide), if_neg (show ¬ (1 : Int32) = 0 by decide)]
          simp only [Bool.and_eq_true] at q1
          obtain ⟨⟨⟨r0, r1⟩, r2⟩, r3⟩ := q1
          rw [c0 (inb_up r0 (by omega) (by omega)), c1 (inb_up r1 (by omega) (by omega)), c2 (inb_up r2 (by omega) (by omega)), c3 r3, adds_eq x T _ _ _ _ G (by omega) g2]
          dsimp only
          rw [if_neg (show ¬ (1 : Int32) = 0 by decide), if_neg (show ¬ (1 : Int32) = 0 by decide), iN_succ]
          rfl
        · rw [if_neg (show ¬ (_ ∧ ¬ G = 10) from fun q => q1 q.1), Bool.eq_false_iff.mpr q1, if_pos (show bz false = 0 by decide), if_pos trivial, if_pos trivial, if_pos trivial]
    rw [hL, hR]
    by_cases q : (inb p0 6 && inb p1 6 && inb p2 8 && inb p3 10) = true ∧ ¬ G = 10
    · rw [if_pos q, if_pos q]
      obtain ⟨q1, q2⟩ := q
      simp only [Bool.and_eq_true] at q1
      obtain ⟨⟨⟨r0, r1⟩, r2⟩, r3⟩ := q1
      have aS := (adG_agr S G p0 p1 p2 p3).sub (W := wRC) (by decide)
      have aT : Agr wRR T (u2 T.1 130 6 (T.1 130 6 + 0), (wA T 132 (adR (T.2.1 132) G p0 p1 p2 p3)).2.1, T.2.2.1, T.2.2.2) := Agr.f (S1 := wA T 132 (adR (T.2.1 132) G p0 p1 p2 p3)) (Agr.ic Agr.rf 132 _ (by decide)) 130 6 _ (by decide)
      have hK2 : RK x (adG S G p0 p1 p2 p3) 1 ((wA T 132 (adR (T.2.1 132) G p0 p1 p2 p3)).2.1 132) := by rw [wA_s]; exact hK.addG (by omega) r0 r1 r2 r3
      have z15 : (adG S G p0 p1 p2 p3).1 0 15 = S.1 0 15 := ((adG_agr S G p0 p1 p2 p3).1 0 15 (by decide))
      obtain ⟨S', T', c', w1, w2, w3, w4, w5, w6⟩ := row_loop x n hn m (k + 1) (c + 1) f1 f2 (adG S G p0 p1 p2 p3) (u2 T.1 130 6 (T.1 130 6 + 0), (wA T 132 (adR (T.2.1 132) G p0 p1 p2 p3)).2.1, T.2.2.1, T.2.2.2) (by omega) (by omega) (by omega) (by omega) ((aS.1 18 1 (by decide)).trans hS) (fun i hi => by rw [aS.2.1 19 (by decide), aT.2.1 137 (by decide)]; exact hb i hi) hK2 ((u2_s T.1 130 6 _).trans (by rw [Int32.add_zero, z15]; exact hF))
      exact ⟨S', T', c', w1, w2, aS.tr w3, aT.tr w4, w5, w6⟩
    · rw [if_neg q, if_neg q, Int32.add_zero]
      have aS : Agr wRC S (u2 S.1 0 15 (S.1 0 15 + 1), S.2.1, S.2.2.1, S.2.2.2) := Agr.f Agr.rf 0 15 _ (by decide)
      have aT : Agr wRR T (u2 T.1 130 6 (T.1 130 6 + 1), T.2.1, T.2.2.1, T.2.2.2) := Agr.f Agr.rf 130 6 _ (by decide)
      have v1 : (u2 S.1 0 15 (S.1 0 15 + 1)) 0 15 = S.1 0 15 + 1 := u2_s _ _ _ _
      have v2 : (u2 T.1 130 6 (T.1 130 6 + 1)) 130 6 = T.1 130 6 + 1 := u2_s _ _ _ _
      obtain ⟨S', T', c', w1, w2, w3, w4, w5, w6⟩ := row_loop x n hn m (k + 1) c f1 f2 (u2 S.1 0 15 (S.1 0 15 + 1), S.2.1, S.2.2.1, S.2.2.2) (u2 T.1 130 6 (T.1 130 6 + 1), T.2.1, T.2.2.1, T.2.2.2) (by omega) (by omega) (by omega) (by omega) ((aS.1 18 1 (by decide)).trans hS) hb (hK.cg (Agr.sm (W := ([(0, 15)], [], [], [])) (Agr.f Agr.rf 0 15 _ (by decide)) (by decide))) (v2.trans (by rw [hF]; dsimp only; rw [v1, Int32.add_assoc, Int32.add_assoc, Int32.add_comm 1]))
      exact ⟨S', T', c', w1, w2, aS.tr w3, aT.tr w4, w5, w6⟩
theorem c_row (x : XT) (S T : ST) (h : Rel x S T) : Call x S T (gfX10_row_0 x S) (gfX11_row_130 x T) := by
  obtain ⟨⟨n, hn, t1, t2⟩, tb⟩ := h.2.2.1
  have h0 := h.tape 0 (by omega)
  unfold gfX10_row_0 bfX10_row_0_0 gfX11_row_130 bfX11_row_130_0
  rw [t1, t2]
  by_cases hz : n = 0
  · subst hz
    rw [if_neg (show ¬ ¬ iN 0 = 0 from fun q => q rfl), if_neg (show ¬ ¬ iN 0 = 0 from fun q => q rfl), neg_6, told_r x S 6 (by omega) (by omega), refuses_eq x _ 6 (by omega) (by omega)]
    refine ⟨_, _, _, rfl, rfl, Rel.ref ?_ 6 (by omega)⟩
    refine h.cg (Agr.sm (W := ([], [], [], [])) Agr.rf (by decide)) ?_
    have e : u2 T.1 130 13 0 = T.1 := by
      funext a k
      by_cases q : a = 130 ∧ k = 13
      · rw [q.1, q.2, u2_s, t2]; rfl
      · by_cases q2 : a = 130
        · rw [q2, u2_k _ _ _ (fun e => q ⟨q2, e⟩)]
        · rw [u2_n _ _ _ _ q2]
    rw [e]
    exact (Agr.sm (W := ([], [], [], [])) Agr.rf (by decide))
  · have hnz : ¬ iN n = 0 := fun q => hz ((iN_eq (n := 0) (by omega) (by omega)).mp q)
    have aS : Agr ([(0, 15)], [], [], []) S (u2 S.1 0 15 0, S.2.1, S.2.2.1, S.2.2.2) := Agr.f Agr.rf 0 15 _ (by decide)
    have aT : Agr ([(130, 6), (130, 13)], [], [], []) T (u2 (u2 T.1 130 13 0) 130 6 (eN n), T.2.1, T.2.2.1, T.2.2.2) := Agr.f (S1 := (u2 T.1 130 13 0, T.2.1, T.2.2.1, T.2.2.2)) (Agr.f Agr.rf 130 13 _ (by decide)) 130 6 _ (by decide)
    have v1 : (u2 S.1 0 15 0) 0 15 = 0 := u2_s _ _ _ _
    have v2 : (u2 (u2 T.1 130 13 0) 130 6 (eN n)) 130 6 = eN n := u2_s _ _ _ _
    obtain ⟨S', T', c, r1, r2, r3, r4, r5, r6⟩ := row_loop x n hn (n / 4) 0 0 20000 20000 (u2 S.1 0 15 0, S.2.1, S.2.2.1, S.2.2.2) (u2 (u2 T.1 130 13 0) 130 6 (eN n), T.2.1, T.2.2.1, T.2.2.2) (by omega) (by omega) (by omega) (by omega) ((aS.1 18 1 (by decide)).trans t1) tb (h.1.cg (aS.sm (by decide))) (v2.trans (by dsimp only; rw [v1, Int32.zero_add]))
    rw [Nat.mul_zero, show iN 0 = 0 from rfl] at r1 r2
    have hR : (if ¬ (iN n - iN n / 4 * 4) = 0 then (bfX11_row_130_35 x ((u2 T.1 130 13 0), T.2.1, T.2.2.1, T.2.2.2) (iN n) 0 1) else (bfX11_row_130_35 x ((u2 T.1 130 13 0), T.2.1, T.2.2.1, T.2.2.2) (iN n) 0 0)) = some (iN c, gG (u2 T'.1 130 31 0, T'.2.1, T'.2.2.1, T'.2.2.2)) := by
      rw [← r2, show iN n - iN n / 4 * 4 = iN (n % 4) from iN_mod (n := 4) (by omega) (by omega)]
      unfold bfX11_row_130_35 eN
      by_cases h4 : n % 4 = 0
      · rw [if_pos h4, h4, if_neg (show ¬ ¬ iN 0 = 0 from fun q => q rfl)]
      · rw [if_neg h4, if_pos (show ¬ iN (n % 4) = 0 from fun q => h4 ((iN_eq (n := 0) (by omega) (by omega)).mp q))]
    rw [if_pos hnz, if_pos hnz, hR, r1]
    refine ⟨_, _, _, rfl, rfl, ?_⟩
    obtain ⟨h1, h2, h3, h4, h5, h6, h7, h8⟩ := h
    have bS : Agr ([(1, 0), (0, 15), (18, 1), (33, 0)], [2, 3, 4, 5, 6], [], []) S (u2 (u2 S'.1 18 1 0) 33 0 0, S'.2.1, S'.2.2.1, S'.2.2.2) := Agr.f (S1 := (u2 S'.1 18 1 0, S'.2.1, S'.2.2.1, S'.2.2.2)) (Agr.f ((aS.sub (by decide)).tr (r3.sub (by decide))) 18 1 0 (by decide)) 33 0 0 (by decide)
    have bT : Agr ([(130, 6), (130, 13), (130, 31)], [132], [], []) T (u2 T'.1 130 31 0, T'.2.1, T'.2.2.1, T'.2.2.2) := Agr.f ((aT.sub (by decide)).tr (r4.sub (by decide))) 130 31 0 (by decide)
    have w13 : T'.1 130 13 = 0 := by
      rw [r4.1 130 13 (by decide)]
      dsimp only
      rw [u2_k _ _ _ (by decide), u2_s]
    have x15 : (u2 (u2 S'.1 18 1 0) 33 0 0) 0 15 = S'.1 0 15 := by rw [u2_n _ _ _ _ (by decide), u2_n _ _ _ _ (by decide)]
    have x18 : (u2 (u2 S'.1 18 1 0) 33 0 0) 18 1 = 0 := by rw [u2_n _ _ _ _ (by decide), u2_s]
    have x33 : (u2 (u2 S'.1 18 1 0) 33 0 0) 33 0 = 0 := by rw [u2_s]
    have y6 : (u2 T'.1 130 31 0) 130 6 = T'.1 130 6 := by rw [u2_k _ _ _ (by decide)]
    have y13 : (u2 T'.1 130 31 0) 130 13 = T'.1 130 13 := by rw [u2_k _ _ _ (by decide)]
    have y31 : (u2 T'.1 130 31 0) 130 31 = 0 := by rw [u2_s]
    have k2 : RK x (u2 (u2 S'.1 18 1 0) 33 0 0, S'.2.1, S'.2.2.1, S'.2.2.2) 1 (T'.2.1 132) := r5.cg (Agr.sm (W := ([(18, 1), (33, 0)], [], [], [])) (Agr.f (S1 := (u2 S'.1 18 1 0, S'.2.1, S'.2.2.1, S'.2.2.2)) (Agr.f Agr.rf 18 1 0 (by decide)) 33 0 0 (by decide)) (by decide))
    apply Rel.good
    refine ⟨k2, h2.cg (bS.sm (by decide)) (bS.sm (by decide)) (bS.2.1 17 (by decide)) (bT.2.1 133 (by decide)) (bT.2.1 134 (by decide)) (bS.2.2.2 16 (by decide)), ⟨⟨0, by omega, x18, y13.trans w13⟩, fun i hi => ?_⟩, ?_, ?_, ⟨0, by omega, x33, y31, fun k hk => by omega⟩, ?_, ?_⟩
    · rw [bS.2.1 19 (by decide), bT.2.1 137 (by decide)]; exact tb i hi
    · unfold RelS; rw [bS.2.1 99 (by decide), bS.1 0 12 (by decide), bT.2.1 131 (by decide), bT.1 130 0 (by decide)]; exact h4
    · unfold RelM; rw [bS.1 0 13 (by decide), bS.1 0 14 (by decide), bT.1 130 14 (by decide), bT.1 130 43 (by decide)]; exact ⟨h5.1, h5.2.1, x15.trans (r6.trans y6.symm)⟩
    · unfold RelD; rw [bS.1 84 6 (by decide), bS.2.1 90 (by decide), bS.2.1 91 (by decide), bS.2.1 93 (by decide), bT.1 130 51 (by decide), bT.2.1 157 (by decide)]; exact h7
    · unfold RelC; rw [bT.2.1 136 (by decide)]; exact h8
end ROW
