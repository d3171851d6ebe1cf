section CALLS1
/-! calls that only read -/
theorem add_iN (m k : Nat) : (OfNat.ofNat m : Int32) + iN k = iN (m + k) := iN_add m k
theorem c_status (x : XT) (S T : ST) (h : Rel x S T) : Call x S T (gfX10_status_0 x S) (gfX11_status_130 x T) := by
  refine ⟨_, S, T, rfl, ?_, h⟩
  unfold gfX11_status_130 bfX11_status_130_0
  rw [← h.2.2.2.1.2]
theorem c_rust (x : XT) (S T : ST) (h : Rel x S T) : Call x S T (gfX10_rust_0 x S) (gfX11_rust_130 x T) := by
  refine ⟨_, S, T, rfl, ?_, h⟩
  unfold gfX11_rust_130 bfX11_rust_130_0
  rw [← h.2.2.2.2.1.2.2]
theorem c_fault (x : XT) (S T : ST) (h : Rel x S T) : Call x S T (gfX10_fault_0 x S) (gfX11_fault_130 x T) := by
  refine ⟨_, S, T, rfl, ?_, h⟩
  unfold gfX11_fault_130 bfX11_fault_130_0
  rw [← h.2.2.2.2.1.1]
theorem c_stopped (x : XT) (S T : ST) (h : Rel x S T) : Call x S T (gfX10_stopped_0 x S) (gfX11_stopped_130 x T) := by
  refine ⟨_, S, T, rfl, ?_, h⟩
  unfold gfX11_stopped_130 bfX11_stopped_130_0
  rw [← h.2.2.2.2.1.2.1]
theorem c_at (x : XT) (S T : ST) (h : Rel x S T) (a w : Int32) : Call x S T (gfX10_at_0 x S a w) (gfX11_at_130 x T a w) := by
  obtain ⟨G, hG, e1, e2⟩ := h.gates
  unfold gfX10_at_0 bfX10_at_0_0 bfX10_at_0_105 gfX11_at_130 bfX11_at_130_0
  rw [hasGate_eq1 x S a G (by omega) e1, isGate_eq x T a G (by omega) e2]
  dsimp only
  cases hb : inb a G with
  | false => exact ⟨-1, S, T, by rw [if_neg (by decide)], by rw [if_neg (by decide)], h⟩
  | true =>
    obtain ⟨g, hg, rfl⟩ := inb_ex hb
    have bt : ¬ bz true = 0 := by decide
    rw [if_pos bt, if_pos bt]
    obtain ⟨k1, k2, k3, k4, k5⟩ := h.1.1.2.2.2.2.2.1 g (by omega)
    have i10 : inb (iN g) 10 = true := inb_t (by omega) (by omega)
    have n0 : (iN g).toNatClampNeg = g := iN_nat (by omega)
    simp only [show (36 : Int32) + iN g = iN (36 + g) from iN_add 36 g, show (46 : Int32) + iN g = iN (46 + g) from iN_add 46 g, show (56 : Int32) + iN g = iN (56 + g) from iN_add 56 g, show (15 : Int32) + iN g = iN (15 + g) from iN_add 15 g, show (25 : Int32) + iN g = iN (25 + g) from iN_add 25 g, inb_t (show 36 + g < 5703 by omega) (by omega), inb_t (show 46 + g < 5703 by omega) (by omega), inb_t (show 56 + g < 5703 by omega) (by omega), inb_t (show 15 + g < 5703 by omega) (by omega), inb_t (show 25 + g < 5703 by omega) (by omega), i10, n0, iN_nat (show 36 + g < 2147483648 by omega), iN_nat (show 46 + g < 2147483648 by omega), iN_nat (show 56 + g < 2147483648 by omega), iN_nat (show 15 + g < 2147483648 by omega), iN_nat (show 25 + g < 2147483648 by omega), cond_true]
    by_cases w0 : w = 0
    · rw [if_pos w0, if_pos w0]; exact ⟨_, S, T, rfl, by rw [← k1], h⟩
    · rw [if_neg w0, if_neg w0]
      by_cases w1 : w = 1
      · rw [if_pos w1, if_pos w1]; exact ⟨_, S, T, rfl, by rw [← k2], h⟩
      · rw [if_neg w1, if_neg w1]
        by_cases w2 : w = 2
        · rw [if_pos w2, if_pos w2]; exact ⟨_, S, T, rfl, by rw [← k3], h⟩
        · rw [if_neg w2, if_neg w2]
          by_cases w3 : w = 3
          · rw [if_pos w3, if_pos w3]; exact ⟨_, S, T, rfl, by rw [← k4], h⟩
          · rw [if_neg w3, if_neg w3]
            by_cases w4 : w = 4
            · rw [if_pos w4, if_pos w4]
              obtain ⟨z, hz, ez⟩ := inb_ex (h.1.2.1.1.2.1 g (by omega)).2
              have k5 : S.2.1 6 g = T.2.1 132 (25 + g) := k5
              rw [k5, ez]
              rcases (show z = 0 ∨ z = 1 by omega) with rfl | rfl
              · rw [if_pos (show iN 0 = 0 from rfl)]; exact ⟨0, S, T, rfl, rfl, h⟩
              · rw [if_neg (show ¬ iN 1 = 0 by decide)]; exact ⟨1, S, T, rfl, rfl, h⟩
            · rw [if_neg w4, if_neg w4]; exact ⟨-1, S, T, rfl, rfl, h⟩
theorem c_drawn (x : XT) (S T : ST) (h : Rel x S T) (a w : Int32) : Call x S T (gfX10_drawn_0 x S a w) (gfX11_drawn_130 x T a w) := by
  have key : ∃ n, n ≤ 5 ∧ S.1 84 6 = iN n ∧ gfX11_lies x T a 0 (T.1 130 51 - 1) = some (bz (inb a n), T) ∧ ∀ p, p < n → S.2.1 90 p = T.2.1 157 p ∧ S.2.1 91 p = T.2.1 157 (5 + p) ∧ S.2.1 93 p = T.2.1 157 (10 + p) := by
    rcases h.2.2.2.2.2.2.1 with ⟨e1, e2⟩ | ⟨n, hn, e1, e2, e3⟩
    · refine ⟨0, by omega, e1, ?_, fun p hp => by omega⟩
      rw [e2]
      have hi : inb a 0 = false := by
        cases hb : inb a 0 with
        | false => rfl
        | true => have := (inb_is hb).2; omega
      rw [hi]
      unfold gfX11_lies bfX11_lies_0 bfX11_lies_14 bfX11_lies_15
      simp only [show bbz 0 = true from rfl, show bbz 1 = true from rfl, cond_true]
      by_cases ha : a < 0
      · rw [if_pos ha]; rfl
      · rw [if_neg ha, if_pos]
        · rfl
        · have := Int32.le_iff_toInt_le.mp (Int32.not_lt.mp ha)
          rw [Int32.lt_iff_toInt_lt, show ((-1 : Int32) - 1).toInt = -2 from rfl]
          rw [show (0 : Int32).toInt = 0 from rfl] at this
          omega
    · refine ⟨n, hn, e1, ?_, fun p hp => e3 p (by omega)⟩
      rw [e2]
      exact lies_eq x T a n (by omega)
  obtain ⟨n, hn, e1, e2, e3⟩ := key
  unfold gfX10_drawn_0 bfX10_drawn_0_0 gfX2_behind_83 bfX2_behind_83_0 gfX11_drawn_130 bfX11_drawn_130_0 bfX11_drawn_130_23 bfX11_drawn_130_48
  rw [hasGoer_eq84 x S a n (by omega) e1, e2, show (2 : Int32) = iN 3 - 1 from rfl]
  simp only [lies_eq x T w 3 (by omega)]
  cases hb : inb a n with
  | false => exact ⟨-1, S, T, rfl, rfl, h⟩
  | true =>
    obtain ⟨g, hg, rfl⟩ := inb_ex hb
    obtain ⟨k1, k2, k3⟩ := e3 g hg
    simp only [show ¬ bz true = 0 by decide, not_false_eq_true, if_true, if_false, show (0 : Int32) + iN g = iN (0 + g) from iN_add 0 g, show (5 : Int32) + iN g = iN (5 + g) from iN_add 5 g, show (10 : Int32) + iN g = iN (10 + g) from iN_add 10 g, inb_t (show g < 5 by omega) (by omega), inb_t (show g < 36 by omega) (by omega), inb_t (show 5 + g < 36 by omega) (by omega), inb_t (show 10 + g < 36 by omega) (by omega), cond_true, iN_nat (show g < 2147483648 by omega), iN_nat (show 0 + g < 2147483648 by omega), iN_nat (show 5 + g < 2147483648 by omega), iN_nat (show 10 + g < 2147483648 by omega), Nat.zero_add, k1, k2, k3]
    cases hw : inb w 3 with
    | true =>
      obtain ⟨z, hz, rfl⟩ := inb_ex hw
      rcases (show z = 0 ∨ z = 1 ∨ z = 2 by omega) with rfl | rfl | rfl
      · exact ⟨_, S, T, rfl, rfl, h⟩
      · exact ⟨_, S, T, rfl, rfl, h⟩
      · exact ⟨_, S, T, rfl, rfl, h⟩
    | false =>
      have n0 : ¬ w = 0 := fun e => by rw [e] at hw; exact absurd hw (by decide)
      have n1 : ¬ w = 1 := fun e => by rw [e] at hw; exact absurd hw (by decide)
      have n2 : ¬ w = iN 3 - 1 := fun e => by rw [e] at hw; exact absurd hw (by decide)
      simp only [n0, n1, n2, if_false]
      exact ⟨-1, S, T, rfl, rfl, h⟩
/-! sums over the GOERS -/
theorem allMany_loop (x : XT) (S T : ST) (h : Rel x S T) (P : Nat) (hP : P ≤ 5) (e1 : S.1 1 6 = iN P) (e2 : T.2.1 132 92 = iN P) : ∀ (m k fuel : Nat) (s : Int32), k + m = P → m < fuel → ∃ r, lfX7_allMany_1_4 x fuel S s (iN k) = some (r, S) ∧ lfX11_allMany_130_4 x fuel T s (iN k) = some (r, T)
  | 0, k, fuel, s, hk, hf => by
    obtain ⟨fuel, rfl⟩ : ∃ z, fuel = z + 1 := ⟨fuel - 1, by omega⟩
    refine ⟨s, ?_, ?_⟩
    · show bfX7_allMany_1_4 x (lfX7_allMany_1_4 x fuel) S s (iN k) = _
      unfold bfX7_allMany_1_4
      rw [e1, if_pos ((iN_le (by omega) (by omega)).mpr (by omega))]
    · show bfX11_allMany_130_4 x (lfX11_allMany_130_4 x fuel) T s (iN k) = _
      unfold bfX11_allMany_130_4
      rw [e2, if_pos ((iN_le (by omega) (by omega)).mpr (by omega))]
  | m + 1, k, fuel, s, hk, hf => by
    obtain ⟨fuel, rfl⟩ : ∃ z, fuel = z + 1 := ⟨fuel - 1, by omega⟩
    have hc := (h.1.1.2.2.2.2.2.2.1 k (by omega)).2.1
    have hc : S.2.1 8 k = T.2.1 132 (5 + k) := hc
    obtain ⟨r, q1, q2⟩ := allMany_loop x S T h P hP e1 e2 m (k + 1) fuel (s + T.2.1 132 (5 + k)) (by omega) (by omega)
    refine ⟨r, ?_, ?_⟩
    · show bfX7_allMany_1_4 x (lfX7_allMany_1_4 x fuel) S s (iN k) = _
      unfold bfX7_allMany_1_4
      rw [e1, if_neg (fun h => by have := (iN_le (by omega) (by omega)).mp h; omega), inb_t (show k < 5 by omega) (by omega), cond_true, iN_nat (by omega), iN_succ, hc]
      exact q1
    · show bfX11_allMany_130_4 x (lfX11_allMany_130_4 x fuel) T s (iN k) = _
      unfold bfX11_allMany_130_4
      rw [e2, if_neg (fun h => by have := (iN_le (by omega) (by omega)).mp h; omega), show (5 : Int32) + iN k = iN (5 + k) from iN_add 5 k, inb_t (show 5 + k < 5703 by omega) (by omega), cond_true, iN_nat (by omega), iN_succ]
      exact q2
theorem c_count (x : XT) (S T : ST) (h : Rel x S T) (w : Int32) : Call x S T (gfX10_count_0 x S w) (gfX11_count_130 x T w) := by
  obtain ⟨P, hP, e1, e2⟩ := h.goers
  obtain ⟨r, q1, q2⟩ := allMany_loop x S T h P hP e1 e2 P 0 20000 0 (by omega) (by omega)
  have q3 : gfX7_allMany_1 x S = some (r, S) := by
    unfold gfX7_allMany_1 bfX7_allMany_1_0
    rw [show (0 : Int32) = iN 0 from rfl] at q1 ⊢
    exact q1
  have q4 : gfX11_allMany_130 x T = some (r, T) := by
    unfold gfX11_allMany_130 bfX11_allMany_130_0
    rw [show (0 : Int32) = iN 0 from rfl] at q2 ⊢
    exact q2
  obtain ⟨n, hn, u1, u2, -⟩ := h.2.2.2.2.2.1
  obtain ⟨⟨nt, hnt, t1, t2⟩, -⟩ := h.2.2.1
  obtain ⟨ka0, ka1, ka2, ka3, ka4, -, -, -, kt0, kt1, kt2⟩ := h.1.1
  have r1 := h.2.2.2.1.1 1 (by omega)
  have r2 := h.2.2.2.1.1 2 (by omega)
  have r3 := h.2.2.2.1.1 3 (by omega)
  have r5 := h.2.2.2.1.1 5 (by omega)
  have r6 := h.2.2.2.1.1 6 (by omega)
  have kt0 : S.2.1 14 0 = T.2.1 132 35 := kt0
  have kt1 : S.2.1 14 1 = T.2.1 132 89 := kt1
  have kt2 : S.2.1 14 2 = T.2.1 132 90 := kt2
  unfold gfX10_count_0 bfX10_count_0_0 gfX11_count_130 bfX11_count_130_0 gfX11_termAt bfX11_termAt_0 bfX11_termAt_21
  rw [q3, q4, gateMany_eq, u1, u2, t1, t2, ka0, ka1, ka2, ka3, ka4, kt0, kt1, kt2, r1, r2, r3, r5, r6]
  have fin : ∀ v : Int32, ∃ r S' T', (some (v, S) : Option (Int32 × ST)) = some (r, S') ∧ (some (v, T) : Option (Int32 × ST)) = some (r, T') ∧ Rel x S' T' := fun v => ⟨v, S, T, rfl, rfl, h⟩
  by_cases w0 : w = 0
  · subst w0; exact fin _
  by_cases w1 : w = 1
  · subst w1; exact fin _
  by_cases w2 : w = 2
  · subst w2; exact fin _
  by_cases w3 : w = 3
  · subst w3; exact fin _
  by_cases w4 : w = 4
  · subst w4; exact fin _
  by_cases w5 : w = 5
  · subst w5; exact fin _
  by_cases w6 : w = 6
  · subst w6; exact fin _
  by_cases w7 : w = 7
  · subst w7; exact fin _
  by_cases w8 : w = 8
  · subst w8; exact fin _
  by_cases w9 : w = 9
  · subst w9; exact fin _
  by_cases w10 : w = 10
  · subst w10; exact fin _
  by_cases w11 : w = 11
  · subst w11; exact fin _
  by_cases w12 : w = 12
  · subst w12; exact fin _
  by_cases w13 : w = 13
  · subst w13; exact fin _
  by_cases w14 : w = 14
  · subst w14; exact fin _
  by_cases w15 : w = 15
  · subst w15; exact fin _
  simp only [w0, w1, w2, w3, w4, w5, w6, w7, w8, w9, w10, w11, w12, w13, w14, w15, if_false]
  exact fin _
end CALLS1
