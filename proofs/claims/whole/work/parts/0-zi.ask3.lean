section ASK3
/-- asks of both, and the same relation behind it -/
theorem canBits_loop (x : XT) (p : Nat) (hp : p < 5) (G : Nat) (hG : G ≤ 10) : ∀ (m k fuel : Nat) (S T : ST) (s : Int32), Rel x S T → S.1 1 0 = iN G → T.2.1 132 91 = iN G → k + m = G → m < fuel → ∃ r S' T', lfX0_canBits_20_1_5 x fuel S (iN p) s (iN k) = some (r, S') ∧ lfX11_gatesOf_130_4 x fuel T (iN p) s (iN k) = some (r, T') ∧ Rel x S' T'
  | 0, k, fuel, S, T, s, h, g1, g2, hk, hf => by
    obtain ⟨fuel, rfl⟩ : ∃ z, fuel = z + 1 := ⟨fuel - 1, by omega⟩
    refine ⟨s, S, T, ?_, ?_, h⟩
    · rw [lfX0_canBits_20_1_5, bfX0_canBits_20_1_5, g1, if_pos ((iN_le (by omega) (by omega)).mpr (by omega))]
    · rw [lfX11_gatesOf_130_4, bfX11_gatesOf_130_4, gateMany_eq]
      dsimp only
      rw [g2, if_pos ((iN_le (by omega) (by omega)).mpr (by omega))]
  | m + 1, k, fuel, S, T, s, h, g1, g2, hk, hf => by
    obtain ⟨fuel, rfl⟩ : ∃ z, fuel = z + 1 := ⟨fuel - 1, by omega⟩
    obtain ⟨R, hR⟩ := h.1.lr
    obtain ⟨r, S1, T1, e1, e2, e3⟩ := can1 x S T h.1 R hR p k hp (by omega)
    have f1 := frX0_can_20_1 x S _ _ _ _ e1
    have f2 := frX11_canGo_130 x T _ _ _ _ e2
    have h1 : Rel x S1 T1 := h.scr f1 (by decide) f2 (by decide)
    have g1' : S1.1 1 0 = iN G := (f1.1 1 0 (by decide)).trans g1
    have g2' : T1.2.1 132 91 = iN G := by rw [f2.2.1 132 (by decide)]; exact g2
    have go : ∀ s', ∃ r S' T', lfX0_canBits_20_1_5 x fuel S1 (iN p) s' (iN (k + 1)) = some (r, S') ∧ lfX11_gatesOf_130_4 x fuel T1 (iN p) s' (iN (k + 1)) = some (r, T') ∧ Rel x S' T' := fun s' => canBits_loop x p hp G hG m (k + 1) fuel S1 T1 s' h1 g1' g2' (by omega) (by omega)
    rw [lfX0_canBits_20_1_5, bfX0_canBits_20_1_5, lfX11_gatesOf_130_4, bfX11_gatesOf_130_4, gateMany_eq]
    dsimp only
    rw [g1, g2, if_neg (fun hh => by have := (iN_le (by omega) (by omega)).mp hh; omega), if_neg (fun hh => by have := (iN_le (by omega) (by omega)).mp hh; omega), e1, e2]
    unfold bfX0_canBits_20_1_32 bfX11_gatesOf_130_29
    rw [iN_succ]
    dsimp only
    rcases e3 with rfl | rfl
    · rw [if_pos rfl, if_pos rfl, Int32.or_zero]
      exact go s
    · rw [if_neg (by decide), if_neg (by decide)]
      exact go _
theorem c_of (x : XT) (S T : ST) (h : Rel x S T) (a w : Int32) : Call x S T (gfX10_of_0 x S a w) (gfX11_of_130 x T a w) := by
  obtain ⟨P, hP, p1, p2⟩ := h.goers
  obtain ⟨G, hG, g1, g2⟩ := h.gates
  unfold gfX10_of_0 bfX10_of_0_0 gfX11_of_130 bfX11_of_130_0
  rw [hasGoer_eq1 x S a P (by omega) p1, isGoer_eq x T a P (by omega) p2]
  dsimp only
  cases hb : inb a P with
  | false => exact ⟨-1, S, T, by rw [if_neg (by decide)], by rw [if_neg (by decide)], h⟩
  | true =>
    obtain ⟨p, hp, rfl⟩ := inb_ex hb
    have bt : ¬ bz true = 0 := by decide
    rw [if_pos bt, if_pos bt]
    obtain ⟨k1, k2, k3, k4⟩ := h.1.1.2.2.2.2.2.2.1 p (by omega)
    simp only [show (0 : Int32) + iN p = iN (0 + p) from iN_add 0 p, Nat.zero_add, show (5 : Int32) + iN p = iN (5 + p) from iN_add 5 p, show (66 : Int32) + iN p = iN (66 + p) from iN_add 66 p, show (10 : Int32) + iN p = iN (10 + p) from iN_add 10 p, inb_t (show p < 5703 by omega) (by omega), inb_t (show p < 5 by omega) (by omega), inb_t (show 5 + p < 5703 by omega) (by omega), inb_t (show 66 + p < 5703 by omega) (by omega), inb_t (show 10 + p < 5703 by omega) (by omega), iN_nat (show p < 2147483648 by omega), iN_nat (show 5 + p < 2147483648 by omega), iN_nat (show 66 + p < 2147483648 by omega), iN_nat (show 10 + p < 2147483648 by omega), cond_true]
    by_cases w0 : w = 0
    · rw [if_pos w0, if_pos w0]; exact ⟨_, S, T, rfl, by rw [← k1], h⟩
    · rw [if_neg w0, if_neg w0]
      by_cases w1 : w = 1
      · rw [if_pos w1, if_pos w1]; exact ⟨_, S, T, rfl, by rw [← k2], h⟩
      · rw [if_neg w1, if_neg w1]
        by_cases w2 : w = 2
        · rw [if_pos w2, if_pos w2]; exact ⟨_, S, T, rfl, by rw [← k3], h⟩
        · rw [if_neg w2, if_neg w2]
          by_cases w3 : w = 3
          · rw [if_pos w3, if_pos w3]; exact ⟨_, S, T, rfl, by rw [← k4], h⟩
          · rw [if_neg w3, if_neg w3]
            by_cases w4 : w = 4
            · rw [if_pos w4, if_pos w4]
              obtain ⟨r, S', T', e1, e2, e3⟩ := canBits_loop x p (by omega) G hG G 0 20000 S T 0 h g1 g2 (by omega) (by omega)
              rw [show iN 0 = 0 from rfl] at e1 e2
              unfold gfX0_canBits_20_1 bfX0_canBits_20_1_0 gfX11_gatesOf_130 bfX11_gatesOf_130_0
              rw [e1, e2]
              exact ⟨r, S', T', rfl, rfl, e3⟩
            · rw [if_neg w4, if_neg w4]; exact ⟨-1, S, T, rfl, rfl, h⟩
theorem c_asks (x : XT) (S T : ST) (h : Rel x S T) (a b c w : Int32) : Call x S T (gfX10_asks_0 x S a b c w) (gfX11_asks_130 x T a b c w) := by
  obtain ⟨P, hP, p1, p2⟩ := h.goers
  obtain ⟨G, hG, g1, g2⟩ := h.gates
  have w2 : gfX10_within x S c 20 = some (bz (inb c 20), S) := within_eq x S c 20 (by omega)
  unfold gfX10_asks_0 bfX10_asks_0_0 bfX10_asks_0_31 gfX11_asks_130 bfX11_asks_130_0 bfX11_asks_130_23 bfX11_asks_130_82
  rw [hasGoer_eq1 x S a P (by omega) p1, isGoer_eq x T a P (by omega) p2]
  dsimp only
  rw [hasGate_eq1 x S b G (by omega) g1, isGate_eq x T b G (by omega) g2]
  dsimp only
  rw [w2, isMany_eq]
  dsimp only
  have bt : ¬ bz true = 0 := by decide
  cases ha : inb a P with
  | false => exact ⟨-1, S, T, by rw [if_pos (show bz false = 0 from rfl)], by rw [if_pos (show bz false = 0 from rfl)], h⟩
  | true =>
    rw [if_neg bt, if_neg bt]
    cases hb : inb b G with
    | false => exact ⟨-1, S, T, by rw [if_pos (show bz false = 0 from rfl)], by rw [if_pos (show bz false = 0 from rfl)], h⟩
    | true =>
      rw [if_neg bt, if_neg bt]
      cases hc : inb c 20 with
      | false => exact ⟨-1, S, T, by rw [if_neg (show ¬ ¬ bz false = 0 by decide)], by rw [if_neg (show ¬ ¬ bz false = 0 by decide)], h⟩
      | true =>
        rw [if_pos bt, if_pos bt]
        obtain ⟨p, hp, rfl⟩ := inb_ex ha
        obtain ⟨g, hg, rfl⟩ := inb_ex hb
        obtain ⟨R, hR⟩ := h.1.lr
        obtain ⟨W, e1, e2⟩ := reg1 x S (T.2.1 132) h.1.1 p g (by omega) (by omega) c
        have hn := qG_nb h.1.2.1 (p := p) (g := g) (by omega) (by omega) hc
        obtain ⟨T1, f1, f2, f3⟩ := setsGate_eq x T p g (by omega) (by omega) c
        have fS := frX0_regard_20_1 x S _ _ _ _ _ e1
        have fT := frX11_setsGate_130 x T _ _ _ _ _ f1
        have hq : ∀ w, w < 8 → (wA S 21 W).2.1 21 w = qG (T.2.1 132) p g c w := fun w hw => by rw [wA_s]; exact e2 w hw
        rw [e1, f1]
        dsimp only
        by_cases w0 : w = 0
        · rw [if_pos w0, if_pos w0]
          obtain ⟨st, e3⟩ := toldQ1 x (wA S 21 W) (T.2.1 132) R (hR.w1 W W).1 _ hq hn 0 (by omega)
          obtain ⟨T2, f4⟩ := refTurns x S 1 T1 R (by rw [f3]; exact hR) _ f2
          rw [show (260 : Int32) = iN (260 + 0) from rfl, e3, f4]
          exact ⟨_, _, _, rfl, rfl, h.scr ((fS.sub (W := ([], [21, 22], [], [])) (by decide)).tr ((frX0_told_20_1 x _ _ _ _ e3).sub (by decide))) (by decide) ((fT.sub (W := ([(130, 22), (130, 23), (130, 24), (130, 25)], [142], [], [])) (by decide)).tr ((frX11_turnsNow_130 x _ _ _ f4).sub (by decide))) (by decide)⟩
        · rw [if_neg w0, if_neg w0]
          by_cases w1 : w = 1
          · rw [if_pos w1, if_pos w1]
            obtain ⟨st, e3⟩ := toldQ1 x (wA S 21 W) (T.2.1 132) R (hR.w1 W W).1 _ hq hn 1 (by omega)
            obtain ⟨T2, f4⟩ := refPays x S 1 T1 R (by rw [f3]; exact hR) _ f2
            rw [show (261 : Int32) = iN (260 + 1) from rfl, e3, f4]
            exact ⟨_, _, _, rfl, rfl, h.scr ((fS.sub (W := ([], [21, 22], [], [])) (by decide)).tr ((frX0_told_20_1 x _ _ _ _ e3).sub (by decide))) (by decide) ((fT.sub (W := ([(130, 22), (130, 23), (130, 24), (130, 25)], [142], [], [])) (by decide)).tr ((frX11_paysNow_130 x _ _ _ f4).sub (by decide))) (by decide)⟩
          · rw [if_neg w1, if_neg w1]
            by_cases w2 : w = 2
            · rw [if_pos w2, if_pos w2]
              obtain ⟨st, e3⟩ := toldQ1 x (wA S 21 W) (T.2.1 132) R (hR.w1 W W).1 _ hq hn 2 (by omega)
              obtain ⟨T2, f4⟩ := refBars x S 1 T1 R (by rw [f3]; exact hR) _ f2
              rw [show (262 : Int32) = iN (260 + 2) from rfl, e3, f4]
              have hs := h.scr ((fS.sub (W := ([], [21, 22], [], [])) (by decide)).tr ((frX0_told_20_1 x _ _ _ _ e3).sub (by decide))) (by decide) ((fT.sub (W := ([(130, 22), (130, 23), (130, 24), (130, 25)], [142], [], [])) (by decide)).tr ((frX11_isBarredNow_130 x _ _ _ f4).sub (by decide))) (by decide)
              dsimp only
              rcases tV_bar hR (qG (T.2.1 132) p g c) with e | e
              · rw [e, if_pos rfl]; exact ⟨0, _, _, rfl, rfl, hs⟩
              · rw [e, if_neg (by decide)]; exact ⟨1, _, _, rfl, rfl, hs⟩
            · rw [if_neg w2, if_neg w2]
              exact ⟨-1, _, _, rfl, rfl, h.scr fS (by decide) fT (by decide)⟩
/-! how many places of a row are so -/
def cnt (Q : Nat → Bool) : Nat → Nat
  | 0 => 0
  | n + 1 => cnt Q n + (if Q n = true then 1 else 0)
theorem cnt_eq {Q Q' : Nat → Bool} : ∀ {n : Nat}, (∀ j, j < n → Q' j = Q j) → cnt Q' n = cnt Q n
  | 0, _ => rfl
  | n + 1, h => by
    rw [cnt, cnt, cnt_eq (fun j hj => h j (by omega)), h n (by omega)]
theorem cnt_flip {Q Q' : Nat → Bool} : ∀ {n k : Nat}, k < n → Q k = true → Q' k = false → (∀ j, j ≠ k → Q' j = Q j) → cnt Q' n + 1 = cnt Q n
  | 0, k, hk, _, _, _ => by omega
  | n + 1, k, hk, h1, h2, h3 => by
    rw [cnt, cnt]
    by_cases e : k = n
    · subst e
      rw [h1, h2, cnt_eq (fun j hj => h3 j (by omega))]
      simp
    · have := cnt_flip (n := n) (k := k) (by omega) h1 h2 h3
      rw [h3 n (fun q => e q.symm)]
      omega
theorem cnt_pos {Q : Nat → Bool} : ∀ {n k : Nat}, k < n → Q k = true → 0 < cnt Q n
  | 0, k, hk, _ => by omega
  | n + 1, k, hk, h => by
    rw [cnt]
    by_cases e : k = n
    · subst e; rw [h]; simp
    · have := cnt_pos (n := n) (k := k) (by omega) h
      omega
theorem cnt_le (Q : Nat → Bool) : ∀ n, cnt Q n ≤ n
  | 0 => Nat.le_refl _
  | n + 1 => by
    have := cnt_le Q n
    rw [cnt]
    split <;> omega
theorem cnt_all {Q : Nat → Bool} : ∀ {n : Nat}, (∀ j, j < n → Q j = true) → cnt Q n = n
  | 0, _ => rfl
  | n + 1, h => by
    rw [cnt, cnt_all (fun j hj => h j (by omega)), h n (by omega)]
    simp
end ASK3
