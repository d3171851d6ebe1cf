section HASWAY
def anyB (P : Nat → Bool) : Nat → Nat → Bool
  | 0, _ => false
  | d + 1, m => P m || anyB P d (m + 1)
theorem anyB_iff (P : Nat → Bool) : ∀ (d m : Nat), anyB P d m = true ↔ ∃ k, m ≤ k ∧ k < m + d ∧ P k = true
  | 0, m => ⟨fun h => (Bool.noConfusion (show false = true from h)), fun ⟨k, h1, h2, h3⟩ => by omega⟩
  | d + 1, m => by
    rw [anyB, Bool.or_eq_true, anyB_iff P d (m + 1)]
    constructor
    · rintro (h | ⟨k, h1, h2, h3⟩)
      · exact ⟨m, Nat.le_refl _, by omega, h⟩
      · exact ⟨k, by omega, by omega, h3⟩
    · rintro ⟨k, h1, h2, h3⟩
      by_cases e : k = m
      · subst e; exact Or.inl h3
      · exact Or.inr ⟨k, by omega, by omega, h3⟩
theorem hw_loop (x : XT) (T : ST) (F : Nat → Bool) (b c : Int32) (hF : ∀ q, q < 120 → ((1000000 : Int32) ≤ T.2.1 148 q ↔ F q = false)) : ∀ (d k fuel : Nat) (o : Bool), k + d = 120 → d < fuel → lfX11_hasWay_130_16 x fuel T b c (bz o) (iN k) = some (bz (o || anyB (fun q => F q && bG q b c) d k), T)
  | 0, k, fuel, o, hk, hf => by
    obtain ⟨fuel, rfl⟩ : ∃ z, fuel = z + 1 := ⟨fuel - 1, by omega⟩
    have e : k = 120 := by omega
    subst e
    rw [lfX11_hasWay_130_16, bfX11_hasWay_130_16, if_pos (show (120 : Int32) ≤ iN 120 by decide), bz_b, cond_true, anyB, Bool.or_false]
  | d + 1, k, fuel, o, hk, hf => by
    obtain ⟨fuel, rfl⟩ : ∃ z, fuel = z + 1 := ⟨fuel - 1, by omega⟩
    have hfd := hF k (by omega)
    have rest := fun o => hw_loop x T F b c hF d (k + 1) fuel o (by omega) (by omega)
    rw [lfX11_hasWay_130_16, bfX11_hasWay_130_16, if_neg (show ¬ (120 : Int32) ≤ iN k from fun q => by have := (iN_le (m := 120) (by omega) (by omega)).mp q; omega), anyB]
    unfold bfX11_hasWay_130_50 bfX11_hasWay_130_54 bfX11_hasWay_130_55
    rw [iN_succ]
    cases o with
    | true =>
      rw [if_pos (show ¬ bz true = 0 by decide), show (1 : Int32) = bz true from rfl, rest true, Bool.true_or, Bool.true_or]
    | false =>
      rw [if_neg (show ¬ ¬ bz false = 0 from fun z => z rfl), inb_t (show k < 120 by omega) (by omega), cond_true, iN_nat (by omega), Bool.false_or, isGoal_eq x T k (by omega)]
      dsimp only
      cases hk2 : F k with
      | false =>
        rw [if_pos (hfd.mpr hk2), Bool.false_and, Bool.false_or, show (0 : Int32) = bz false from rfl, rest false, Bool.false_or]
      | true =>
        rw [if_neg (fun z => by rw [hfd.mp z] at hk2; cases hk2), Bool.true_and]
        cases hb : bG k b c with
        | false => rw [if_pos (show bz false = 0 from rfl), Bool.false_or, show (0 : Int32) = bz false from rfl, rest false, Bool.false_or]
        | true => rw [if_neg (show ¬ bz true = 0 by decide), Bool.true_or, show (1 : Int32) = bz true from rfl, rest true, Bool.true_or]
theorem hasWay_eq (x : XT) (f : Nat → Int32) (R : RF) (p G : Nat) (hp : p < 5) (hW : WF f) (hG : G ≤ 10) (h91 : f 91 = iN G) (b c : Int32) (T : ST) (hT : BR T f R p G) : ∃ (B : Bool) (T' : ST), gfX11_hasWay_130 x T (iN p) b c = some (bz B, T') ∧ BR T' f R p G ∧ (B = true ↔ Hw R f p G (fun q => bG q b c) (pl0 f p)) := by
  obtain ⟨T', F, a1, a2, a3, a4⟩ := mask_eq x f R p G hp hW hG h91 0 T hT
  have l := hw_loop x T' F b c a3 120 0 20000 false (by omega) (by omega)
  rw [show bz false = 0 from rfl, show iN 0 = 0 from rfl, Bool.false_or] at l
  refine ⟨anyB (fun q => F q && bG q b c) 120 0, T', ?_, a2, ?_⟩
  · unfold gfX11_hasWay_130 bfX11_hasWay_130_0
    rw [placeOf_eq x T f p hp hW hT.1]
    dsimp only
    rw [a1]
    dsimp only
    rw [l]
  · have a4 := a4 (fun q => bG q b c)
    rw [mF_0] at a4
    rw [← a4, anyB_iff]
    constructor
    · rintro ⟨k, k1, k2, k3⟩
      rw [Bool.and_eq_true] at k3
      exact ⟨k, by omega, k3.1, k3.2⟩
    · rintro ⟨k, k1, k2, k3⟩
      exact ⟨k, by omega, by omega, by rw [Bool.and_eq_true]; exact ⟨k2, k3⟩⟩
/-- one GATE is laid anew -/
theorem lays_one (x : XT) (S0 : ST) (o : Nat) (f : Nat → Int32) (R : RF) (hR : LR x S0 o f R) (p g G : Nat) (hp : p < 5) (hg : g < G) (hG : G ≤ 10) : ∀ (d m fuel : Nat) (T : ST), m + d = 20 → d < fuel → T.2.1 132 = f → (∀ g' m', g' < G → g' ≠ g → m' < 20 → T.2.1 145 (10 * m' + g') = gO R f p g' m' ∧ T.2.1 146 (10 * m' + g') = gP R f p g' m') → (∀ m', m' < m → T.2.1 145 (10 * m' + g) = gO R f p g m' ∧ T.2.1 146 (10 * m' + g) = gP R f p g m') → ∃ T', lfX11_laysGate_130_2 x fuel T (iN p) (iN g) (iN m) = some ((), T') ∧ BR T' f R p G
  | 0, m, fuel, T, hm, hf, hT, h1, h2 => by
    obtain ⟨fuel, rfl⟩ : ∃ z, fuel = z + 1 := ⟨fuel - 1, by omega⟩
    have e : m = 20 := by omega
    subst e
    rw [lfX11_laysGate_130_2, bfX11_laysGate_130_2, if_pos (show (20 : Int32) ≤ iN 20 by decide)]
    refine ⟨T, rfl, hT, fun g' m' hg' hm' => ?_⟩
    by_cases e : g' = g
    · subst e; exact h2 m' hm'
    · exact h1 g' m' (by omega) e hm'
  | d + 1, m, fuel, T, hm, hf, hT, h1, h2 => by
    obtain ⟨fuel, rfl⟩ : ∃ z, fuel = z + 1 := ⟨fuel - 1, by omega⟩
    have ha : inb (iN (10 * m + g)) 200 = true := inb_t (by omega) (by omega)
    obtain ⟨T1, f1, f2, f3⟩ := setsGate_eq x T p g hp (by omega) (iN m)
    have b1 := frX11_setsGate_130 x T _ _ _ _ _ f1
    rw [hT] at f2 f3
    obtain ⟨T2, f4⟩ := refBars x S0 o T1 R (by rw [f3]; exact hR) _ f2
    have b2 := frX11_isBarredNow_130 x T1 _ _ f4
    obtain ⟨T3, f5⟩ := refTurns x S0 o T2 R (by rw [b2.2.1 132 (by decide), f3]; exact hR) _ (fun c h1 h2 => by rw [b2.2.1 142 (by decide)]; exact f2 c h1 h2)
    have b3 := frX11_turnsNow_130 x T2 _ _ f5
    have go : ∀ T4 : ST, Agr ([(130, 22), (130, 23), (130, 24), (130, 25)], [], [], []) T1 T4 → ∃ T', bfX11_laysGate_130_40 x (lfX11_laysGate_130_2 x fuel) T4 (iN p) (iN g) (iN m) (iN (10 * m + g)) (gO R f p g m) = some ((), T') ∧ BR T' f R p G := by
      intro T4 c1
      have c2 : Agr ([(130, 22), (130, 23), (130, 24), (130, 25)], [145], [], []) T1 (T4.1, u2 T4.2.1 145 (10 * m + g) (gO R f p g m), T4.2.2.1, T4.2.2.2) := Agr.i (c1.sub (by decide)) 145 _ _ (by decide)
      obtain ⟨T5, f6⟩ := refPays x S0 o (T4.1, u2 T4.2.1 145 (10 * m + g) (gO R f p g m), T4.2.2.1, T4.2.2.2) R (by rw [c2.2.1 132 (by decide), f3]; exact hR) _ (fun c h1 h2 => by rw [c2.2.1 142 (by decide)]; exact f2 c h1 h2)
      have b5 := frX11_paysNow_130 x _ _ _ f6
      have c3 : Agr wLay T (T5.1, u2 T5.2.1 146 (10 * m + g) (gP R f p g m), T5.2.2.1, T5.2.2.2) := Agr.i ((b1.sub (by decide)).tr ((c2.sub (by decide)).tr (b5.sub (by decide)))) 146 _ _ (by decide)
      have e145 : T5.2.1 145 = u1 (T.2.1 145) (10 * m + g) (gO R f p g m) := by
        rw [b5.2.1 145 (by decide)]
        dsimp only
        rw [u2_row, c1.2.1 145 (by decide), b1.2.1 145 (by decide)]
      have e146 : T5.2.1 146 = T.2.1 146 := by
        rw [b5.2.1 146 (by decide), c2.2.1 146 (by decide), b1.2.1 146 (by decide)]
      have all : ∀ g' m', (10 * m' + g' ≠ 10 * m + g) → (u2 T5.2.1 146 (10 * m + g) (gP R f p g m)) 145 (10 * m' + g') = T.2.1 145 (10 * m' + g') ∧ (u2 T5.2.1 146 (10 * m + g) (gP R f p g m)) 146 (10 * m' + g') = T.2.1 146 (10 * m' + g') := by
        intro g' m' hne
        rw [u2_ro _ _ _ (by decide), e145, u1_n _ _ hne, u2_k _ _ _ hne, e146]
        exact ⟨rfl, rfl⟩
      obtain ⟨T', r1, r2⟩ := lays_one x S0 o f R hR p g G hp hg hG d (m + 1) fuel (T5.1, u2 T5.2.1 146 (10 * m + g) (gP R f p g m), T5.2.2.1, T5.2.2.2) (by omega) (by omega) ((c3.2.1 132 (by decide)).trans hT) (fun g' m' hg' hgn hm' => by
          obtain ⟨q1, q2⟩ := all g' m' (by omega)
          dsimp only
          rw [q1, q2]
          exact h1 g' m' hg' hgn hm') (fun m' hm' => by
          dsimp only
          by_cases e : m' = m
          · subst e
            rw [u2_ro _ _ _ (by decide), e145, u1_s, u2_s]
            exact ⟨rfl, rfl⟩
          · obtain ⟨q1, q2⟩ := all g m' (by omega)
            rw [q1, q2]
            exact h2 m' (by omega))
      refine ⟨T', ?_, r2⟩
      unfold bfX11_laysGate_130_40
      rw [ha, cond_true, iN_nat (by omega), f6]
      dsimp only
      rw [show (10 : Int32) * iN m = iN (10 * m) from iN_mul 10 _, iN_add, ha, cond_true, iN_nat (by omega), iN_succ]
      exact r1
    rw [lfX11_laysGate_130_2, bfX11_laysGate_130_2, if_neg (show ¬ (20 : Int32) ≤ iN m from fun q => by have := (iN_le (m := 20) (by omega) (by omega)).mp q; omega), f1]
    dsimp only
    rw [f4]
    dsimp only
    rw [show (10 : Int32) * iN m = iN (10 * m) from iN_mul 10 _, iN_add]
    rcases tV_bar hR (qG f p g (iN m)) with hb | hb
    · rw [hb, if_pos rfl, f5]
      dsimp only
      have e : tV R 0 (qG f p g (iN m)) = gO R f p g m := by unfold gO; rw [hb, if_neg (by decide)]
      rw [e]
      exact go T3 ((b2.sub (by decide)).tr (b3.sub (by decide)))
    · rw [hb, if_neg (show ¬ (1 : Int32) = 0 by decide)]
      have e : (-1 : Int32) = gO R f p g m := by unfold gO; rw [hb, if_pos rfl]
      rw [e]
      exact go T2 (b2.sub (by decide))
end HASWAY
