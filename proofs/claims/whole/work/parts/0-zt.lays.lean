section LAYS
def wLay : WS := ([(130, 22), (130, 23), (130, 24), (130, 25)], [142, 145, 146], [], [])
theorem lays_in (x : XT) (S0 : ST) (o : Nat) (f : Nat → Int32) (R : RF) (hR : LR x S0 o f R) (p g : Nat) (hp : p < 5) (hg : g < 10) : ∀ (d m fuel : Nat) (T : ST), m + d = 20 → d < fuel → T.2.1 132 = f → (∀ g' m', g' < g → m' < 20 → T.2.1 145 (10 * m' + g') = gO R f p g' m' ∧ T.2.1 146 (10 * m' + g') = gP R f p g' m') → (∀ m', m' < m → T.2.1 145 (10 * m' + g) = gO R f p g m' ∧ T.2.1 146 (10 * m' + g) = gP R f p g m') → ∃ T', lfX11_laysGate_130_2 x fuel T (iN p) (iN g) (iN m) = some ((), T') ∧ BR T' f R p (g + 1) ∧ Agr wLay T T'
  | 0, m, fuel, T, hm, hf, hT, h1, h2 => by
    obtain ⟨fuel, rfl⟩ : ∃ z, fuel = z + 1 := ⟨fuel - 1, by omega⟩
    have e : m = 20 := by omega
    subst e
    rw [lfX11_laysGate_130_2, bfX11_laysGate_130_2, if_pos (show (20 : Int32) ≤ iN 20 by decide)]
    refine ⟨T, rfl, ⟨hT, fun g' m' hg' hm' => ?_⟩, Agr.rf⟩
    by_cases e : g' = g
    · subst e; exact h2 m' hm'
    · exact h1 g' m' (by omega) hm'
  | d + 1, m, fuel, T, hm, hf, hT, h1, h2 => by
    obtain ⟨fuel, rfl⟩ : ∃ z, fuel = z + 1 := ⟨fuel - 1, by omega⟩
    have ha : inb (iN (10 * m + g)) 200 = true := inb_t (by omega) (by omega)
    obtain ⟨T1, f1, f2, f3⟩ := setsGate_eq x T p g hp hg (iN m)
    have b1 := frX11_setsGate_130 x T _ _ _ _ _ f1
    rw [hT] at f2 f3
    obtain ⟨T2, f4⟩ := refBars x S0 o T1 R (by rw [f3]; exact hR) _ f2
    have b2 := frX11_isBarredNow_130 x T1 _ _ f4
    obtain ⟨T3, f5⟩ := refTurns x S0 o T2 R (by rw [b2.2.1 132 (by decide), f3]; exact hR) _ (fun c h1 h2 => by rw [b2.2.1 142 (by decide)]; exact f2 c h1 h2)
    have b3 := frX11_turnsNow_130 x T2 _ _ f5
    have go : ∀ T4 : ST, Agr ([(130, 22), (130, 23), (130, 24), (130, 25)], [], [], []) T1 T4 → ∃ T', bfX11_laysGate_130_40 x (lfX11_laysGate_130_2 x fuel) T4 (iN p) (iN g) (iN m) (iN (10 * m + g)) (gO R f p g m) = some ((), T') ∧ BR T' f R p (g + 1) ∧ Agr wLay T T' := by
      intro T4 c1
      have c2 : Agr ([(130, 22), (130, 23), (130, 24), (130, 25)], [145], [], []) T1 (T4.1, u2 T4.2.1 145 (10 * m + g) (gO R f p g m), T4.2.2.1, T4.2.2.2) := Agr.i (c1.sub (by decide)) 145 _ _ (by decide)
      obtain ⟨T5, f6⟩ := refPays x S0 o (T4.1, u2 T4.2.1 145 (10 * m + g) (gO R f p g m), T4.2.2.1, T4.2.2.2) R (by rw [c2.2.1 132 (by decide), f3]; exact hR) _ (fun c h1 h2 => by rw [c2.2.1 142 (by decide)]; exact f2 c h1 h2)
      have b5 := frX11_paysNow_130 x _ _ _ f6
      have c3 : Agr wLay T (T5.1, u2 T5.2.1 146 (10 * m + g) (gP R f p g m), T5.2.2.1, T5.2.2.2) := Agr.i ((b1.sub (by decide)).tr ((c2.sub (by decide)).tr (b5.sub (by decide)))) 146 _ _ (by decide)
      have e145 : T5.2.1 145 = u1 (T.2.1 145) (10 * m + g) (gO R f p g m) := by
        rw [b5.2.1 145 (by decide)]
        dsimp only
        rw [u2_row, c1.2.1 145 (by decide), b1.2.1 145 (by decide)]
      have e146 : T5.2.1 146 = T.2.1 146 := by
        rw [b5.2.1 146 (by decide), c2.2.1 146 (by decide), b1.2.1 146 (by decide)]
      have all : ∀ g' m', (10 * m' + g' ≠ 10 * m + g) → (u2 T5.2.1 146 (10 * m + g) (gP R f p g m)) 145 (10 * m' + g') = T.2.1 145 (10 * m' + g') ∧ (u2 T5.2.1 146 (10 * m + g) (gP R f p g m)) 146 (10 * m' + g') = T.2.1 146 (10 * m' + g') := by
        intro g' m' hne
        rw [u2_ro _ _ _ (by decide), e145, u1_n _ _ hne, u2_k _ _ _ hne, e146]
        exact ⟨rfl, rfl⟩
      obtain ⟨T', r1, r2, r3⟩ := lays_in x S0 o f R hR p g hp hg d (m + 1) fuel (T5.1, u2 T5.2.1 146 (10 * m + g) (gP R f p g m), T5.2.2.1, T5.2.2.2) (by omega) (by omega) ((c3.2.1 132 (by decide)).trans hT) (fun g' m' hg' hm' => by
          obtain ⟨q1, q2⟩ := all g' m' (by omega)
          dsimp only
          rw [q1, q2]
          exact h1 g' m' hg' hm') (fun m' hm' => by
          dsimp only
          by_cases e : m' = m
          · subst e
            rw [u2_ro _ _ _ (by decide), e145, u1_s, u2_s]
            exact ⟨rfl, rfl⟩
          · obtain ⟨q1, q2⟩ := all g m' (by omega)
            rw [q1, q2]
            exact h2 m' (by omega))
      refine ⟨T', ?_, r2, c3.tr r3⟩
      unfold bfX11_laysGate_130_40
      rw [ha, cond_true, iN_nat (by omega), f6]
      dsimp only
      rw [show (10 : Int32) * iN m = iN (10 * m) from iN_mul 10 _, iN_add, ha, cond_true, iN_nat (by omega), iN_succ]
      exact r1
    rw [lfX11_laysGate_130_2, bfX11_laysGate_130_2, if_neg (show ¬ (20 : Int32) ≤ iN m from fun q => by have := (iN_le (m := 20) (by omega) (by omega)).mp q; omega), f1]
    dsimp only
    rw [f4]
    dsimp only
    rw [show (10 : Int32) * iN m = iN (10 * m) from iN_mul 10 _, iN_add]
    rcases tV_bar hR (qG f p g (iN m)) with hb | hb
    · rw [hb, if_pos rfl, f5]
      dsimp only
      have e : tV R 0 (qG f p g (iN m)) = gO R f p g m := by unfold gO; rw [hb, if_neg (by decide)]
      rw [e]
      exact go T3 ((b2.sub (by decide)).tr (b3.sub (by decide)))
    · rw [hb, if_neg (show ¬ (1 : Int32) = 0 by decide)]
      have e : (-1 : Int32) = gO R f p g m := by unfold gO; rw [hb, if_pos rfl]
      rw [e]
      exact go T2 (b2.sub (by decide))
theorem lays_out (x : XT) (S0 : ST) (o : Nat) (f : Nat → Int32) (R : RF) (hR : LR x S0 o f R) (p G : Nat) (hp : p < 5) (hG : G ≤ 10) (h91 : f 91 = iN G) : ∀ (d g fuel : Nat) (T : ST), g + d = G → d < fuel → BR T f R p g → ∃ T', lfX11_laysOut_130_2 x fuel T (iN p) (iN g) = some ((), T') ∧ BR T' f R p G ∧ Agr wLay T T'
  | 0, g, fuel, T, hg, hf, hT => by
    obtain ⟨fuel, rfl⟩ : ∃ z, fuel = z + 1 := ⟨fuel - 1, by omega⟩
    have e : g = G := by omega
    subst e
    rw [lfX11_laysOut_130_2, bfX11_laysOut_130_2, gateMany_eq]
    dsimp only
    rw [hT.1, h91, if_pos ((iN_le (by omega) (by omega)).mpr (by omega))]
    exact ⟨T, rfl, hT, Agr.rf⟩
  | d + 1, g, fuel, T, hg, hf, hT => by
    obtain ⟨fuel, rfl⟩ : ∃ z, fuel = z + 1 := ⟨fuel - 1, by omega⟩
    obtain ⟨T1, c1, c2, c3⟩ := lays_in x S0 o f R hR p g hp (by omega) 20 0 20000 T (by omega) (by omega) hT.1 hT.2 (fun m' hm' => by omega)
    rw [show iN 0 = 0 from rfl] at c1
    have c0 : gfX11_laysGate_130 x T (iN p) (iN g) = some ((), T1) := c1
    rw [lfX11_laysOut_130_2, bfX11_laysOut_130_2, gateMany_eq]
    dsimp only
    rw [hT.1, h91, if_neg (fun q => by have := (iN_le (by omega) (by omega)).mp q; omega), c0]
    dsimp only
    rw [iN_succ]
    obtain ⟨T', r1, r2, r3⟩ := lays_out x S0 o f R hR p G hp hG h91 d (g + 1) fuel T1 (by omega) (by omega) c2
    exact ⟨T', r1, r2, c3.tr r3⟩
theorem laysOut_eq (x : XT) (S0 T : ST) (o : Nat) (f : Nat → Int32) (R : RF) (hR : LR x S0 o f R) (p G : Nat) (hp : p < 5) (hG : G ≤ 10) (h91 : f 91 = iN G) (hT : T.2.1 132 = f) : ∃ T', gfX11_laysOut_130 x T (iN p) = some ((), T') ∧ BR T' f R p G ∧ Agr wLay T T' := by
  obtain ⟨T', r1, r2, r3⟩ := lays_out x S0 o f R hR p G hp hG h91 G 0 20000 T (by omega) (by omega) ⟨hT, fun g m hg => by omega⟩
  rw [show iN 0 = 0 from rfl] at r1
  exact ⟨T', r1, r2, r3⟩
theorem LR.mv {x : XT} {S S' : ST} {o o' : Nat} {f : Nat → Int32} {R : RF} (h : LR x S o f R) (h18 : S'.1 o' 18 = S.1 o 18) (h16 : S'.1 o' 16 = S.1 o 16) (hQ : ∀ l, l < 6 → S'.2.2.2 (o' + 14) l = S.2.2.2 (o + 14) l) (hS : ∀ a, 158 ≤ a → S'.1 a = S.1 a ∧ S'.2.1 a = S.2.1 a) : LR x S' o' f R := by
  rcases h with ⟨e1, e2, e3⟩ | ⟨l, t, L, N, C, V, dS, dT, a1, a2, a3, a4, a5, a6, a7, a8, a9⟩
  · exact Or.inl ⟨e1, h18.trans e2, e3⟩
  · exact Or.inr ⟨l, t, L, N, C, V, dS, dT, a1, a2, a3, h18.trans a4, h16.trans a5, (hQ l (by omega)).trans a6, a7, a8.cg hS (fun _ _ => ⟨rfl, rfl⟩), a9⟩
theorem begin_eq (x : XT) (S : ST) (f : Nat → Int32) (h : RK x S 1 f) (R : RF) (hR : LR x S 1 f R) (p : Nat) : ∃ S', gfX6_begin_54_1 x S (iN p) = some ((), S') ∧ BC x S' f R p := by
  obtain ⟨S1, c1, c2⟩ := copy55_1 x S h.2.2.1 h.opn
  have b1 := frX7_copyFrom_55_1 x S _ _ c1
  obtain ⟨S2, d1, d2⟩ := fill70 x (u2 S1.1 54 2 (iN p), S1.2.1, S1.2.2.1, S1.2.2.2) (-2)
  have b2 := frJ7_fill_53178_70 x _ _ _ _ d1
  have s158 : ∀ a, 158 ≤ a → S1.1 a = S.1 a ∧ S1.2.1 a = S.2.1 a := (b1.sm (L := ([], [], [], [])) (by decide)).2.2.2
  have hK := c2.rk h s158
  have hR1 : LR x S1 55 f R := hR.mv (hK.1.2.2.2.2.1.trans h.1.2.2.2.2.1.symm) (hK.1.2.2.2.1.trans h.1.2.2.2.1.symm) c2.2.2.2.2.2.1 s158
  have b3 : Agr ([(54, 2)], [70], [], []) S1 S2 := (Agr.f Agr.rf 54 2 _ (by decide)).tr (b2.sub (by decide))
  refine ⟨S2, ?_, hR1.sm (b3.sm (by decide)), hK.1.cg (b3.sm (by decide)), ?_, fun g m hg hm => Or.inl (d2 _ (by omega))⟩
  · unfold gfX6_begin_54_1 bfX6_begin_54_1_0
    rw [c1]
    dsimp only
    rw [d1]
  · rw [b2.1 54 2 (by decide)]
    exact u2_s S1.1 54 2 _
end LAYS
