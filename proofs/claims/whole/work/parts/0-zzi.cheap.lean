section CHEAP4
theorem toll_loop (x : XT) (f : Nat → Int32) (R : RF) (p G : Nat) (hp : p < 5) (hW : WF f) (hG : G ≤ 10) (h91 : f 91 = iN G) (L : Nat → Nat) (s : Nat) (hs : s < 120) (b c : Int32) (hO : ∀ q g, q < 120 → g < G → OkE R f p (wt R f p 1) L g q) (h0 : ∀ q, q < 120 → bG q b c = true → L q = 0) (hB : L s ≤ 1000000) (hP : L s = 1000000 ∨ Pth R f p G (wt R f p 1) (fun q => bG q b c) s (L s)) : ∀ (d k fuel : Nat) (S : ST) (tt : Nat → Option Nat) (st : Nat → Bool), k + d = 120 → d < fuel → DJ x S f R p L s (fun q => bG q b c) tt st k → (∀ q, q < 120 → st q = true → ∀ g', g' < G → EOk R f p tt q g') → ∃ S', lfX6_leastToll_54_28 x fuel S b c (iN k) = some (if L s < 1000000 then iN (L s) else -1, S') := by
  intro d
  -- a row has a PLACE that is not settled
  have fr : ∀ (S : ST) (tt : Nat → Option Nat) (st : Nat → Bool) (k : Nat), DJ x S f R p L s (fun q => bG q b c) tt st k → (∀ q, q < 120 → st q = true → ∀ g', g' < G → EOk R f p tt q g') → L s < 1000000 → ∃ u a, u < 120 ∧ st u = false ∧ tt u = some a ∧ a ≤ L s := by
    intro S tt st k hD hE hL
    rcases hP with z | ⟨n, z⟩
    · omega
    · obtain ⟨u, a, u1, u2, u3, u4⟩ := front (tt := tt) (st := st) hD.2.2.2.2.2.2.1 (fun q hq h1 => by
        obtain ⟨a, a1, -⟩ := hD.2.2.2.2.2.2.2 q hq h1
        refine ⟨a, a1, fun g q' hg hq' hn => ?_⟩
        obtain ⟨c', c1, c2⟩ := hE q hq h1 g hg q' hq' hn
        exact ⟨c', c1, c2 a a1⟩) n s (L s) 0 hs z ⟨0, hD.2.2.2.2.1, Nat.le_refl 0⟩
      exact ⟨u, a, u1, u2, u3, by omega⟩
  induction d with
  | zero =>
    intro k fuel S tt st hk hf hD hE
    obtain ⟨fuel, rfl⟩ : ∃ z, fuel = z + 1 := ⟨fuel - 1, by omega⟩
    have e : k = 120 := by omega
    subst e
    have nL : ¬ L s < 1000000 := fun z => by
      obtain ⟨u, a, u1, u2, -⟩ := fr S tt st 120 hD hE z
      have h6 := hD.2.2.2.2.2.1
      have := cnt_lt u1 u2
      omega
    rw [lfX6_leastToll_54_28, bfX6_leastToll_54_28, if_pos (show (120 : Int32) ≤ iN 120 by decide), if_neg nL]
    exact ⟨S, rfl⟩
  | succ d ih =>
    intro k fuel S tt st hk hf hD hE
    obtain ⟨fuel, rfl⟩ : ∃ z, fuel = z + 1 := ⟨fuel - 1, by omega⟩
    have hF := fr S tt st k hD hE
    obtain ⟨j1, j2, j3, j4, j5, j6, j7, j8⟩ := hD
    obtain ⟨r, r1, r2⟩ := least_eq x S tt st j2 j3 (fun q c hq h => by have := (j4 q c hq h).1; omega)
    rw [lfX6_leastToll_54_28, bfX6_leastToll_54_28, if_neg (show ¬ (120 : Int32) ≤ iN k from fun z => by have := (iN_le (m := 120) (by omega) (by omega)).mp z; omega), r1]
    dsimp only
    unfold bfX6_leastToll_54_56 bfX6_leastToll_54_73
    rcases r2 with ⟨rfl, z⟩ | ⟨u, cu, u1', u2, u3, u4, u5⟩
    · have nL : ¬ L s < 1000000 := fun w => by
        obtain ⟨u, a, a1, a2, a3, -⟩ := hF w
        rw [z u a1 a2] at a3; cases a3
      rw [if_pos rfl, if_neg (show ¬ ¬ (-1 : Int32) = -1 from fun w => w rfl), if_neg nL]
      exact ⟨S, rfl⟩
    · subst u2
      have bu := (j4 u cu u1' u4)
      rw [if_neg (iN_m1 (by omega)), isAt_eq x S u u1']
      dsimp only
      cases hg : bG u b c with
      | true =>
        have z0 := h0 u u1' hg
        have lt : L s < 1000000 := by omega
        obtain ⟨v, a, a1, a2, a3, a4⟩ := hF lt
        have := u5 v a a1 a2 a3
        have e : cu = L s := by omega
        rw [if_neg (show ¬ bz true = 0 by decide), if_pos (iN_m1 (by omega)), inb_t u1' (by omega), cond_true, iN_nat (by omega), j2 u u1', u4, if_pos lt, ← e]
        exact ⟨S, rfl⟩
      | false =>
        rw [if_pos (show bz false = 0 from rfl), inb_t u1' (by omega), cond_true, iN_nat (by omega)]
        have aS : Agr ([], [77], [], []) S (S.1, u2 S.2.1 77 u 1, S.2.2.1, S.2.2.2) := Agr.i Agr.rf 77 u 1 (by decide)
        have so : ∀ q, q ≠ u → (u1 st u true) q = st q := fun q hq => u1_n _ _ hq
        have ss : (u1 st u true) u = true := u1_s _ _ _
        have back : ∀ q, (u1 st u true) q = false → st q = false := fun q h => by
          by_cases e : q = u
          · rw [e, ss] at h; exact absurd h (by decide)
          · rw [so q e] at h; exact h
        have hDP : DP x (S.1, u2 S.2.1 77 u 1, S.2.2.1, S.2.2.2) f R p G L s (fun q => bG q b c) tt (u1 st u true) (k + 1) u cu 0 := by
          refine ⟨⟨j1.cg (aS.sm (by decide)) rfl (aS.2.1 70 (by decide)), fun q hq => ?_, fun q hq => ?_, fun q a hq ha => ?_, j5, ?_, fun q hq h1 => ?_, fun q hq h1 => ?_⟩, fun q hq h1 h2 g' hg' => ?_, fun g' hg' => by omega, u4, by omega, fun q a hq h1 ha => ?_, ss⟩
          · rw [aS.2.1 76 (by decide)]; exact j2 q hq
          · dsimp only
            by_cases e : q = u
            · rw [e, u2_s, ss]; rfl
            · rw [u2_k _ _ _ e, so q e]; exact j3 q hq
          · have := j4 q a hq ha; omega
          · rw [← j6]
            exact (cnt_flip (k := u) u1' ss u3 (fun j hj => (so j hj).symm)).symm
          · by_cases e : q = u
            · rw [e]; exact hg
            · exact j7 q hq (by rw [← so q e]; exact h1)
          · by_cases e : q = u
            · subst e
              exact ⟨cu, u4, fun v b' hv h2 hb => u5 v b' hv (back v h2) hb⟩
            · obtain ⟨a, a1, a2⟩ := j8 q hq (by rw [← so q e]; exact h1)
              exact ⟨a, a1, fun v b' hv h2 hb => a2 v b' hv (back v h2) hb⟩
          · exact hE q hq (by rw [← so q h2]; exact h1) g' hg'
          · by_cases e : q = u
            · subst e; rw [u4] at ha; cases ha; exact Nat.le_refl _
            · obtain ⟨a', a1, a2⟩ := j8 q hq (by rw [← so q e]; exact h1)
              rw [ha] at a1; cases a1
              exact a2 u cu u1' u3 u4
        obtain ⟨S', tt', q1, q2, q3⟩ := pay_loop x f R p G hp hW hG h91 L s hs (fun q => bG q b c) hO (u1 st u true) (k + 1) (by omega) u cu u1' (lfX6_leastToll_54_28 x fuel) b c (iN k) G 0 20000 (S.1, u2 S.2.1 77 u 1, S.2.2.1, S.2.2.2) tt (by omega) (by omega) hDP
        rw [show iN 0 = 0 from rfl] at q1
        rw [q1, iN_succ]
        exact ih (k + 1) fuel S' tt' (u1 st u true) (by omega) (by omega) q2 q3
theorem c_cheap (x : XT) (S T : ST) (h : Rel x S T) (a b c : Int32) : Call x S T (gfX10_cheap_0 x S a b c) (gfX11_cheap_130 x T a b c) := by
  obtain ⟨P, hP, p1, p2⟩ := h.goers
  have key : ∃ r S' T', gfX10_cheap_0 x S a b c = some (r, S') ∧ gfX11_cheap_130 x T a b c = some (r, T') := by
    unfold gfX10_cheap_0 bfX10_cheap_0_0 gfX11_cheap_130 bfX11_cheap_130_0 bfX11_cheap_130_16 bfX11_cheap_130_59
    rw [canSeek_eq x S a b c P (by omega) p1, isGoer_eq x T a P (by omega) p2, Bool.and_assoc]
    dsimp only
    rw [canGoal_eq]
    dsimp only
    cases ha : inb a P with
    | false =>
      rw [if_pos (show bz false = 0 from rfl), Bool.false_and, if_neg (show ¬ ¬ bz false = 0 from fun z => z rfl)]
      exact ⟨_, _, _, rfl, rfl⟩
    | true =>
      rw [if_neg (show ¬ bz true = 0 by decide), Bool.true_and]
      cases hb : (inb b 6 && (decide (c = -1) || inb c 20)) with
      | false =>
        rw [if_neg (show ¬ ¬ bz false = 0 from fun z => z rfl), if_neg (show ¬ ¬ bz false = 0 from fun z => z rfl)]
        exact ⟨_, _, _, rfl, rfl⟩
      | true =>
        rw [if_pos (show ¬ bz true = 0 by decide), if_pos (show ¬ bz true = 0 by decide)]
        obtain ⟨p, hp, rfl⟩ := inb_ex ha
        have hW := h.1.2.1
        obtain ⟨R, G, S1, T1, hG, h91, b1, b2, c1, c2, hR⟩ := begun x S T h p (by omega)
        have hs := pl0_lt hW p (by omega)
        obtain ⟨T2, L, l1, l2, l3⟩ := left_eq x (T.2.1 132) R p G hW hG h91 b c 1 T1 c2
        obtain ⟨S2, f1, f2⟩ := fill76 x S1 (-1)
        have g1 := frJ7_fill_53178_76 x _ _ _ _ f1
        obtain ⟨S3, f3, f4⟩ := fill77 x S2 0
        have g2 := frJ7_fill_53178_77 x _ _ _ _ f3
        have hB3 : BC x S3 (T.2.1 132) R p := (b2.cg (g1.sm (by decide)) (g1.1 54 2 (by decide)) (g1.2.1 70 (by decide))).cg (g2.sm (by decide)) (g2.1 54 2 (by decide)) (g2.2.1 70 (by decide))
        have hst := start_eq x S3 _ R p (by omega) hW hB3
        have hpl := fun (T : ST) (e : T.2.1 132 = _) => placeOf_eq x T _ p (by omega) hW e
        have hpl2 := hpl T2 l2.1.1
        generalize pl0 (T.2.1 132) p = s at *
        have aS : Agr ([], [76], [], []) S3 (S3.1, u2 S3.2.1 76 s 0, S3.2.2.1, S3.2.2.2) := Agr.i Agr.rf 76 s 0 (by decide)
        have hD : DJ x (S3.1, u2 S3.2.1 76 s 0, S3.2.2.1, S3.2.2.2) (T.2.1 132) R p L s (fun q => bG q b c) (u1 (fun _ => none) s (some 0)) (fun _ => false) 0 := by
          refine ⟨hB3.cg (aS.sm (by decide)) rfl (aS.2.1 70 (by decide)), fun q hq => ?_, fun q hq => ?_, fun q a hq ha => ?_, u1_s _ _ _, cnt_none (fun _ _ => rfl), fun q hq z => (Bool.noConfusion z), fun q hq z => (Bool.noConfusion z)⟩
          · dsimp only
            by_cases e : q = s
            · rw [e, u2_s, u1_s]; rfl
            · rw [u2_k _ _ _ e, u1_n _ _ e, g2.2.1 76 (by decide), f2 q hq]; rfl
          · rw [aS.2.1 77 (by decide), f4 q hq]; rfl
          · by_cases e : q = s
            · subst e; rw [u1_s] at ha; cases ha; omega
            · rw [u1_n _ _ e] at ha; cases ha
        obtain ⟨S4, t1⟩ := toll_loop x (T.2.1 132) R p G (by omega) hW hG h91 L s hs b c l3 l2.2.2.2.2 (l2.2.2.1 s hs) (l2.2.2.2.1 s hs) 120 0 20000 _ _ _ (by omega) (by omega) hD (fun q hq z => by cases z)
        rw [show iN 0 = 0 from rfl] at t1
        have cT : gfX6_leastToll_54 x S1 b c = some (if L s < 1000000 then iN (L s) else -1, S4) := by
          unfold gfX6_leastToll_54 bfX6_leastToll_54_0
          rw [f1]
          dsimp only
          rw [f3]
          dsimp only
          rw [hst]
          dsimp only
          rw [inb_t hs (by omega), cond_true, iN_nat (by omega), t1]
        rw [b1, c1]
        dsimp only
        rw [cT, l1]
        dsimp only
        rw [hpl2]
        dsimp only
        rw [inb_t hs (by omega), cond_true, iN_nat (show s < 2147483648 by omega), l2.2.1 s hs, hpl2]
        have := l2.2.2.1 s hs
        by_cases lt : L s < 1000000
        · rw [if_pos lt, if_pos (show iN (L s) < 1000000 from (iN_lt (n := 1000000) (by omega) (by omega)).mpr lt)]
          dsimp only
          rw [inb_t hs (by omega), cond_true, iN_nat (show s < 2147483648 by omega), l2.2.1 s hs]
          exact ⟨_, _, _, rfl, rfl⟩
        · rw [if_neg lt, if_neg (show ¬ iN (L s) < 1000000 from fun z => lt ((iN_lt (n := 1000000) (by omega) (by omega)).mp z))]
          exact ⟨_, _, _, rfl, rfl⟩
  obtain ⟨r, S', T', q1, q2⟩ := key
  exact Call.of h q1 q2 (frX10_cheap_0 x S _ _ _ _ _ q1) (by decide) (frX11_cheap_130 x T _ _ _ _ _ q2) (by decide)
end CHEAP4
