section TSUM
def LTerm (x : XT) (n : Nat) (o : Bool) (tk pl vv : Nat → Nat) (dp : Nat) (S0 T0 : ST) (i0 l0 a0 : Nat) (v1 : Int32) (r0 : ST → Int32 → Int32 → Option (Int32 × ST)) (r1 r2 : ST → Int32 → Option (Int32 × ST)) (r3 : ST → Int32 → Int32 → Option (Int32 × ST)) (r4 r5 r6 : ST → Int32 → Option (Int32 × ST)) (q1 q2 q3 : ST → Int32 → Option (Unit × ST)) (m : Nat) : Prop := ∀ (S T : ST) (k p : Nat) (D : DN) (N f1 f2 c : Nat), PQ S T n o tk pl vv m (l0 + k) p → p + i0 ≤ a0 + m → Gr o (T0.2.1 139) (T0.2.1 140) (S.2.1 29) N dp 1 i0 m a0 p k D → (∀ z, z < a0 → S.2.1 29 z = S0.2.1 29 z) → Agr wPc S0 S → Agr wPr T0 T → n + 1 < f1 + m → n + 1 < f2 + m → c ≤ m → Out n o tk pl vv S0 T0 1 dp i0 l0 a0 (lfX4_term_24_8 x r0 r1 r2 r3 r4 r5 r6 f1 S v1 1 (iN c)) (lfX11_readTerm_130_5 x q1 q2 q3 f2 T v1)
theorem termz_step (x : XT) (n : Nat) (o : Bool) (tk pl vv : Nat → Nat) (dp : Nat) (S0 T0 : ST) (i0 l0 a0 : Nat) (ha0 : a0 ≤ i0) (v1 : Int32) (r0 : ST → Int32 → Int32 → Option (Int32 × ST)) (r1 r2 : ST → Int32 → Option (Int32 × ST)) (r3 : ST → Int32 → Int32 → Option (Int32 × ST)) (r4 r5 r6 : ST → Int32 → Option (Int32 × ST)) (q1 q2 q3 : ST → Int32 → Option (Unit × ST)) (hr : ∀ S T i l a, PQ S T n o tk pl vv i l a → Out n o tk pl vv S T 0 dp i l a (r6 S v1) (q3 T v1)) (m : Nat) (IH : ∀ m', m < m' → LTerm x n o tk pl vv dp S0 T0 i0 l0 a0 v1 r0 r1 r2 r3 r4 r5 r6 q1 q2 q3 m') : LTerm x n o tk pl vv dp S0 T0 i0 l0 a0 v1 r0 r1 r2 r3 r4 r5 r6 q1 q2 q3 m := by
  intro S T k p D N f1 f2 c h hp hg hz a1 a2 hf1 hf2 hc
  have hn := h.1.1
  have hm := h.2.2.2.2.2.2.2.1
  have ht := h.t
  obtain ⟨f1, rfl⟩ : ∃ z, f1 = z + 2 := ⟨f1 - 2, by omega⟩
  obtain ⟨f2, rfl⟩ : ∃ z, f2 = z + 2 := ⟨f2 - 2, by omega⟩
  have n400 : ¬ (400 : Int32) < iN c := fun z => by have := (iN_lt (m := 400) (by omega) (by omega)).mp z; omega
  have ne : ∀ e : Nat, e < 300 → tk m ≠ e → ¬ iN (tk m) = iN e := fun e he hne z => hne ((iN_eq (by omega) (by omega)).mp z)
  have go : ∀ op : Nat, (op = 42 ∨ op = 47 ∨ op = 37) → tk m = op → Out n o tk pl vv S0 T0 1 dp i0 l0 a0 (bfX4_term_24_46 x r0 r1 r2 r3 r4 r5 r6 (lfX4_term_24_8 x r0 r1 r2 r3 r4 r5 r6 (f1 + 1)) S v1 (iN c)) (bfX11_readTerm_130_41 x q1 q2 q3 (lfX11_readTerm_130_5 x q1 q2 q3 (f2 + 1)) (nwT T (m + 1)) v1) := by
    intro op hop hop2
    have hmn := h.lt (by omega)
    have h1 := h.adv hmn
    unfold bfX4_term_24_46 bfX11_readTerm_130_41
    rw [here_eq x h]
    dsimp only
    rw [h.2.1, iN_succ, iN_succ]
    rcases hr _ _ _ _ _ h1 with ⟨S', T', j, k2, b, d, N', g1, g2, g3, g4, g5, g6, g7, g8⟩ | ⟨S', T', kf, a', g1, g2, g3, g4, g5, g6, g7, g8, g9⟩
    · have g1 : r6 (u2 S.1 24 6 (iN (m + 1)), S.2.1, S.2.2.1, S.2.2.2) v1 = some (1, S') := g1
      have hj := g3.2.2.2.2.2.2.2.1
      have lt1 := hg.ltt
      have lt2 := g5.ltt
      rw [g1, g2]
      dsimp only
      rw [add_eq x S' b (iN (tk m)) 0 g3.2.2.2.1 (by omega)]
      dsimp only
      have e29 : iN (tk m) + 512 * 0 = iN op := by rw [hop2, Int32.mul_zero, Int32.add_zero]
      rw [e29]
      have b1 : Agr wPc S0 S' := a1.tr ((nwS_agr S (m + 1)).tr g7)
      have b2 : Agr wPr T0 T' := a2.tr ((nwT_agr T (m + 1)).tr g8)
      have g5 : Gr o (T.2.1 139) (T.2.1 140) (S'.2.1 29) N' dp 0 (m + 1) j p b k2 d := g5
      rw [a2.2.1 139 (by decide), a2.2.1 140 (by decide)] at g5
      have g6 : ∀ z, z < p → S'.2.1 29 z = S.2.1 29 z := g6
      have hpq := g3.put (show b < j by omega) (iN op)
      rw [Nat.add_assoc] at hpq
      refine IH j (by omega) (adS S' b (iN op)) T' (k + k2) (b + 1) (jD op D d) (N + N' + 1) (f1 + 1) (f2 + 1) (c + 1) hpq (by omega) ?_ (fun z hz2 => ?_) (b1.tr (adS_agr _ _ _)) b2 (by omega) (by omega) (by omega)
      · have l1 : Gr o (T0.2.1 139) (T0.2.1 140) ((adS S' b (iN op)).2.1 29) (N + N') dp 1 i0 m a0 p k D := (hg.cs (fun z z1 z2 => by rw [adS_29n S' b _ (by omega)]; exact g6 z z2)).le (by omega)
        have l2 : Gr o (T0.2.1 139) (T0.2.1 140) ((adS S' b (iN op)).2.1 29) (N + N') dp 0 (m + 1) j p b k2 d := (g5.cs (fun z z1 z2 => by rw [adS_29n S' b _ (by omega)])).le (by omega)
        have cdm : T0.2.1 139 m = iN (100 + op) := by
          rw [← a2.2.1 139 (by decide), ht.2.2.2.1, hop2]
          unfold TM
          rw [if_pos (by omega)]
        refine Or.inr (Or.inl ⟨rfl, Or.inr ⟨m, p, b, k, k2, D, d, op, l1, hop, cdm, l2, rfl, adS_29 S' b _, rfl, rfl⟩⟩)
      · rw [adS_29n S' b _ (by omega), g6 z (by omega)]; exact hz z hz2
    · have g1 : r6 (u2 S.1 24 6 (iN (m + 1)), S.2.1, S.2.2.1, S.2.2.2) v1 = some (0, S') := g1
      rw [g1, g2]
      dsimp only
      obtain ⟨r, S2, a2', w1, w2, w3, w4, w5⟩ := add_any x S' a' (iN (tk m)) 0 g7 g6
      rw [w1]
      dsimp only
      rw [nf_tloop x _ _ _ T' (nf_of g4 g5), lfX4_term_24_8, bfX4_term_24_8]
      unfold bfX4_term_24_85
      rw [if_pos (show (0 : Int32) = 0 from rfl), show bbz 0 = true from rfl, cond_true, ite_self]
      exact Or.inr ⟨S2, T', kf, a2', rfl, rfl, w4.trans g3, g4, g5, w2, w3, a1.tr (((nwS_agr S (m + 1)).tr g8).tr w5), a2.tr ((nwT_agr T (m + 1)).tr g9)⟩
  rw [lfX4_term_24_8, bfX4_term_24_8, if_neg n400, if_neg (show ¬ (1 : Int32) = 0 by decide), here_eq x h, lfX11_readTerm_130_5, bfX11_readTerm_130_5, show (42 : Int32) = iN 42 from rfl, signz_eq x T 42 (by omega)]
  dsimp only
  rw [takez_eq x h 42 (by omega) (by decide)]
  by_cases s0 : tk m = 42
  · rw [if_pos (show iN (tk m) = iN 42 by rw [s0]), if_pos s0]
    dsimp only
    rw [if_pos (show ¬ (1 : Int32) = 0 by decide)]
    exact go 42 (by omega) s0
  rw [if_neg (ne 42 (by omega) s0), if_neg s0, here_eq x h]
  dsimp only
  rw [if_neg (show ¬ ¬ (0 : Int32) = 0 from fun z => z rfl)]
  rw [show (47 : Int32) = iN 47 from rfl, signz_eq x T 47 (by omega)]
  dsimp only
  rw [takez_eq x h 47 (by omega) (by decide)]
  by_cases s1 : tk m = 47
  · rw [if_pos (show iN (tk m) = iN 47 by rw [s1]), if_pos s1]
    dsimp only
    rw [if_pos (show ¬ (1 : Int32) = 0 by decide)]
    exact go 47 (by omega) s1
  rw [if_neg (ne 47 (by omega) s1), if_neg s1, here_eq x h]
  dsimp only
  rw [if_neg (show ¬ ¬ (0 : Int32) = 0 from fun z => z rfl)]
  rw [show (37 : Int32) = iN 37 from rfl, signz_eq x T 37 (by omega)]
  dsimp only
  rw [takez_eq x h 37 (by omega) (by decide)]
  by_cases s2 : tk m = 37
  · rw [if_neg (show ¬ ¬ iN (tk m) = iN 37 from fun z => z (by rw [s2])), if_pos s2]
    dsimp only
    rw [if_neg (show ¬ (1 : Int32) = 0 by decide)]
    exact go 37 (by omega) s2
  rw [if_pos (ne 37 (by omega) s2), if_neg s2]
  dsimp only
  unfold bfX4_term_24_85
  rw [if_pos (show (0 : Int32) = 0 from rfl), show bbz 1 = true from rfl, cond_true]
  exact Or.inl ⟨S, T, m, k, p, D, N, rfl, rfl, h, hp, hg, hz, a1, a2⟩
theorem termz_all (x : XT) (n : Nat) (o : Bool) (tk pl vv : Nat → Nat) (dp : Nat) (S0 T0 : ST) (i0 l0 a0 : Nat) (ha0 : a0 ≤ i0) (v1 : Int32) (r0 : ST → Int32 → Int32 → Option (Int32 × ST)) (r1 r2 : ST → Int32 → Option (Int32 × ST)) (r3 : ST → Int32 → Int32 → Option (Int32 × ST)) (r4 r5 r6 : ST → Int32 → Option (Int32 × ST)) (q1 q2 q3 : ST → Int32 → Option (Unit × ST)) (hr : ∀ S T i l a, PQ S T n o tk pl vv i l a → Out n o tk pl vv S T 0 dp i l a (r6 S v1) (q3 T v1)) : ∀ (d m : Nat), n ≤ m + d → LTerm x n o tk pl vv dp S0 T0 i0 l0 a0 v1 r0 r1 r2 r3 r4 r5 r6 q1 q2 q3 m
  | 0, m, hm => termz_step x n o tk pl vv dp S0 T0 i0 l0 a0 ha0 v1 r0 r1 r2 r3 r4 r5 r6 q1 q2 q3 hr m (fun m' hlt S T k p D N f1 f2 c h => by
    have := h.2.2.2.2.2.2.2.1
    omega)
  | d + 1, m, hm => termz_step x n o tk pl vv dp S0 T0 i0 l0 a0 ha0 v1 r0 r1 r2 r3 r4 r5 r6 q1 q2 q3 hr m (fun m' hlt => termz_all x n o tk pl vv dp S0 T0 i0 l0 a0 ha0 v1 r0 r1 r2 r3 r4 r5 r6 q1 q2 q3 hr d m' (by omega))
theorem termz_ok (x : XT) (n : Nat) (o : Bool) (tk pl vv : Nat → Nat) (dp : Nat) (hP : HPart x n o tk pl vv dp) : HTerm x n o tk pl vv dp := by
  intro S T i l a N1 N2 h h1 h2
  obtain ⟨N1, rfl⟩ : ∃ z, N1 = z + 1 := ⟨N1 - 1, by omega⟩
  obtain ⟨N2, rfl⟩ : ∃ z, N2 = z + 1 := ⟨N2 - 1, by omega⟩
  have hn := h.1.1
  rw [q4_term, q11_readTerm]
  unfold bfX4_term_24_0 bfX11_readTerm_130_0
  dsimp only
  rcases hP S T i l a N1 N2 h (by omega) (by omega) with ⟨S', T', j, k, b, d, N, g1, g2, g3, g4, g5, g6, g7, g8⟩ | ⟨S', T', kf, a', g1, g2, g3, g4, g5, g6, g7, g8, g9⟩
  · rw [g1, g2]
    dsimp only
    have hj := g3.2.2.2.2.2.2.2.1
    have hg : Gr o (T.2.1 139) (T.2.1 140) (S'.2.1 29) (N + 1) dp 1 i j a b k d := Or.inr (Or.inl ⟨rfl, Or.inl g5⟩)
    have r := termz_all x n o tk pl vv dp S T i l a h.2.2.2.2.2.2.2.2.2 (iN (8 - dp)) (fun S z0 z1 => gqX4_test_24 x N1 0 S z0 z1) (fun S z0 => gqX4_test_24 x N1 1 S z0 0) (fun S z0 => gqX4_test_24 x N1 2 S z0 0) (fun S z0 z1 => gqX4_test_24 x N1 3 S z0 z1) (fun S z0 => gqX4_test_24 x N1 4 S z0 0) (fun S z0 => gqX4_test_24 x N1 5 S z0 0) (fun S z0 => gqX4_test_24 x N1 6 S z0 0) (fun S z0 => gqX11_readSum_130 x N2 0 S z0 0) (fun S z0 => gqX11_readSum_130 x N2 1 S z0 0) (fun S z0 => gqX11_readSum_130 x N2 2 S z0 0) (fun S T i l a h => hP S T i l a N1 N2 h (by omega) (by omega)) n j (by omega) S' T' k b d (N + 1) 20000 20000 0 g3 g4 hg g6 g7 g8 (by omega) (by omega) (by omega)
    rw [show iN 0 = 0 from rfl] at r
    exact r
  · rw [g1, g2]
    dsimp only
    rw [nf_tloop x _ _ _ T' (nf_of g4 g5) 19999, lfX4_term_24_8, bfX4_term_24_8]
    unfold bfX4_term_24_85
    rw [if_pos (show (0 : Int32) = 0 from rfl), show bbz 0 = true from rfl, cond_true, ite_self]
    exact Or.inr ⟨S', T', kf, a', rfl, rfl, g3, g4, g5, g6, g7, g8, g9⟩
def LSum (x : XT) (n : Nat) (o : Bool) (tk pl vv : Nat → Nat) (dp : Nat) (S0 T0 : ST) (i0 l0 a0 : Nat) (v1 : Int32) (r0 : ST → Int32 → Int32 → Option (Int32 × ST)) (r1 r2 : ST → Int32 → Option (Int32 × ST)) (r3 : ST → Int32 → Int32 → Option (Int32 × ST)) (r4 r5 r6 : ST → Int32 → Option (Int32 × ST)) (q1 q2 q3 : ST → Int32 → Option (Unit × ST)) (m : Nat) : Prop := ∀ (S T : ST) (k p : Nat) (D : DN) (N f1 f2 c : Nat), PQ S T n o tk pl vv m (l0 + k) p → p + i0 ≤ a0 + m → Gr o (T0.2.1 139) (T0.2.1 140) (S.2.1 29) N dp 2 i0 m a0 p k D → (∀ z, z < a0 → S.2.1 29 z = S0.2.1 29 z) → Agr wPc S0 S → Agr wPr T0 T → n + 1 < f1 + m → n + 1 < f2 + m → c ≤ m → Out n o tk pl vv S0 T0 2 dp i0 l0 a0 (lfX4_sum_24_8 x r0 r1 r2 r3 r4 r5 r6 f1 S v1 1 (iN c)) (lfX11_readSum_130_5 x q1 q2 q3 f2 T v1)
theorem sumz_step (x : XT) (n : Nat) (o : Bool) (tk pl vv : Nat → Nat) (dp : Nat) (S0 T0 : ST) (i0 l0 a0 : Nat) (ha0 : a0 ≤ i0) (v1 : Int32) (r0 : ST → Int32 → Int32 → Option (Int32 × ST)) (r1 r2 : ST → Int32 → Option (Int32 × ST)) (r3 : ST → Int32 → Int32 → Option (Int32 × ST)) (r4 r5 r6 : ST → Int32 → Option (Int32 × ST)) (q1 q2 q3 : ST → Int32 → Option (Unit × ST)) (hr : ∀ S T i l a, PQ S T n o tk pl vv i l a → Out n o tk pl vv S T 1 dp i l a (r5 S v1) (q2 T v1)) (m : Nat) (IH : ∀ m', m < m' → LSum x n o tk pl vv dp S0 T0 i0 l0 a0 v1 r0 r1 r2 r3 r4 r5 r6 q1 q2 q3 m') : LSum x n o tk pl vv dp S0 T0 i0 l0 a0 v1 r0 r1 r2 r3 r4 r5 r6 q1 q2 q3 m := by
  intro S T k p D N f1 f2 c h hp hg hz a1 a2 hf1 hf2 hc
  have hn := h.1.1
  have hm := h.2.2.2.2.2.2.2.1
  have ht := h.t
  obtain ⟨f1, rfl⟩ : ∃ z, f1 = z + 2 := ⟨f1 - 2, by omega⟩
  obtain ⟨f2, rfl⟩ : ∃ z, f2 = z + 2 := ⟨f2 - 2, by omega⟩
  have n400 : ¬ (400 : Int32) < iN c := fun z => by have := (iN_lt (m := 400) (by omega) (by omega)).mp z; omega
  have ne : ∀ e : Nat, e < 300 → tk m ≠ e → ¬ iN (tk m) = iN e := fun e he hne z => hne ((iN_eq (by omega) (by omega)).mp z)
  have go : ∀ op : Nat, (op = 43 ∨ op = 45) → tk m = op → Out n o tk pl vv S0 T0 2 dp i0 l0 a0 (bfX4_sum_24_37 x r0 r1 r2 r3 r4 r5 r6 (lfX4_sum_24_8 x r0 r1 r2 r3 r4 r5 r6 (f1 + 1)) S v1 (iN c)) (bfX11_readSum_130_29 x q1 q2 q3 (lfX11_readSum_130_5 x q1 q2 q3 (f2 + 1)) (nwT T (m + 1)) v1) := by
    intro op hop hop2
    have hmn := h.lt (by omega)
    have h1 := h.adv hmn
    unfold bfX4_sum_24_37 bfX11_readSum_130_29
    rw [here_eq x h]
    dsimp only
    rw [h.2.1, iN_succ, iN_succ]
    rcases hr _ _ _ _ _ h1 with ⟨S', T', j, k2, b, d, N', g1, g2, g3, g4, g5, g6, g7, g8⟩ | ⟨S', T', kf, a', g1, g2, g3, g4, g5, g6, g7, g8, g9⟩
    · have g1 : r5 (u2 S.1 24 6 (iN (m + 1)), S.2.1, S.2.2.1, S.2.2.2) v1 = some (1, S') := g1
      have hj := g3.2.2.2.2.2.2.2.1
      have lt1 := hg.ltt
      have lt2 := g5.ltt
      rw [g1, g2]
      dsimp only
      rw [add_eq x S' b (iN (tk m)) 0 g3.2.2.2.1 (by omega)]
      dsimp only
      have e29 : iN (tk m) + 512 * 0 = iN op := by rw [hop2, Int32.mul_zero, Int32.add_zero]
      rw [e29]
      have b1 : Agr wPc S0 S' := a1.tr ((nwS_agr S (m + 1)).tr g7)
      have b2 : Agr wPr T0 T' := a2.tr ((nwT_agr T (m + 1)).tr g8)
      have g5 : Gr o (T.2.1 139) (T.2.1 140) (S'.2.1 29) N' dp 1 (m + 1) j p b k2 d := g5
      rw [a2.2.1 139 (by decide), a2.2.1 140 (by decide)] at g5
      have g6 : ∀ z, z < p → S'.2.1 29 z = S.2.1 29 z := g6
      have hpq := g3.put (show b < j by omega) (iN op)
      rw [Nat.add_assoc] at hpq
      refine IH j (by omega) (adS S' b (iN op)) T' (k + k2) (b + 1) (jD op D d) (N + N' + 1) (f1 + 1) (f2 + 1) (c + 1) hpq (by omega) ?_ (fun z hz2 => ?_) (b1.tr (adS_agr _ _ _)) b2 (by omega) (by omega) (by omega)
      · have l1 : Gr o (T0.2.1 139) (T0.2.1 140) ((adS S' b (iN op)).2.1 29) (N + N') dp 2 i0 m a0 p k D := (hg.cs (fun z z1 z2 => by rw [adS_29n S' b _ (by omega)]; exact g6 z z2)).le (by omega)
        have l2 : Gr o (T0.2.1 139) (T0.2.1 140) ((adS S' b (iN op)).2.1 29) (N + N') dp 1 (m + 1) j p b k2 d := (g5.cs (fun z z1 z2 => by rw [adS_29n S' b _ (by omega)])).le (by omega)
        have cdm : T0.2.1 139 m = iN (100 + op) := by
          rw [← a2.2.1 139 (by decide), ht.2.2.2.1, hop2]
          unfold TM
          rw [if_pos (by omega)]
        refine Or.inr (Or.inr (Or.inl ⟨rfl, Or.inr ⟨m, p, b, k, k2, D, d, op, l1, hop, cdm, l2, rfl, adS_29 S' b _, rfl, rfl⟩⟩))
      · rw [adS_29n S' b _ (by omega), g6 z (by omega)]; exact hz z hz2
    · have g1 : r5 (u2 S.1 24 6 (iN (m + 1)), S.2.1, S.2.2.1, S.2.2.2) v1 = some (0, S') := g1
      rw [g1, g2]
      dsimp only
      obtain ⟨r, S2, a2', w1, w2, w3, w4, w5⟩ := add_any x S' a' (iN (tk m)) 0 g7 g6
      rw [w1]
      dsimp only
      rw [nf_sloop x _ _ _ T' (nf_of g4 g5), lfX4_sum_24_8, bfX4_sum_24_8]
      unfold bfX4_sum_24_76
      rw [if_pos (show (0 : Int32) = 0 from rfl), show bbz 0 = true from rfl, cond_true, ite_self]
      exact Or.inr ⟨S2, T', kf, a2', rfl, rfl, w4.trans g3, g4, g5, w2, w3, a1.tr (((nwS_agr S (m + 1)).tr g8).tr w5), a2.tr ((nwT_agr T (m + 1)).tr g9)⟩
  rw [lfX4_sum_24_8, bfX4_sum_24_8, if_neg n400, if_neg (show ¬ (1 : Int32) = 0 by decide), here_eq x h, lfX11_readSum_130_5, bfX11_readSum_130_5, show (43 : Int32) = iN 43 from rfl, signz_eq x T 43 (by omega)]
  dsimp only
  rw [takez_eq x h 43 (by omega) (by decide)]
  by_cases s0 : tk m = 43
  · rw [if_pos (show iN (tk m) = iN 43 by rw [s0]), if_pos s0]
    dsimp only
    rw [if_pos (show ¬ (1 : Int32) = 0 by decide)]
    exact go 43 (by omega) s0
  rw [if_neg (ne 43 (by omega) s0), if_neg s0, here_eq x h]
  dsimp only
  rw [if_neg (show ¬ ¬ (0 : Int32) = 0 from fun z => z rfl)]
  rw [show (45 : Int32) = iN 45 from rfl, signz_eq x T 45 (by omega)]
  dsimp only
  rw [takez_eq x h 45 (by omega) (by decide)]
  by_cases s2 : tk m = 45
  · rw [if_neg (show ¬ ¬ iN (tk m) = iN 45 from fun z => z (by rw [s2])), if_pos s2]
    dsimp only
    rw [if_neg (show ¬ (1 : Int32) = 0 by decide)]
    exact go 45 (by omega) s2
  rw [if_pos (ne 45 (by omega) s2), if_neg s2]
  dsimp only
  unfold bfX4_sum_24_76
  rw [if_pos (show (0 : Int32) = 0 from rfl), show bbz 1 = true from rfl, cond_true]
  exact Or.inl ⟨S, T, m, k, p, D, N, rfl, rfl, h, hp, hg, hz, a1, a2⟩
theorem sumz_all (x : XT) (n : Nat) (o : Bool) (tk pl vv : Nat → Nat) (dp : Nat) (S0 T0 : ST) (i0 l0 a0 : Nat) (ha0 : a0 ≤ i0) (v1 : Int32) (r0 : ST → Int32 → Int32 → Option (Int32 × ST)) (r1 r2 : ST → Int32 → Option (Int32 × ST)) (r3 : ST → Int32 → Int32 → Option (Int32 × ST)) (r4 r5 r6 : ST → Int32 → Option (Int32 × ST)) (q1 q2 q3 : ST → Int32 → Option (Unit × ST)) (hr : ∀ S T i l a, PQ S T n o tk pl vv i l a → Out n o tk pl vv S T 1 dp i l a (r5 S v1) (q2 T v1)) : ∀ (d m : Nat), n ≤ m + d → LSum x n o tk pl vv dp S0 T0 i0 l0 a0 v1 r0 r1 r2 r3 r4 r5 r6 q1 q2 q3 m
  | 0, m, hm => sumz_step x n o tk pl vv dp S0 T0 i0 l0 a0 ha0 v1 r0 r1 r2 r3 r4 r5 r6 q1 q2 q3 hr m (fun m' hlt S T k p D N f1 f2 c h => by
    have := h.2.2.2.2.2.2.2.1
    omega)
  | d + 1, m, hm => sumz_step x n o tk pl vv dp S0 T0 i0 l0 a0 ha0 v1 r0 r1 r2 r3 r4 r5 r6 q1 q2 q3 hr m (fun m' hlt => sumz_all x n o tk pl vv dp S0 T0 i0 l0 a0 ha0 v1 r0 r1 r2 r3 r4 r5 r6 q1 q2 q3 hr d m' (by omega))
theorem sumz_ok (x : XT) (n : Nat) (o : Bool) (tk pl vv : Nat → Nat) (dp : Nat) (hP : HTerm x n o tk pl vv dp) : HSum x n o tk pl vv dp := by
  intro S T i l a N1 N2 h h1 h2
  obtain ⟨N1, rfl⟩ : ∃ z, N1 = z + 1 := ⟨N1 - 1, by omega⟩
  obtain ⟨N2, rfl⟩ : ∃ z, N2 = z + 1 := ⟨N2 - 1, by omega⟩
  have hn := h.1.1
  rw [q4_sum, q11_readSum]
  unfold bfX4_sum_24_0 bfX11_readSum_130_0
  dsimp only
  rcases hP S T i l a N1 N2 h (by omega) (by omega) with ⟨S', T', j, k, b, d, N, g1, g2, g3, g4, g5, g6, g7, g8⟩ | ⟨S', T', kf, a', g1, g2, g3, g4, g5, g6, g7, g8, g9⟩
  · rw [g1, g2]
    dsimp only
    have hj := g3.2.2.2.2.2.2.2.1
    have hg : Gr o (T.2.1 139) (T.2.1 140) (S'.2.1 29) (N + 1) dp 2 i j a b k d := Or.inr (Or.inr (Or.inl ⟨rfl, Or.inl g5⟩))
    have r := sumz_all x n o tk pl vv dp S T i l a h.2.2.2.2.2.2.2.2.2 (iN (8 - dp)) (fun S z0 z1 => gqX4_test_24 x N1 0 S z0 z1) (fun S z0 => gqX4_test_24 x N1 1 S z0 0) (fun S z0 => gqX4_test_24 x N1 2 S z0 0) (fun S z0 z1 => gqX4_test_24 x N1 3 S z0 z1) (fun S z0 => gqX4_test_24 x N1 4 S z0 0) (fun S z0 => gqX4_test_24 x N1 5 S z0 0) (fun S z0 => gqX4_test_24 x N1 6 S z0 0) (fun S z0 => gqX11_readSum_130 x N2 0 S z0 0) (fun S z0 => gqX11_readSum_130 x N2 1 S z0 0) (fun S z0 => gqX11_readSum_130 x N2 2 S z0 0) (fun S T i l a h => hP S T i l a N1 N2 h (by omega) (by omega)) n j (by omega) S' T' k b d (N + 1) 20000 20000 0 g3 g4 hg g6 g7 g8 (by omega) (by omega) (by omega)
    rw [show iN 0 = 0 from rfl] at r
    exact r
  · rw [g1, g2]
    dsimp only
    rw [nf_sloop x _ _ _ T' (nf_of g4 g5) 19999, lfX4_sum_24_8, bfX4_sum_24_8]
    unfold bfX4_sum_24_76
    rw [if_pos (show (0 : Int32) = 0 from rfl), show bbz 0 = true from rfl, cond_true, ite_self]
    exact Or.inr ⟨S', T', kf, a', rfl, rfl, g3, g4, g5, g6, g7, g8, g9⟩
theorem sum_all8 (x : XT) (n : Nat) (o : Bool) (tk pl vv : Nat → Nat) : ∀ dp, dp ≤ 8 → HSum x n o tk pl vv dp
  | 0, h => sumz_ok x n o tk pl vv 0 (termz_ok x n o tk pl vv 0 (part_ok x n o tk pl vv 0 h (fun dp' e => by omega)))
  | dp + 1, h => sumz_ok x n o tk pl vv (dp + 1) (termz_ok x n o tk pl vv (dp + 1) (part_ok x n o tk pl vv (dp + 1) h (fun dp' e => by
    have e : dp = dp' := by omega
    subst e
    exact sum_all8 x n o tk pl vv dp (by omega))))
end TSUM
