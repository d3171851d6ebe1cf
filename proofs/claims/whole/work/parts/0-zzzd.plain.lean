section PLAIN
theorem cmp_ok (x : XT) (n : Nat) (o : Bool) (tk pl vv : Nat → Nat) (dp : Nat) (hdp : dp ≤ 8) (S T : ST) (i l a N1 N2 : Nat) (h : PQ S T n o tk pl vv i l a) (h1 : 4 + 4 * dp ≤ N1) (hb : tk i ≠ 40) (k2 : ST → Int32 → Int32 → Option (Unit × ST)) : Out n o tk pl vv S T 3 dp i l a (gqX4_test_24 x (N1 + 1) 2 S (iN (8 - dp)) 0) (bfX11_readPlain_130_2 x (fun S z0 => gqX11_readTest_130 x N2 0 S z0 0) (fun S z0 => gqX11_readTest_130 x N2 1 S z0 0) (fun S z0 => gqX11_readTest_130 x N2 2 S z0 0) k2 T (iN (8 - dp)) 0) := by
  have hn := h.1.1
  have hi7 := h.2.2.2.2.2.2.2.1
  have ht := h.t
  have ha := h.2.2.2.2.2.2.2.2.2
  have l1 := TM_lt ⟨tk i, by omega⟩
  dsimp only at l1
  rw [q4_comparison]
  unfold bfX4_comparison_24_0 bfX11_readPlain_130_2
  rw [if_pos (show (0 : Int32) = 0 from rfl), fine_ok x T h.2.2.2.2.2.2.1]
  dsimp only
  rw [if_pos (show ¬ (1 : Int32) = 0 by decide), h.2.2.2.2.1, inb_t (show i < 401 by omega) (by omega), cond_true, iN_nat (by omega), show (40 : Int32) = iN 40 from rfl, signz_eq x T 40 (by omega)]
  dsimp only
  rw [ht.2.2.2.1, if_pos (show ¬ iN (TM (tk i)) = iN (TM 40) from fun z => hb ((TM_eq ht.1 (show 40 ≤ 285 by omega) (by decide)).mp ((iN_eq (by omega) (by decide)).mp z)))]
  unfold gfX11_readSum_130
  rcases sum_all8 x n o tk pl vv dp hdp S T i l a N1 60 h h1 (by omega) with ⟨S1, T1, m, k, p, D, N, g1, g2, g3, g4, g5, g6, g7, g8⟩ | ⟨S1, T1, kf, a', g1, g2, g3, g4, g5, g6, g7, g8, g9⟩
  · have hm := g3.2.2.2.2.2.2.2.1
    have tm := g3.t
    have lt1 := g5.ltt
    rw [g1, g2]
    dsimp only
    rw [if_pos (show ¬ (1 : Int32) = 0 by decide), here_eq x g3, show (60 : Int32) = iN 60 from rfl, signz_eq x T1 60 (by omega)]
    dsimp only
    rw [takez_eq x g3 60 (by omega) (by decide)]
    have ne : ∀ e : Nat, e < 300 → tk m ≠ e → ¬ iN (tk m) = iN e := fun e he hne z => hne ((iN_eq (by omega) (by omega)).mp z)
    have go : ∀ op : Nat, (op = 60 ∨ op = 61 ∨ op = 62) → tk m = op → Out n o tk pl vv S T 3 dp i l a (bfX4_comparison_24_38 x (fun S z0 z1 => gqX4_test_24 x N1 0 S z0 z1) (fun S z0 => gqX4_test_24 x N1 1 S z0 0) (fun S z0 => gqX4_test_24 x N1 2 S z0 0) (fun S z0 z1 => gqX4_test_24 x N1 3 S z0 z1) (fun S z0 => gqX4_test_24 x N1 4 S z0 0) (fun S z0 => gqX4_test_24 x N1 5 S z0 0) (fun S z0 => gqX4_test_24 x N1 6 S z0 0) S1 (iN (8 - dp)) (iN (tk m))) (bfX11_readPlain_130_128 x (fun S z0 => gqX11_readTest_130 x N2 0 S z0 0) (fun S z0 => gqX11_readTest_130 x N2 1 S z0 0) (fun S z0 => gqX11_readTest_130 x N2 2 S z0 0) (nwT T1 (m + 1)) (iN (8 - dp))) := by
      intro op hop hop2
      have hmn := g3.lt (by omega)
      have h2 := g3.adv hmn
      unfold bfX4_comparison_24_38 bfX11_readPlain_130_128 bfX11_readPlain_130_133 gfX11_readSum_130
      rw [g3.2.1, iN_succ]
      dsimp only
      rcases sum_all8 x n o tk pl vv dp hdp _ _ _ _ _ N1 60 h2 h1 (by omega) with ⟨S2, T2, j, k2', b, d, N', f1, f2, f3, f4, f5, f6, f7, f8⟩ | ⟨S2, T2, kf, a', f1, f2, f3, f4, f5, f6, f7, f8, f9⟩
      · have f1 : gqX4_test_24 x N1 4 (u2 S1.1 24 6 (iN (m + 1)), S1.2.1, S1.2.2.1, S1.2.2.2) (iN (8 - dp)) 0 = some (1, S2) := f1
        have hj := f3.2.2.2.2.2.2.2.1
        have lt2 := f5.ltt
        rw [f1, f2]
        dsimp only
        rw [if_pos (show ¬ (1 : Int32) = 0 by decide), add_eq x S2 b (iN (tk m)) 0 f3.2.2.2.1 (by omega)]
        dsimp only
        have e29 : iN (tk m) + 512 * 0 = iN op := by rw [hop2, Int32.mul_zero, Int32.add_zero]
        rw [e29]
        have b1 : Agr wPc S S2 := g7.tr ((nwS_agr S1 (m + 1)).tr f7)
        have b2 : Agr wPr T T2 := g8.tr ((nwT_agr T1 (m + 1)).tr f8)
        have f5 : Gr o (T1.2.1 139) (T1.2.1 140) (S2.2.1 29) N' dp 2 (m + 1) j p b k2' d := f5
        rw [g8.2.1 139 (by decide), g8.2.1 140 (by decide)] at f5
        have f6 : ∀ z, z < p → S2.2.1 29 z = S1.2.1 29 z := f6
        have hpq := f3.put (show b < j by omega) (iN op)
        rw [Nat.add_assoc] at hpq
        refine Or.inl ⟨adS S2 b (iN op), T2, j, k + k2', b + 1, jD op D d, N + N' + 1, rfl, rfl, hpq, by omega, ?_, fun z hz => ?_, b1.tr (adS_agr _ _ _), b2⟩
        · have l1 : Gr o (T.2.1 139) (T.2.1 140) ((adS S2 b (iN op)).2.1 29) (N + N') dp 2 i m a p k D := (g5.cs (fun z z1 z2 => by rw [adS_29n S2 b _ (by omega)]; exact f6 z z2)).le (by omega)
          have l2 : Gr o (T.2.1 139) (T.2.1 140) ((adS S2 b (iN op)).2.1 29) (N + N') dp 2 (m + 1) j p b k2' d := (f5.cs (fun z z1 z2 => by rw [adS_29n S2 b _ (by omega)])).le (by omega)
          have cdm : T.2.1 139 m = iN (100 + op) := by
            rw [← g8.2.1 139 (by decide), tm.2.2.2.1, hop2]
            unfold TM
            rw [if_pos (by omega)]
          exact Or.inr (Or.inr (Or.inr (Or.inl ⟨rfl, Or.inr ⟨m, p, b, k, k2', D, d, op, l1, hop, cdm, l2, rfl, adS_29 S2 b _, rfl, rfl⟩⟩)))
        · rw [adS_29n S2 b _ (by omega), f6 z (by omega)]; exact g6 z hz
      · have f1 : gqX4_test_24 x N1 4 (u2 S1.1 24 6 (iN (m + 1)), S1.2.1, S1.2.2.1, S1.2.2.2) (iN (8 - dp)) 0 = some (0, S2) := f1
        rw [f1, f2]
        dsimp only
        rw [if_neg (show ¬ ¬ (0 : Int32) = 0 from fun z => z rfl)]
        exact Or.inr ⟨S2, T2, kf, a', rfl, rfl, f3, f4, f5, f6, f7, g7.tr ((nwS_agr S1 (m + 1)).tr f8), g8.tr ((nwT_agr T1 (m + 1)).tr f9)⟩
    by_cases s0 : tk m = 60
    · rw [if_pos (show iN (tk m) = iN 60 by rw [s0]), if_pos s0]
      dsimp only
      rw [if_pos (show ¬ (1 : Int32) = 0 by decide)]
      exact go 60 (by omega) s0
    rw [if_neg (ne 60 (by omega) s0), if_neg s0]
    dsimp only
    rw [if_neg (show ¬ ¬ (0 : Int32) = 0 from fun z => z rfl), show (62 : Int32) = iN 62 from rfl, signz_eq x T1 62 (by omega)]
    dsimp only
    rw [takez_eq x g3 62 (by omega) (by decide)]
    by_cases s1 : tk m = 62
    · rw [if_pos (show iN (tk m) = iN 62 by rw [s1]), if_pos s1]
      dsimp only
      rw [if_pos (show ¬ (1 : Int32) = 0 by decide)]
      exact go 62 (by omega) s1
    rw [if_neg (ne 62 (by omega) s1), if_neg s1]
    dsimp only
    rw [if_neg (show ¬ ¬ (0 : Int32) = 0 from fun z => z rfl), show (61 : Int32) = iN 61 from rfl, signz_eq x T1 61 (by omega)]
    dsimp only
    rw [must_eq x g3 61 (by omega) (by decide)]
    by_cases s2 : tk m = 61
    · rw [if_pos (show iN (tk m) = iN 61 by rw [s2]), if_pos s2]
      dsimp only
      exact go 61 (by omega) s2
    rw [if_neg (ne 61 (by omega) s2), if_neg s2, faulty_eq x g3]
    dsimp only
    unfold bfX11_readPlain_130_128 bfX11_readPlain_130_133 gfX11_readSum_130
    rw [show bbz 0 = true from rfl, cond_true, nf_sum x (flTk T1 (pl m)) (nf_of (u2_s T1.1 130 21 _) tm.2.2.2.2.2.1) 57]
    exact Or.inr (g3.fl g7 g8)
  · rw [g1, g2]
    dsimp only
    have nf := nf_of g4 g5
    rw [if_neg (show ¬ ¬ (0 : Int32) = 0 from fun z => z rfl), show (60 : Int32) = iN 60 from rfl, signz_eq x T1 60 (by omega)]
    dsimp only
    rw [takes_nf x T1 nf]
    dsimp only
    rw [if_neg (show ¬ ¬ (0 : Int32) = 0 from fun z => z rfl), show (62 : Int32) = iN 62 from rfl, signz_eq x T1 62 (by omega)]
    dsimp only
    rw [takes_nf x T1 nf]
    dsimp only
    rw [if_neg (show ¬ ¬ (0 : Int32) = 0 from fun z => z rfl), show (61 : Int32) = iN 61 from rfl, signz_eq x T1 61 (by omega)]
    dsimp only
    rw [must_nf x T1 nf]
    dsimp only
    unfold bfX11_readPlain_130_128 bfX11_readPlain_130_133 gfX11_readSum_130
    rw [nf_sum x T1 nf 57]
    exact Or.inr ⟨S1, T1, kf, a', rfl, rfl, g3, g4, g5, g6, g7, g8, g9⟩
theorem tbr_ok (x : XT) (n : Nat) (o : Bool) (tk pl vv : Nat → Nat) (dp : Nat) (hdp : dp ≤ 8) (HT : ∀ dp', dp = dp' + 1 → HTO x n o tk pl vv dp') (S T : ST) (i l a N1 N2 : Nat) (h : PQ S T n o tk pl vv i l a) (h1 : 4 + 4 * dp ≤ N1) (h2 : 3 * dp ≤ N2) (hb : tk i = 40) (k2 : ST → Int32 → Int32 → Option (Unit × ST)) : Out n o tk pl vv S T 3 dp i l a (gqX4_test_24 x (N1 + 1) 3 S (iN (8 - dp)) 41) (bfX11_readPlain_130_2 x (fun S z0 => gqX11_readTest_130 x N2 0 S z0 0) (fun S z0 => gqX11_readTest_130 x N2 1 S z0 0) (fun S z0 => gqX11_readTest_130 x N2 2 S z0 0) k2 T (iN (8 - dp)) 0) := by
  have hn := h.1.1
  have hin := h.lt (by rw [hb]; decide)
  have ti := h.t
  have e139 : T.2.1 139 i = iN 140 := by rw [ti.2.2.2.1, hb]; rfl
  rw [q4_inBrackets]
  unfold bfX4_inBrackets_24_0 bfX11_readPlain_130_2
  rw [if_pos (show (0 : Int32) = 0 from rfl), fine_ok x T h.2.2.2.2.2.2.1]
  dsimp only
  rw [if_pos (show ¬ (1 : Int32) = 0 by decide), h.2.2.2.2.1, inb_t (show i < 401 by omega) (by omega), cond_true, iN_nat (by omega), e139, show (40 : Int32) = iN 40 from rfl, signz_eq x T 40 (by omega)]
  dsimp only
  rw [if_neg (show ¬ ¬ iN 140 = iN (TM 40) from fun z => z rfl)]
  unfold bfX4_inBrackets_24_53 bfX4_inBrackets_24_65 bfX4_inBrackets_24_66 bfX11_readPlain_130_53 bfX11_readPlain_130_133
  cases dp with
  | zero =>
    rw [if_neg (show ¬ iN (8 - 0) < 8 by decide), faulty_eq x h, if_neg (fun z => z (show iN (8 - 0) = 8 from rfl)), faults_eq x h]
    dsimp only
    rw [fine_nf x (flTk T (pl i)) (nf_of (u2_s T.1 130 21 _) ti.2.2.2.2.2.1)]
    dsimp only
    rw [show bbz 0 = true from rfl, cond_true, if_neg (show ¬ ¬ (0 : Int32) = 0 from fun z => z rfl)]
    exact Or.inr (h.fl Agr.rf Agr.rf)
  | succ dp =>
    have e8 : iN (8 - (dp + 1)) + 1 = iN (8 - dp) := by rw [iN_succ, show 8 - (dp + 1) + 1 = 8 - dp by omega]
    rw [if_pos (show iN (8 - (dp + 1)) < 8 from (iN_lt (n := 8) (by omega) (by omega)).mpr (show 8 - (dp + 1) < 8 by omega)), if_neg (show ¬ ¬ (41 : Int32) = 41 from fun z => z rfl), h.2.1, iN_succ, e8, if_pos (show ¬ iN (8 - (dp + 1)) = 8 from fun z => by have := (iN_eq (n := 8) (by omega) (by omega)).mp z; omega), fine_ok x T h.2.2.2.2.2.2.1]
    dsimp only
    rw [if_pos (show ¬ (1 : Int32) = 0 by decide), h.2.2.2.2.1, iN_succ]
    have hs := HT dp rfl (nwS S (i + 1)) (nwT T (i + 1)) (i + 1) l a N1 N2 (h.adv hin) (by omega) (by omega)
    rcases hs with ⟨S', T', j, k, b, d, N, g1, g2, g3, g4, g5, g6, g7, g8⟩ | ⟨S', T', k, a', g1, g2, g3, g4, g5, g6, g7, g8, g9⟩
    · have g1 : gqX4_test_24 x N1 0 (u2 S.1 24 6 (iN (i + 1)), S.2.1, S.2.2.1, S.2.2.2) (iN (8 - dp)) 271 = some (1, S') := g1
      have g2 : gqX11_readTest_130 x N2 0 (u2 T.1 130 19 (iN (i + 1)), T.2.1, T.2.2.1, T.2.2.2) (iN (8 - dp)) 0 = some ((), T') := g2
      have a1 : Agr wPc S S' := (nwS_agr S (i + 1)).tr g7
      have a2 : Agr wPr T T' := (nwT_agr T (i + 1)).tr g8
      rw [g1, g2]
      dsimp only
      rw [if_neg (show ¬ (1 : Int32) = 0 by decide), show (41 : Int32) = iN 41 from rfl, signz_eq x T' 41 (by omega), take_eq x g3 41 (by omega)]
      dsimp only
      rw [must_eq x g3 41 (by omega) (by decide)]
      by_cases c : tk j = 41
      · rw [if_pos c, if_pos c]
        dsimp only
        rw [if_neg (show ¬ (1 : Int32) = 0 by decide), show bbz 1 = true from rfl, cond_true]
        have hj := g3.lt (by rw [c]; decide)
        refine Or.inl ⟨_, _, j + 1, k, b, d, N + 1, rfl, rfl, g3.adv hj, by omega, ?_, g6, a1.tr (nwS_agr S' _), a2.tr (nwT_agr T' _)⟩
        refine Or.inr (Or.inr (Or.inr (Or.inl ⟨rfl, Or.inl ⟨dp, j, rfl, rfl, e139, ?_, g5⟩⟩)))
        have := g3.t.2.2.2.1
        rw [c, a2.2.1 139 (by decide)] at this
        exact this
      · rw [if_neg c, if_neg c]
        dsimp only
        rw [if_pos (show (0 : Int32) = 0 from rfl), show bbz 0 = true from rfl, cond_true]
        exact Or.inr (g3.fl a1 a2)
    · have g1 : gqX4_test_24 x N1 0 (u2 S.1 24 6 (iN (i + 1)), S.2.1, S.2.2.1, S.2.2.2) (iN (8 - dp)) 271 = some (0, S') := g1
      have g2 : gqX11_readTest_130 x N2 0 (u2 T.1 130 19 (iN (i + 1)), T.2.1, T.2.2.1, T.2.2.2) (iN (8 - dp)) 0 = some ((), T') := g2
      rw [g1, g2]
      dsimp only
      rw [if_pos (show (0 : Int32) = 0 from rfl), show bbz 0 = true from rfl, cond_true, show (41 : Int32) = iN 41 from rfl, signz_eq x T' 41 (by omega)]
      dsimp only
      rw [must_nf x T' (nf_of g4 g5)]
      exact Or.inr ⟨S', T', k, a', rfl, rfl, g3, g4, g5, g6, g7, (nwS_agr S (i + 1)).tr g8, (nwT_agr T (i + 1)).tr g9⟩
/-- the rest of PLAIN behind its "not"s -/
theorem pl47 (x : XT) (n : Nat) (o : Bool) (tk pl vv : Nat → Nat) (dp : Nat) (hdp : dp ≤ 8) (HT : ∀ dp', dp = dp' + 1 → HTO x n o tk pl vv dp') (S0 T0 S T : ST) (i0 l a q N1 N2 : Nat) (ha0 : a ≤ i0) (h : PQ S T n o tk pl vv (i0 + q) l a) (a1 : Agr wPc S0 S) (a2 : Agr wPr T0 T) (e29 : S.2.1 29 = S0.2.1 29) (hq : ∀ r, r < q → T0.2.1 139 (i0 + r) = iN 7) (h1 : 5 + 4 * dp ≤ N1) (h2 : 3 * dp ≤ N2) (hnot : tk (i0 + q) ≠ 273) (k2 : ST → Int32 → Int32 → Option (Unit × ST)) : Out n o tk pl vv S0 T0 4 dp i0 l a (bfX4_plain_24_47 x (fun S z0 z1 => gqX4_test_24 x N1 0 S z0 z1) (fun S z0 => gqX4_test_24 x N1 1 S z0 0) (fun S z0 => gqX4_test_24 x N1 2 S z0 0) (fun S z0 z1 => gqX4_test_24 x N1 3 S z0 z1) (fun S z0 => gqX4_test_24 x N1 4 S z0 0) (fun S z0 => gqX4_test_24 x N1 5 S z0 0) (fun S z0 => gqX4_test_24 x N1 6 S z0 0) S (iN (8 - dp)) (iN (q % 2))) (bfX11_readPlain_130_2 x (fun S z0 => gqX11_readTest_130 x N2 0 S z0 0) (fun S z0 => gqX11_readTest_130 x N2 1 S z0 0) (fun S z0 => gqX11_readTest_130 x N2 2 S z0 0) k2 T (iN (8 - dp)) 0) := by
  have hn := h.1.1
  have hi7 := h.2.2.2.2.2.2.2.1
  have ht := h.t
  obtain ⟨M, rfl⟩ : ∃ z, N1 = z + 1 := ⟨N1 - 1, by omega⟩
  have pos : ∃ rc, bfX4_plain_24_47 x (fun S z0 z1 => gqX4_test_24 x (M + 1) 0 S z0 z1) (fun S z0 => gqX4_test_24 x (M + 1) 1 S z0 0) (fun S z0 => gqX4_test_24 x (M + 1) 2 S z0 0) (fun S z0 z1 => gqX4_test_24 x (M + 1) 3 S z0 z1) (fun S z0 => gqX4_test_24 x (M + 1) 4 S z0 0) (fun S z0 => gqX4_test_24 x (M + 1) 5 S z0 0) (fun S z0 => gqX4_test_24 x (M + 1) 6 S z0 0) S (iN (8 - dp)) (iN (q % 2)) = (match rc with
      | none => none
      | some (r8, S9) => (if r8 = 0 then some (0, S9) else (if iN (q % 2) = 0 then some (1, S9) else (match gfX9_add_25 x S9 273 0 with
        | none => none
        | some (r4, S5) => some (1, S5))))) ∧ Out n o tk pl vv S T 3 dp (i0 + q) l a rc (bfX11_readPlain_130_2 x (fun S z0 => gqX11_readTest_130 x N2 0 S z0 0) (fun S z0 => gqX11_readTest_130 x N2 1 S z0 0) (fun S z0 => gqX11_readTest_130 x N2 2 S z0 0) k2 T (iN (8 - dp)) 0) := by
    unfold bfX4_plain_24_47 bfX4_plain_24_77 bfX4_plain_24_79 bfX4_plain_24_95
    rw [here_eq x h]
    dsimp only
    by_cases hb : tk (i0 + q) = 40
    · refine ⟨_, ?_, tbr_ok x n o tk pl vv dp hdp HT S T (i0 + q) l a M N2 h (by omega) h2 hb k2⟩
      rw [if_neg (show ¬ ¬ iN (tk (i0 + q)) = 40 from fun z => z (by rw [hb]; rfl))]
      cases gqX4_test_24 x (M + 1) 3 S (iN (8 - dp)) 41 with
      | none => rfl
      | some z =>
        obtain ⟨r8, S9⟩ := z
        dsimp only
        by_cases r0 : r8 = 0
        · rw [if_pos r0, if_pos r0]
        · rw [if_neg r0, if_neg r0]
          by_cases c : iN (q % 2) = 0
          · rw [if_pos c, if_pos c]
          · rw [if_neg c, if_neg c]
            cases gfX9_add_25 x S9 273 0 with
            | none => rfl
            | some z => rfl
    · refine ⟨_, ?_, cmp_ok x n o tk pl vv dp hdp S T (i0 + q) l a M N2 h (by omega) hb k2⟩
      rw [if_pos (show ¬ iN (tk (i0 + q)) = 40 from fun z => hb ((iN_eq (n := 40) (by omega) (by omega)).mp z))]
      cases gqX4_test_24 x (M + 1) 2 S (iN (8 - dp)) 0 with
      | none => rfl
      | some z =>
        obtain ⟨r8, S9⟩ := z
        dsimp only
        by_cases r0 : r8 = 0
        · rw [if_neg (fun z => z r0), if_pos r0]
        · rw [if_pos r0, if_neg r0]
          by_cases c : iN (q % 2) = 0
          · rw [if_pos c, if_pos c]
          · rw [if_neg c, if_neg c]
            cases gfX9_add_25 x S9 273 0 with
            | none => rfl
            | some z => rfl
  obtain ⟨rc, e1, e2⟩ := pos
  rw [e1]
  rcases e2 with ⟨S', T', j, k, b, d, N, g1, g2, g3, g4, g5, g6, g7, g8⟩ | ⟨S', T', k, a', g1, g2, g3, g4, g5, g6, g7, g8, g9⟩
  · have hj := g3.2.2.2.2.2.2.2.1
    have lt1 := g5.ltt
    rw [g1, g2]
    dsimp only
    rw [if_neg (show ¬ (1 : Int32) = 0 by decide)]
    rw [a2.2.1 139 (by decide), a2.2.1 140 (by decide)] at g5
    rcases (show q % 2 = 0 ∨ q % 2 = 1 by omega) with c | c
    · rw [c, if_pos (show iN 0 = 0 from rfl)]
      refine Or.inl ⟨S', T', j, k, b, d, N + 1, rfl, rfl, g3, by omega, ?_, fun z hz => (g6 z hz).trans (congrFun e29 z), a1.tr g7, a2.tr g8⟩
      exact Or.inr (Or.inr (Or.inr (Or.inr (Or.inl ⟨rfl, q, b, d, hq, g5, Or.inl ⟨c, rfl, rfl⟩⟩))))
    · rw [c, if_neg (show ¬ iN 1 = 0 by decide), add_eq x S' b 273 0 g3.2.2.2.1 (by omega), show (273 : Int32) + 512 * 0 = iN 273 from rfl]
      dsimp only
      refine Or.inl ⟨adS S' b (iN 273), T', j, k, b + 1, nD d, N + 1, rfl, rfl, g3.put (by omega) _, by omega, ?_, fun z hz => ?_, (a1.tr g7).tr (adS_agr _ _ _), a2.tr g8⟩
      · have l1 : Gr o (T0.2.1 139) (T0.2.1 140) ((adS S' b (iN 273)).2.1 29) N dp 3 (i0 + q) j a b k d := g5.cs (fun z z1 z2 => by rw [adS_29n S' b _ (by omega)])
        exact Or.inr (Or.inr (Or.inr (Or.inr (Or.inl ⟨rfl, q, b, d, hq, l1, Or.inr ⟨c, rfl, adS_29 S' b _, rfl⟩⟩))))
      · rw [adS_29n S' b _ (by omega)]; exact (g6 z hz).trans (congrFun e29 z)
  · rw [g1, g2]
    dsimp only
    rw [if_pos (show (0 : Int32) = 0 from rfl)]
    exact Or.inr ⟨S', T', k, a', rfl, rfl, g3, g4, g5, g6, g7, a1.tr g8, a2.tr g9⟩
theorem pl_nots (x : XT) (n : Nat) (o : Bool) (tk pl vv : Nat → Nat) (dp : Nat) (hdp : dp ≤ 8) (HT : ∀ dp', dp = dp' + 1 → HTO x n o tk pl vv dp') (S0 T0 : ST) (i0 l a N1 N2 : Nat) (ha0 : a ≤ i0) (h1 : 5 + 4 * dp ≤ N1) (h2 : 3 * dp ≤ N2) : ∀ (d q f1 f2 : Nat) (S T : ST), n ≤ i0 + q + d → PQ S T n o tk pl vv (i0 + q) l a → Agr wPc S0 S → Agr wPr T0 T → S.2.1 29 = S0.2.1 29 → (∀ r, r < q → T0.2.1 139 (i0 + r) = iN 7) → d < f1 → d + 1 < f2 → Out n o tk pl vv S0 T0 4 dp i0 l a (lfX4_plain_24_4 x (fun S z0 z1 => gqX4_test_24 x N1 0 S z0 z1) (fun S z0 => gqX4_test_24 x N1 1 S z0 0) (fun S z0 => gqX4_test_24 x N1 2 S z0 0) (fun S z0 z1 => gqX4_test_24 x N1 3 S z0 z1) (fun S z0 => gqX4_test_24 x N1 4 S z0 0) (fun S z0 => gqX4_test_24 x N1 5 S z0 0) (fun S z0 => gqX4_test_24 x N1 6 S z0 0) f1 S (iN (8 - dp)) (iN (q % 2)) (iN q)) (lfX11_readPlain_130_2 x (fun S z0 => gqX11_readTest_130 x N2 0 S z0 0) (fun S z0 => gqX11_readTest_130 x N2 1 S z0 0) (fun S z0 => gqX11_readTest_130 x N2 2 S z0 0) f2 T (iN (8 - dp)) 1) := by
  intro d
  induction d with
  | zero =>
    intro q f1 f2 S T hd h a1 a2 e29 hq l1 l2
    obtain ⟨f1, rfl⟩ : ∃ z, f1 = z + 1 := ⟨f1 - 1, by omega⟩
    obtain ⟨f2, rfl⟩ : ∃ z, f2 = z + 2 := ⟨f2 - 2, by omega⟩
    have hn := h.1.1
    have hm := h.2.2.2.2.2.2.2.1
    have ht := h.t
    have hnot : tk (i0 + q) ≠ 273 := by
      rw [ht.2.2.2.2.1.mpr (by omega)]; decide
    have tz : gfX11_takes0_130 x T 7 = some (0, T) := by
      have := takez_eq x h 273 (by omega) (by decide)
      rw [if_neg hnot] at this
      exact this
    rw [lfX4_plain_24_4, bfX4_plain_24_4, if_neg (show ¬ (400 : Int32) < iN q from fun z => by have := (iN_lt (m := 400) (by omega) (by omega)).mp z; omega), here_eq x h, lfX11_readPlain_130_2, bfX11_readPlain_130_2, if_neg (show ¬ (1 : Int32) = 0 by decide), tz]
    dsimp only
    rw [if_pos (show ¬ iN (tk (i0 + q)) = 273 from fun z => hnot ((iN_eq (n := 273) (by omega) (by omega)).mp z)), lfX11_readPlain_130_2]
    exact pl47 x n o tk pl vv dp hdp HT S0 T0 S T i0 l a q N1 N2 ha0 h a1 a2 e29 hq h1 h2 hnot _
  | succ d ih =>
    intro q f1 f2 S T hd h a1 a2 e29 hq l1 l2
    obtain ⟨f1, rfl⟩ : ∃ z, f1 = z + 1 := ⟨f1 - 1, by omega⟩
    obtain ⟨f2, rfl⟩ : ∃ z, f2 = z + 2 := ⟨f2 - 2, by omega⟩
    have hn := h.1.1
    have hm := h.2.2.2.2.2.2.2.1
    have ht := h.t
    have tz := takez_eq x h 273 (by omega) (by decide)
    have tz : gfX11_takes0_130 x T 7 = if tk (i0 + q) = 273 then some (1, nwT T (i0 + q + 1)) else some (0, T) := tz
    rw [lfX4_plain_24_4, bfX4_plain_24_4, if_neg (show ¬ (400 : Int32) < iN q from fun z => by have := (iN_lt (m := 400) (by omega) (by omega)).mp z; omega), here_eq x h, lfX11_readPlain_130_2, bfX11_readPlain_130_2, if_neg (show ¬ (1 : Int32) = 0 by decide), tz]
    dsimp only
    by_cases hnot : tk (i0 + q) = 273
    · have hmn := h.lt (by omega)
      rw [if_neg (show ¬ ¬ iN (tk (i0 + q)) = 273 from fun z => z (by rw [hnot]; rfl)), if_pos hnot]
      dsimp only
      unfold bfX4_plain_24_30
      rw [h.2.1, iN_succ, iN_succ]
      have r := ih (q + 1) f1 (f2 + 1) (nwS S (i0 + q + 1)) (nwT T (i0 + q + 1)) (by omega) (h.adv hmn) (a1.tr (nwS_agr _ _)) (a2.tr (nwT_agr _ _)) e29 (fun r hr => by
        by_cases e : r = q
        · subst e
          rw [← a2.2.1 139 (by decide), ht.2.2.2.1, hnot]; rfl
        · exact hq r (by omega)) (by omega) (by omega)
      rcases (show q % 2 = 0 ∨ q % 2 = 1 by omega) with c | c
      · rw [show (q + 1) % 2 = 1 by omega] at r
        rw [c, if_neg (show ¬ ¬ iN 0 = 0 from fun z => z rfl)]
        exact r
      · rw [show (q + 1) % 2 = 0 by omega] at r
        rw [c, if_pos (show ¬ iN 1 = 0 by decide)]
        exact r
    · rw [if_pos (show ¬ iN (tk (i0 + q)) = 273 from fun z => hnot ((iN_eq (n := 273) (by omega) (by omega)).mp z)), if_neg hnot]
      dsimp only
      rw [lfX11_readPlain_130_2]
      exact pl47 x n o tk pl vv dp hdp HT S0 T0 S T i0 l a q N1 N2 ha0 h a1 a2 e29 hq h1 h2 hnot _
theorem plain_ok (x : XT) (n : Nat) (o : Bool) (tk pl vv : Nat → Nat) (dp : Nat) (hdp : dp ≤ 8) (HT : ∀ dp', dp = dp' + 1 → HTO x n o tk pl vv dp') : HPl x n o tk pl vv dp := by
  intro S T i l a N1 N2 h h1 h2
  obtain ⟨N1, rfl⟩ : ∃ z, N1 = z + 1 := ⟨N1 - 1, by omega⟩
  obtain ⟨N2, rfl⟩ : ∃ z, N2 = z + 1 := ⟨N2 - 1, by omega⟩
  have hn := h.1.1
  rw [q4_plain, q11_readPlain]
  unfold bfX4_plain_24_0 bfX11_readPlain_130_0
  have r := pl_nots x n o tk pl vv dp hdp HT S T i l a N1 N2 h.2.2.2.2.2.2.2.2.2 (by omega) (by omega) n 0 20000 20000 S T (by omega) h Agr.rf Agr.rf rfl (fun r hr => by omega) (by omega) (by omega)
  rw [show iN (0 % 2) = 0 from rfl] at r
  exact r
theorem test_all8 (x : XT) (n : Nat) (o : Bool) (tk pl vv : Nat → Nat) : ∀ dp, dp ≤ 8 → HTO x n o tk pl vv dp
  | 0, h => orz_ok x n o tk pl vv 0 (andz_ok x n o tk pl vv 0 (plain_ok x n o tk pl vv 0 h (fun dp' e => by omega)))
  | dp + 1, h => orz_ok x n o tk pl vv (dp + 1) (andz_ok x n o tk pl vv (dp + 1) (plain_ok x n o tk pl vv (dp + 1) h (fun dp' e => by
    have e : dp = dp' := by omega
    subst e
    exact test_all8 x n o tk pl vv dp (by omega))))
theorem nf_plain (x : XT) (T : ST) (h : ¬ T.1 130 21 = -1) (N : Nat) (a b : Int32) : gqX11_readTest_130 x (N + 1) 2 T a b = some ((), T) := by
  rw [q11_readPlain]
  unfold bfX11_readPlain_130_0
  rw [lfX11_readPlain_130_2, bfX11_readPlain_130_2, if_neg (show ¬ (1 : Int32) = 0 by decide), takes_nf x T h]
  dsimp only
  rw [lfX11_readPlain_130_2, bfX11_readPlain_130_2, if_pos (show (0 : Int32) = 0 from rfl), fine_nf x T h]
  dsimp only
  rw [if_neg (show ¬ ¬ (0 : Int32) = 0 from fun z => z rfl)]
theorem nf_both (x : XT) (T : ST) (h : ¬ T.1 130 21 = -1) (N : Nat) (a b : Int32) : gqX11_readTest_130 x (N + 2) 1 T a b = some ((), T) := by
  rw [q11_readBoth]
  unfold bfX11_readBoth_130_0
  dsimp only
  rw [nf_plain x T h]
  dsimp only
  rw [nf_bloop x _ _ _ T h 19999]
theorem nf_test (x : XT) (T : ST) (h : ¬ T.1 130 21 = -1) (N : Nat) (a b : Int32) : gqX11_readTest_130 x (N + 3) 0 T a b = some ((), T) := by
  rw [q11_readTest]
  unfold bfX11_readTest_130_0
  dsimp only
  rw [nf_both x T h]
  dsimp only
  rw [nf_oloop x _ _ _ T h 19999]
end PLAIN
