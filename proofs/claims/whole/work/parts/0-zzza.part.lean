section PART
/-- a step is kept, and one TOKEN goes by: a leaf is read -/
theorem leaf_out {S T S1 T1 : ST} {n : Nat} {o : Bool} {tk pl vv : Nat → Nat} {i l a dp j i1 : Nat} {w : Nat} {d : DN} (h1 : PQ S1 T1 n o tk pl vv i1 (l + 1) a) (a1 : Agr wPc S S1) (a2 : Agr wPr T T1) (e29 : S1.2.1 29 = S.2.1 29) (hj : i1 < j) (hjn : j ≤ n) (hij : i < j) (hG : ∀ cs : Nat → Int32, cs a = iN w → Gr o (T.2.1 139) (T.2.1 140) cs 1 dp 0 i j a (a + 1) 1 d) : Out n o tk pl vv S T 0 dp i l a (some (1, nwS (adS S1 a (iN w)) j)) (some ((), nwT T1 j)) := by
  refine Or.inl ⟨_, _, j, 1, a + 1, d, 1, rfl, rfl, h1.lf j hj hjn _, by omega, hG _ ?_, fun z hz => ?_, (a1.tr (adS_agr _ _ _)).tr (nwS_agr _ _), a2.tr (nwT_agr _ _)⟩
  · exact adS_29 S1 a _
  · show (adS S1 a (iN w)).2.1 29 z = _
    rw [adS_29n S1 a _ (by omega), e29]
theorem w512 (r w : Nat) : iN r + 512 * iN w = iN (r + 512 * w) := by rw [show (512 : Int32) * iN w = iN (512 * w) from iN_mul 512 w, iN_add]
theorem part_word (x : XT) {S1 T1 S T : ST} {n : Nat} {o : Bool} {tk pl vv : Nat → Nat} {i l a dp j i1 : Nat} {w : Nat} {d : DN} (h1 : PQ S1 T1 n o tk pl vv i1 (l + 1) a) (a1 : Agr wPc S S1) (a2 : Agr wPr T T1) (e29 : S1.2.1 29 = S.2.1 29) (hj : j = i1 + 1) (hjn : j ≤ n) (hij : i < j) (hw : w < 1000) (hG : ∀ cs : Nat → Int32, cs a = iN (259 + 512 * w) → Gr o (T.2.1 139) (T.2.1 140) cs 1 dp 0 i j a (a + 1) 1 d) (r0 : ST → Int32 → Int32 → Option (Int32 × ST)) (r1 r2 : ST → Int32 → Option (Int32 × ST)) (r3 : ST → Int32 → Int32 → Option (Int32 × ST)) (r4 r5 r6 : ST → Int32 → Option (Int32 × ST)) : Out n o tk pl vv S T 0 dp i l a (bfX4_part_24_121 x r0 r1 r2 r3 r4 r5 r6 S1 (iN w)) (some ((), nwT T1 j)) := by
  subst hj
  have hn := h1.1.1
  have ha := h1.2.2.2.2.2.2.2.2.2
  unfold bfX4_part_24_121
  rw [if_pos (iN_m1 (by omega)), add_eq x S1 a 259 (iN w) h1.2.2.2.1 (by omega), show (259 : Int32) + 512 * iN w = iN (259 + 512 * w) from w512 259 w]
  dsimp only
  rw [adS_now S1 a _ i1 h1.2.1]
  exact leaf_out h1 a1 a2 e29 (by omega) hjn hij hG
theorem part_none (x : XT) {S1 T1 S T : ST} {n : Nat} {o : Bool} {tk pl vv : Nat → Nat} {i l a dp i1 l1 a1 : Nat} (h1 : PQ S1 T1 n o tk pl vv i1 l1 a1) (g1 : Agr wPc S S1) (T2 : ST) (g2 : Agr wPr T T2) (e : T2.1 130 21 = iN (pl i1)) (r0 : ST → Int32 → Int32 → Option (Int32 × ST)) (r1 r2 : ST → Int32 → Option (Int32 × ST)) (r3 : ST → Int32 → Int32 → Option (Int32 × ST)) (r4 r5 r6 : ST → Int32 → Option (Int32 × ST)) : Out n o tk pl vv S T 0 dp i l a (bfX4_part_24_121 x r0 r1 r2 r3 r4 r5 r6 S1 (-1)) (some ((), T2)) := by
  have f := h1.fl g1 (Agr.rf (S := T1))
  obtain ⟨S', T', k, a', q1, q2, q3, q4, q5, q6, q7, q8, q9⟩ := f
  unfold bfX4_part_24_121
  rw [if_neg (fun z => z rfl), faulty_eq x h1]
  dsimp only
  rw [show bbz 0 = true from rfl, cond_true]
  cases q1
  refine Or.inr ⟨_, T2, pl i1, a', rfl, rfl, u2_s S1.1 24 1 _, e, h1.t.2.2.2.2.2.1, q6, q7, q8, g2⟩
theorem numW (x : XT) {S1 T1 : ST} {n : Nat} {o : Bool} {tk pl vv : Nat → Nat} {i l a : Nat} (h : PQ S1 T1 n o tk pl vv i l a) (hi : i < n) (p g : Nat) (hp : p < 100) (hg : g < 100) : gfX4_numberedWord_24 x S1 (iN p) (iN g) = if tk (i + 1) = 256 ∧ vv (i + 1) < g then some (iN (p + vv (i + 1)), nwS S1 (i + 1)) else some (-1, nwS S1 (i + 1)) := by
  have h1 := h.adv hi
  have ht := h1.t
  have hn := h1.1.1
  unfold gfX4_numberedWord_24 bfX4_numberedWord_24_0 bfX4_numberedWord_24_47 bfX4_numberedWord_24_48
  rw [h.2.1, iN_succ, show gfX4_here_24 x (u2 S1.1 24 6 (iN (i + 1)), S1.2.1, S1.2.2.1, S1.2.2.2) = some (iN (tk (i + 1)), nwS S1 (i + 1)) from here_eq x h1]
  dsimp only
  rw [h1.2.1, inb_t (show i + 1 < 401 by omega) (by omega), cond_true, cond_true, iN_nat (by omega)]
  by_cases c : tk (i + 1) = 256
  · rw [c, if_neg (fun z => z (show iN 256 = 256 from rfl)), ht.2.2.2.2.2.2.2.2.2.2 c]
    have hv := ht.2.2.2.2.2.2.2.2.1
    by_cases c1 : vv (i + 1) ≤ 1000
    · rw [if_pos c1]
      by_cases c2 : vv (i + 1) < g
      · rw [if_neg (fun z => by have := (iN_le (by omega) (by omega)).mp z; omega), if_pos ⟨rfl, c2⟩, iN_add]
      · rw [if_pos ((iN_le (by omega) (by omega)).mpr (by omega)), if_neg (fun z => c2 z.2)]
    · rw [if_neg c1, if_pos ((iN_le (by omega) (by omega)).mpr (by omega)), if_neg (fun z => by omega)]
  · rw [if_pos (show ¬ iN (tk (i + 1)) = 256 from fun z => c ((iN_eq (n := 256) (by omega) (by omega)).mp z)), if_neg (fun z => c z.1)]
theorem partz_leaf (x : XT) (n : Nat) (o : Bool) (tk pl vv : Nat → Nat) (dp : Nat) (S T : ST) (i l a N1 N2 : Nat) (h : PQ S T n o tk pl vv i l a) (hb : tk i ≠ 91) (v : Int32) : Out n o tk pl vv S T 0 dp i l a (gqX4_test_24 x (N1 + 1) 6 S v 0) (gqX11_readSum_130 x (N2 + 1) 2 T v 0) := by
  have ht := h.t
  have hn := h.1.1
  have hi7 := h.2.2.2.2.2.2.2.1
  have hl8 := h.2.2.2.2.2.2.2.2.1
  have ha := h.2.2.2.2.2.2.2.2.2
  have l1 := TM_lt ⟨tk i, by omega⟩
  dsimp only at l1
  rw [rp_head x h hb N2 v 0 _ _ _ rfl rfl rfl, q4_part]
  unfold bfX4_part_24_0
  rw [here_eq x h]
  dsimp only
  rw [if_pos (show ¬ iN (tk i) = 91 from fun z => hb ((iN_eq (n := 91) (by omega) (by omega)).mp z)), h.2.2.1]
  by_cases hl : l < 50
  · have hp := h.pa hl
    have e29 : (paS S (l + 1)).2.1 29 = S.2.1 29 := rfl
    rw [if_pos (show iN l < 50 from (iN_lt (n := 50) (by omega) (by omega)).mpr hl), iN_succ, show gfX4_here_24 x (u2 S.1 24 7 (iN (l + 1)), S.2.1, S.2.2.1, S.2.2.2) = some (iN (tk i), paS S (l + 1)) from here_eq x hp]
    dsimp only
    have noneP := fun T2 g2 e r0 r1 r2 r3 r4 r5 r6 => part_none x (i := i) (l := l) (a := a) (dp := dp) (S := S) (T := T) hp (paS_agr S _) T2 g2 e r0 r1 r2 r3 r4 r5 r6
    have bad := fun r0 r1 r2 r3 r4 r5 r6 => noneP (flTk T (pl i)) (flT_agr T _) (u2_s T.1 130 21 _) r0 r1 r2 r3 r4 r5 r6
    by_cases c : tk i = 256
    · have hin := h.lt (by omega)
      rw [c, if_neg (fun z => z (show iN 256 = 256 from rfl)), hp.2.1, inb_t (show i < 401 by omega) (by omega), cond_true, cond_true, iN_nat (by omega), hp.t.2.2.2.2.2.2.2.2.2.2 c, if_pos rfl]
      by_cases c1 : vv i ≤ 1000
      · rw [if_pos c1, if_pos (show iN (vv i) ≤ 1000 from (iN_le (n := 1000) (by omega) (by omega)).mpr c1), if_pos c1, add_eq x (paS S (l + 1)) a 256 (iN (vv i)) hp.2.2.2.1 (by omega), show (256 : Int32) + 512 * iN (vv i) = iN (256 + 512 * vv i) from w512 256 (vv i)]
        dsimp only
        have r := rp_111 x h hl (fun S z0 => gqX11_readSum_130 x N2 0 S z0 0) (fun S z0 => gqX11_readSum_130 x N2 1 S z0 0) (fun S z0 => gqX11_readSum_130 x N2 2 S z0 0) (Or.inr ⟨by omega, by omega, by omega⟩)
        rw [c] at r
        rw [adS_now _ a _ i hp.2.1, r]
        refine leaf_out (d := fun _ => some (iN (vv i))) hp (paS_agr S _) (paT_agr T _) e29 (Nat.lt_succ_self i) (by omega) (Nat.lt_succ_self i) (fun cs hc => Or.inl ⟨rfl, Or.inl ⟨?_, rfl, rfl, rfl, vv i, c1, ht.2.2.2.2.2.2.2.2.2.1, hc, rfl⟩⟩)
        rw [ht.2.2.2.1, c]; rfl
      · rw [if_neg c1, if_neg (show ¬ iN 1001 ≤ 1000 by decide), if_neg c1, faulty_eq x hp]
        dsimp only
        rw [show bbz 0 = true from rfl, cond_true]
        obtain ⟨S', T', k, a', q1, q2, q3, q4, q5, q6, q7, q8, q9⟩ := hp.fl (paS_agr S _) (Agr.rf (S := paT T (l + 1)))
        cases q1
        exact Or.inr ⟨_, _, pl i, a', rfl, rfl, u2_s (paS S (l + 1)).1 24 1 _, u2_s T.1 130 21 _, ht.2.2.2.2.2.1, q6, q7, q8, flT_agr T _⟩
    · rw [if_pos (show ¬ iN (tk i) = 256 from fun z => c ((iN_eq (n := 256) (by omega) (by omega)).mp z)), if_neg c, show (paS S (l + 1)).1 24 8 = bz o from hp.1.2.2.2.1]
      cases o with
      | false =>
        rw [if_pos (show bz false = 0 from rfl)]
        unfold gfX4_lawWord_24 bfX4_lawWord_24_0 bfX4_lawWord_24_27 bfX4_lawWord_24_28
        rw [here_eq x hp]
        dsimp only
        have lW := lawW ⟨tk i, by omega⟩
        dsimp only at lW
        rw [if_neg (show ¬ false = true by decide), if_neg (show ¬ false = true by decide)]
        by_cases c1 : 274 ≤ tk i ∧ tk i ≤ 281
        · rw [if_pos c1] at lW
          rw [if_neg (show ¬ iN (tk i) < 274 from fun z => by have := (iN_lt (n := 274) (by omega) (by omega)).mp z; omega), if_neg (show ¬ (281 : Int32) < iN (tk i) from fun z => by have := (iN_lt (m := 281) (by omega) (by omega)).mp z; omega)]
          dsimp only
          rw [show iN (tk i) - 274 = iN (tk i - 274) from iN_sub (n := 274) (by omega), if_pos ⟨lW.1, lW.2.1⟩, rp_111 x h hl _ _ _ (Or.inl rfl)]
          exact part_word x (w := tk i - 274) (d := fun W => some (W (tk i - 274))) hp (paS_agr S _) (paT_agr T _) e29 rfl (h.lt (by omega)) (Nat.lt_succ_self i) (by omega) (fun cs hc => Or.inl ⟨rfl, Or.inr (Or.inl ⟨tk i - 274, ⟨TM (tk i), lW.1, lW.2.1, ht.2.2.2.1, lW.2.2.symm, rfl⟩, rfl, rfl, hc, rfl⟩)⟩) _ _ _ _ _ _ _
        · rw [if_neg c1] at lW
          rw [if_neg (show ¬ (8 ≤ TM (tk i) ∧ TM (tk i) ≤ 15) from fun z => by omega)]
          by_cases c2 : tk i < 274
          · rw [if_pos (show iN (tk i) < 274 from (iN_lt (n := 274) (by omega) (by omega)).mpr c2)]
            exact bad _ _ _ _ _ _ _
          · rw [if_neg (show ¬ iN (tk i) < 274 from fun z => c2 ((iN_lt (n := 274) (by omega) (by omega)).mp z)), if_pos (show (281 : Int32) < iN (tk i) from (iN_lt (m := 281) (by omega) (by omega)).mpr (by omega))]
            exact bad _ _ _ _ _ _ _
      | true =>
        rw [if_neg (show ¬ bz true = 0 by decide), if_pos (show true = true from rfl), if_pos (show true = true from rfl)]
        unfold gfX4_orderWord_24 bfX4_orderWord_24_0
        rw [here_eq x hp]
        dsimp only
        have oW := ordW ⟨tk i, by omega⟩
        dsimp only at oW
        have ne : ∀ m : Nat, m < 300 → tk i ≠ m → ¬ iN (tk i) = iN m := fun m hm hne z => hne ((iN_eq (by omega) (by omega)).mp z)
        -- words that stand for themselves
        have simple : ∀ w m : Nat, tk i = m → (15 ≤ TM m ∧ TM m ≤ 18 ∧ w = TM m - 15) → m ≠ 275 → m ≠ 276 → m ≠ 285 → m ≠ 257 → Out n true tk pl vv S T 0 dp i l a (bfX4_part_24_121 x (fun S z0 z1 => gqX4_test_24 x N1 0 S z0 z1) (fun S z0 => gqX4_test_24 x N1 1 S z0 0) (fun S z0 => gqX4_test_24 x N1 2 S z0 0) (fun S z0 z1 => gqX4_test_24 x N1 3 S z0 z1) (fun S z0 => gqX4_test_24 x N1 4 S z0 0) (fun S z0 => gqX4_test_24 x N1 5 S z0 0) (fun S z0 => gqX4_test_24 x N1 6 S z0 0) (paS S (l + 1)) (iN w)) (if 13 ≤ TM (tk i) ∧ TM (tk i) ≤ 19 then bfX11_readPart_130_111 x (fun S z0 => gqX11_readSum_130 x N2 0 S z0 0) (fun S z0 => gqX11_readSum_130 x N2 1 S z0 0) (fun S z0 => gqX11_readSum_130 x N2 2 S z0 0) T (iN (TM (tk i))) else some ((), flTk T (pl i))) := by
          intro w m em ⟨w1, w2, w3⟩ n1 n2 n3 n4
          rw [if_pos (by rw [em]; omega), rp_111 x h hl _ _ _ (Or.inr ⟨by omega, by omega, by omega⟩)]
          exact part_word x (w := w) (d := fun W => some (W w)) hp (paS_agr S _) (paT_agr T _) e29 rfl (h.lt (by omega)) (Nat.lt_succ_self i) (by omega) (fun cs hc => Or.inl ⟨rfl, Or.inr (Or.inl ⟨w, Or.inl ⟨TM m, w1, w2, by rw [ht.2.2.2.1, em], w3, rfl⟩, rfl, rfl, hc, rfl⟩)⟩) _ _ _ _ _ _ _
        -- words with a number behind them
        have numbered : ∀ p g m : Nat, tk i = m → ((m = 275 ∧ p = 14 ∧ g = 10) ∨ (m = 276 ∧ p = 4 ∧ g = 5) ∨ (m = 285 ∧ p = 9 ∧ g = 5)) → Out n true tk pl vv S T 0 dp i l a (match (match gfX4_numberedWord_24 x (paS S (l + 1)) (iN p) (iN g) with
            | none => none
            | some (r8, S9) => some (r8, S9)) with
            | none => none
            | some (r19, S20) => bfX4_part_24_121 x (fun S z0 z1 => gqX4_test_24 x N1 0 S z0 z1) (fun S z0 => gqX4_test_24 x N1 1 S z0 0) (fun S z0 => gqX4_test_24 x N1 2 S z0 0) (fun S z0 z1 => gqX4_test_24 x N1 3 S z0 z1) (fun S z0 => gqX4_test_24 x N1 4 S z0 0) (fun S z0 => gqX4_test_24 x N1 5 S z0 0) (fun S z0 => gqX4_test_24 x N1 6 S z0 0) S20 r19) (if 13 ≤ TM (tk i) ∧ TM (tk i) ≤ 19 then bfX11_readPart_130_111 x (fun S z0 => gqX11_readSum_130 x N2 0 S z0 0) (fun S z0 => gqX11_readSum_130 x N2 1 S z0 0) (fun S z0 => gqX11_readSum_130 x N2 2 S z0 0) T (iN (TM (tk i))) else some ((), flTk T (pl i))) := by
          intro p g m em hm
          have hin := h.lt (by omega)
          have hp2 := hp.adv hin
          have ht2 := hp2.t
          have hTM : 13 ≤ TM (tk i) ∧ TM (tk i) ≤ 19 := by
            rw [em]
            rcases hm with ⟨rfl, -, -⟩ | ⟨rfl, -, -⟩ | ⟨rfl, -, -⟩ <;> decide
          rw [if_pos hTM, rp_num x h hl _ _ _ 0 g (by rcases hm with ⟨rfl, -, e⟩ | ⟨rfl, -, e⟩ | ⟨rfl, -, e⟩ <;> omega), mustN_eq x hp2 0 (g - 1) (by omega) (by omega), numW x hp hin p g (by omega) (by omega)]
          by_cases cc : tk (i + 1) = 256 ∧ vv (i + 1) < g
          · rw [if_pos cc, if_pos ⟨cc.1, by omega, by omega⟩]
            dsimp only
            refine part_word x (w := p + vv (i + 1)) (d := fun W => some (W (p + vv (i + 1)))) hp2 ((paS_agr S _).tr (nwS_agr _ _)) ((paT_agr T _).tr (nwT_agr _ _)) rfl rfl (hp2.lt (by omega)) (by omega) (by omega) (fun cs hc => Or.inl ⟨rfl, Or.inr (Or.inl ⟨p + vv (i + 1), Or.inr ⟨?_, rfl, ?_⟩, rfl, rfl, hc, rfl⟩)⟩) _ _ _ _ _ _ _
            · have := ht2.2.2.2.1
              rw [cc.1] at this
              exact this
            · rcases hm with ⟨e1, rfl, rfl⟩ | ⟨e1, rfl, rfl⟩ | ⟨e1, rfl, rfl⟩
              · exact Or.inr ⟨vv (i + 1), cc.2, ht2.2.2.2.2.2.2.2.2.2.1, by rw [ht.2.2.2.1, em, e1]; rfl, rfl⟩
              · exact Or.inl ⟨vv (i + 1), cc.2, ht2.2.2.2.2.2.2.2.2.2.1, Or.inl ⟨by rw [ht.2.2.2.1, em, e1]; rfl, rfl⟩⟩
              · exact Or.inl ⟨vv (i + 1), cc.2, ht2.2.2.2.2.2.2.2.2.2.1, Or.inr ⟨by rw [ht.2.2.2.1, em, e1]; rfl, rfl⟩⟩
          · rw [if_neg cc, if_neg (fun z => cc ⟨z.1, by omega⟩)]
            dsimp only
            exact part_none x hp2 ((paS_agr S _).tr (nwS_agr _ _)) _ (((paT_agr T _).tr (nwT_agr _ _)).tr (flT_agr _ _)) (u2_s (nwT (paT T (l + 1)) (i + 1)).1 130 21 _) _ _ _ _ _ _ _
        by_cases w275 : tk i = 275
        · rw [if_pos (show iN (tk i) = 275 by rw [w275]; rfl)]
          exact numbered 14 10 275 w275 (Or.inl ⟨rfl, rfl, rfl⟩)
        rw [if_neg (show ¬ iN (tk i) = 275 from ne 275 (by omega) w275)]
        by_cases w276 : tk i = 276
        · rw [if_pos (show iN (tk i) = 276 by rw [w276]; rfl)]
          exact numbered 4 5 276 w276 (Or.inr (Or.inl ⟨rfl, rfl, rfl⟩))
        rw [if_neg (show ¬ iN (tk i) = 276 from ne 276 (by omega) w276)]
        by_cases w285 : tk i = 285
        · rw [w285, if_neg (show ¬ iN 285 = 277 by decide), if_neg (show ¬ iN 285 = 278 by decide), if_neg (show ¬ iN 285 = 279 by decide), if_neg (show ¬ iN 285 = 280 by decide), if_neg (show ¬ iN 285 = 281 by decide), if_neg (show ¬ iN 285 = 282 by decide), if_neg (show ¬ iN 285 = 283 by decide), if_neg (show ¬ iN 285 = 284 by decide), if_pos (show iN 285 = 285 from rfl), ← w285]
          exact numbered 9 5 285 w285 (Or.inr (Or.inr ⟨rfl, rfl, rfl⟩))
        by_cases w280 : tk i = 280
        · have r := simple 0 280 w280 (by decide) (by decide) (by decide) (by decide) (by decide)
          rw [w280] at r ⊢
          rw [if_neg (show ¬ iN 280 = 277 by decide), if_neg (show ¬ iN 280 = 278 by decide), if_neg (show ¬ iN 280 = 279 by decide), if_pos (show iN 280 = 280 from rfl)]
          exact r
        by_cases w282 : tk i = 282
        · have r := simple 1 282 w282 (by decide) (by decide) (by decide) (by decide) (by decide)
          rw [w282] at r ⊢
          rw [if_neg (show ¬ iN 282 = 277 by decide), if_neg (show ¬ iN 282 = 278 by decide), if_neg (show ¬ iN 282 = 279 by decide), if_neg (show ¬ iN 282 = 280 by decide), if_neg (show ¬ iN 282 = 281 by decide), if_pos (show iN 282 = 282 from rfl)]
          exact r
        by_cases w283 : tk i = 283
        · have r := simple 2 283 w283 (by decide) (by decide) (by decide) (by decide) (by decide)
          rw [w283] at r ⊢
          rw [if_neg (show ¬ iN 283 = 277 by decide), if_neg (show ¬ iN 283 = 278 by decide), if_neg (show ¬ iN 283 = 279 by decide), if_neg (show ¬ iN 283 = 280 by decide), if_neg (show ¬ iN 283 = 281 by decide), if_neg (show ¬ iN 283 = 282 by decide), if_pos (show iN 283 = 283 from rfl)]
          exact r
        by_cases w284 : tk i = 284
        · have r := simple 3 284 w284 (by decide) (by decide) (by decide) (by decide) (by decide)
          rw [w284] at r ⊢
          rw [if_neg (show ¬ iN 284 = 277 by decide), if_neg (show ¬ iN 284 = 278 by decide), if_neg (show ¬ iN 284 = 279 by decide), if_neg (show ¬ iN 284 = 280 by decide), if_neg (show ¬ iN 284 = 281 by decide), if_neg (show ¬ iN 284 = 282 by decide), if_neg (show ¬ iN 284 = 283 by decide), if_pos (show iN 284 = 284 from rfl)]
          exact r
        have nO : ¬ isO (tk i) = true := by
          unfold isO
          simp only [Bool.or_eq_true, Nat.beq_eq]
          omega
        rw [if_neg nO] at oW
        rw [if_neg (show ¬ iN (tk i) = 280 from ne 280 (by omega) w280), if_neg (show ¬ iN (tk i) = 282 from ne 282 (by omega) w282), if_neg (show ¬ iN (tk i) = 283 from ne 283 (by omega) w283), if_neg (show ¬ iN (tk i) = 284 from ne 284 (by omega) w284), if_neg (show ¬ iN (tk i) = 285 from ne 285 (by omega) w285), if_neg (show ¬ (13 ≤ TM (tk i) ∧ TM (tk i) ≤ 19) from fun z => by omega)]
        simp only [ite_self]
        exact bad _ _ _ _ _ _ _
  · have e50 : l = 50 := by omega
    subst e50
    rw [if_neg (show ¬ iN 50 < 50 by decide), faulty_eq x h, rp_full x h]
    dsimp only
    rw [show bbz 0 = true from rfl, cond_true]
    obtain ⟨S', T', k, a', q1, q2, q3, q4, q5, q6, q7, q8, q9⟩ := h.fl (Agr.rf (S := S)) (Agr.rf (S := T))
    cases q1
    have f1 : OutF S T (some (0, flS S (pl i))) (some ((), flTk T (pl i))) := h.fl Agr.rf Agr.rf
    have f2 : OutF S T (some (0, flS S (pl i))) (some ((), paT (flTk T (pl i)) 51)) := ⟨_, _, pl i, a', rfl, rfl, u2_s S.1 24 1 _, (show u2 (u2 T.1 130 21 (iN (pl i))) 130 20 (iN 51) 130 21 = iN (pl i) by rw [u2_k _ _ _ (by decide), u2_s]), ht.2.2.2.2.2.1, q6, q7, q8, (flT_agr T _).tr (paT_agr _ _)⟩
    refine Or.inr ?_
    by_cases d1 : tk i = 256
    · rw [if_pos d1]
      by_cases d2 : vv i ≤ 1000
      · rw [if_pos d2]; exact f2
      · rw [if_neg d2]; exact f1
    · rw [if_neg d1]
      by_cases d2 : (if o = true then 13 else 8) ≤ TM (tk i) ∧ TM (tk i) ≤ (if o = true then 19 else 15)
      · rw [if_pos d2]; exact f2
      · rw [if_neg d2]; exact f1
theorem part_ok (x : XT) (n : Nat) (o : Bool) (tk pl vv : Nat → Nat) (dp : Nat) (hdp : dp ≤ 8) (HS : ∀ dp', dp = dp' + 1 → HSum x n o tk pl vv dp') : HPart x n o tk pl vv dp := by
  intro S T i l a N1 N2 h h1 h2
  by_cases hb : tk i = 91
  · exact part_br x n o tk pl vv dp hdp HS S T i l a N1 N2 h h1 h2 hb
  · obtain ⟨N1, rfl⟩ : ∃ z, N1 = z + 1 := ⟨N1 - 1, by omega⟩
    obtain ⟨N2, rfl⟩ : ∃ z, N2 = z + 1 := ⟨N2 - 1, by omega⟩
    exact partz_leaf x n o tk pl vv dp S T i l a N1 N2 h hb _
end PART
