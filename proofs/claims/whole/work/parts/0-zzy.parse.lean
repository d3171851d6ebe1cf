section PARSE
theorem q4_test (x : XT) (N : Nat) (S : ST) (a b : Int32) : gqX4_test_24 x (N + 1) 0 S a b = bfX4_test_24_0 x (fun S z0 z1 => gqX4_test_24 x N 0 S z0 z1) (fun S z0 => gqX4_test_24 x N 1 S z0 0) (fun S z0 => gqX4_test_24 x N 2 S z0 0) (fun S z0 z1 => gqX4_test_24 x N 3 S z0 z1) (fun S z0 => gqX4_test_24 x N 4 S z0 0) (fun S z0 => gqX4_test_24 x N 5 S z0 0) (fun S z0 => gqX4_test_24 x N 6 S z0 0) S a b := by
  rw [gqX4_test_24, show Nat.beq 0 0 = true from rfl, cond_true, grfX4_test_24]
theorem q4_plain (x : XT) (N : Nat) (S : ST) (a b : Int32) : gqX4_test_24 x (N + 1) 1 S a b = bfX4_plain_24_0 x (fun S z0 z1 => gqX4_test_24 x N 0 S z0 z1) (fun S z0 => gqX4_test_24 x N 1 S z0 0) (fun S z0 => gqX4_test_24 x N 2 S z0 0) (fun S z0 z1 => gqX4_test_24 x N 3 S z0 z1) (fun S z0 => gqX4_test_24 x N 4 S z0 0) (fun S z0 => gqX4_test_24 x N 5 S z0 0) (fun S z0 => gqX4_test_24 x N 6 S z0 0) S a := by
  rw [gqX4_test_24, show Nat.beq 1 0 = false from rfl, cond_false, show Nat.beq 1 1 = true from rfl, cond_true, grfX4_plain_24]
theorem q4_comparison (x : XT) (N : Nat) (S : ST) (a b : Int32) : gqX4_test_24 x (N + 1) 2 S a b = bfX4_comparison_24_0 x (fun S z0 z1 => gqX4_test_24 x N 0 S z0 z1) (fun S z0 => gqX4_test_24 x N 1 S z0 0) (fun S z0 => gqX4_test_24 x N 2 S z0 0) (fun S z0 z1 => gqX4_test_24 x N 3 S z0 z1) (fun S z0 => gqX4_test_24 x N 4 S z0 0) (fun S z0 => gqX4_test_24 x N 5 S z0 0) (fun S z0 => gqX4_test_24 x N 6 S z0 0) S a := by
  rw [gqX4_test_24, show Nat.beq 2 0 = false from rfl, cond_false, show Nat.beq 2 1 = false from rfl, cond_false, show Nat.beq 2 2 = true from rfl, cond_true, grfX4_comparison_24]
theorem q4_inBrackets (x : XT) (N : Nat) (S : ST) (a b : Int32) : gqX4_test_24 x (N + 1) 3 S a b = bfX4_inBrackets_24_0 x (fun S z0 z1 => gqX4_test_24 x N 0 S z0 z1) (fun S z0 => gqX4_test_24 x N 1 S z0 0) (fun S z0 => gqX4_test_24 x N 2 S z0 0) (fun S z0 z1 => gqX4_test_24 x N 3 S z0 z1) (fun S z0 => gqX4_test_24 x N 4 S z0 0) (fun S z0 => gqX4_test_24 x N 5 S z0 0) (fun S z0 => gqX4_test_24 x N 6 S z0 0) S a b := by
  rw [gqX4_test_24, show Nat.beq 3 0 = false from rfl, cond_false, show Nat.beq 3 1 = false from rfl, cond_false, show Nat.beq 3 2 = false from rfl, cond_false, show Nat.beq 3 3 = true from rfl, cond_true, grfX4_inBrackets_24]
theorem q4_sum (x : XT) (N : Nat) (S : ST) (a b : Int32) : gqX4_test_24 x (N + 1) 4 S a b = bfX4_sum_24_0 x (fun S z0 z1 => gqX4_test_24 x N 0 S z0 z1) (fun S z0 => gqX4_test_24 x N 1 S z0 0) (fun S z0 => gqX4_test_24 x N 2 S z0 0) (fun S z0 z1 => gqX4_test_24 x N 3 S z0 z1) (fun S z0 => gqX4_test_24 x N 4 S z0 0) (fun S z0 => gqX4_test_24 x N 5 S z0 0) (fun S z0 => gqX4_test_24 x N 6 S z0 0) S a := by
  rw [gqX4_test_24, show Nat.beq 4 0 = false from rfl, cond_false, show Nat.beq 4 1 = false from rfl, cond_false, show Nat.beq 4 2 = false from rfl, cond_false, show Nat.beq 4 3 = false from rfl, cond_false, show Nat.beq 4 4 = true from rfl, cond_true, grfX4_sum_24]
theorem q4_term (x : XT) (N : Nat) (S : ST) (a b : Int32) : gqX4_test_24 x (N + 1) 5 S a b = bfX4_term_24_0 x (fun S z0 z1 => gqX4_test_24 x N 0 S z0 z1) (fun S z0 => gqX4_test_24 x N 1 S z0 0) (fun S z0 => gqX4_test_24 x N 2 S z0 0) (fun S z0 z1 => gqX4_test_24 x N 3 S z0 z1) (fun S z0 => gqX4_test_24 x N 4 S z0 0) (fun S z0 => gqX4_test_24 x N 5 S z0 0) (fun S z0 => gqX4_test_24 x N 6 S z0 0) S a := by
  rw [gqX4_test_24, show Nat.beq 5 0 = false from rfl, cond_false, show Nat.beq 5 1 = false from rfl, cond_false, show Nat.beq 5 2 = false from rfl, cond_false, show Nat.beq 5 3 = false from rfl, cond_false, show Nat.beq 5 4 = false from rfl, cond_false, show Nat.beq 5 5 = true from rfl, cond_true, grfX4_term_24]
theorem q4_part (x : XT) (N : Nat) (S : ST) (a b : Int32) : gqX4_test_24 x (N + 1) 6 S a b = bfX4_part_24_0 x (fun S z0 z1 => gqX4_test_24 x N 0 S z0 z1) (fun S z0 => gqX4_test_24 x N 1 S z0 0) (fun S z0 => gqX4_test_24 x N 2 S z0 0) (fun S z0 z1 => gqX4_test_24 x N 3 S z0 z1) (fun S z0 => gqX4_test_24 x N 4 S z0 0) (fun S z0 => gqX4_test_24 x N 5 S z0 0) (fun S z0 => gqX4_test_24 x N 6 S z0 0) S a := by
  rw [gqX4_test_24, show Nat.beq 6 0 = false from rfl, cond_false, show Nat.beq 6 1 = false from rfl, cond_false, show Nat.beq 6 2 = false from rfl, cond_false, show Nat.beq 6 3 = false from rfl, cond_false, show Nat.beq 6 4 = false from rfl, cond_false, show Nat.beq 6 5 = false from rfl, cond_false, show Nat.beq 6 6 = true from rfl, cond_true, grfX4_part_24]
theorem q11_readSum (x : XT) (N : Nat) (S : ST) (a b : Int32) : gqX11_readSum_130 x (N + 1) 0 S a b = bfX11_readSum_130_0 x (fun S z0 => gqX11_readSum_130 x N 0 S z0 0) (fun S z0 => gqX11_readSum_130 x N 1 S z0 0) (fun S z0 => gqX11_readSum_130 x N 2 S z0 0) S a := by
  rw [gqX11_readSum_130, show Nat.beq 0 0 = true from rfl, cond_true, grfX11_readSum_130]
theorem q11_readTerm (x : XT) (N : Nat) (S : ST) (a b : Int32) : gqX11_readSum_130 x (N + 1) 1 S a b = bfX11_readTerm_130_0 x (fun S z0 => gqX11_readSum_130 x N 0 S z0 0) (fun S z0 => gqX11_readSum_130 x N 1 S z0 0) (fun S z0 => gqX11_readSum_130 x N 2 S z0 0) S a := by
  rw [gqX11_readSum_130, show Nat.beq 1 0 = false from rfl, cond_false, show Nat.beq 1 1 = true from rfl, cond_true, grfX11_readTerm_130]
theorem q11_readPart (x : XT) (N : Nat) (S : ST) (a b : Int32) : gqX11_readSum_130 x (N + 1) 2 S a b = bfX11_readPart_130_0 x (fun S z0 => gqX11_readSum_130 x N 0 S z0 0) (fun S z0 => gqX11_readSum_130 x N 1 S z0 0) (fun S z0 => gqX11_readSum_130 x N 2 S z0 0) S a := by
  rw [gqX11_readSum_130, show Nat.beq 2 0 = false from rfl, cond_false, show Nat.beq 2 1 = false from rfl, cond_false, show Nat.beq 2 2 = true from rfl, cond_true, grfX11_readPart_130]
theorem q11_readTest (x : XT) (N : Nat) (S : ST) (a b : Int32) : gqX11_readTest_130 x (N + 1) 0 S a b = bfX11_readTest_130_0 x (fun S z0 => gqX11_readTest_130 x N 0 S z0 0) (fun S z0 => gqX11_readTest_130 x N 1 S z0 0) (fun S z0 => gqX11_readTest_130 x N 2 S z0 0) S a := by
  rw [gqX11_readTest_130, show Nat.beq 0 0 = true from rfl, cond_true, grfX11_readTest_130]
theorem q11_readBoth (x : XT) (N : Nat) (S : ST) (a b : Int32) : gqX11_readTest_130 x (N + 1) 1 S a b = bfX11_readBoth_130_0 x (fun S z0 => gqX11_readTest_130 x N 0 S z0 0) (fun S z0 => gqX11_readTest_130 x N 1 S z0 0) (fun S z0 => gqX11_readTest_130 x N 2 S z0 0) S a := by
  rw [gqX11_readTest_130, show Nat.beq 1 0 = false from rfl, cond_false, show Nat.beq 1 1 = true from rfl, cond_true, grfX11_readBoth_130]
theorem q11_readPlain (x : XT) (N : Nat) (S : ST) (a b : Int32) : gqX11_readTest_130 x (N + 1) 2 S a b = bfX11_readPlain_130_0 x (fun S z0 => gqX11_readTest_130 x N 0 S z0 0) (fun S z0 => gqX11_readTest_130 x N 1 S z0 0) (fun S z0 => gqX11_readTest_130 x N 2 S z0 0) S a := by
  rw [gqX11_readTest_130, show Nat.beq 2 0 = false from rfl, cond_false, show Nat.beq 2 1 = false from rfl, cond_false, show Nat.beq 2 2 = true from rfl, cond_true, grfX11_readPlain_130]
theorem nf_part (x : XT) (T : ST) (h : ¬ T.1 130 21 = -1) (N : Nat) (a b : Int32) : gqX11_readSum_130 x (N + 1) 2 T a b = some ((), T) := by
  rw [q11_readPart]
  unfold bfX11_readPart_130_0
  rw [fine_nf x T h]
  dsimp only
  rw [if_neg (fun z => z rfl)]
theorem nf_tloop (x : XT) (r1 r2 r3 : ST → Int32 → Option (Unit × ST)) (T : ST) (h : ¬ T.1 130 21 = -1) (fuel : Nat) (v : Int32) : lfX11_readTerm_130_5 x r1 r2 r3 (fuel + 1) T v = some ((), T) := by
  rw [lfX11_readTerm_130_5, bfX11_readTerm_130_5]
  rw [show (42 : Int32) = iN 42 from rfl, signz_eq x T 42 (by omega)]
  dsimp only
  rw [takes_nf x T h]
  dsimp only
  rw [if_neg (fun z => z rfl), show (47 : Int32) = iN 47 from rfl, signz_eq x T 47 (by omega)]
  dsimp only
  rw [takes_nf x T h]
  dsimp only
  rw [if_neg (fun z => z rfl), show (37 : Int32) = iN 37 from rfl, signz_eq x T 37 (by omega)]
  dsimp only
  rw [takes_nf x T h]
  dsimp only
  rw [if_pos rfl]
theorem nf_term (x : XT) (T : ST) (h : ¬ T.1 130 21 = -1) (N : Nat) (a b : Int32) : gqX11_readSum_130 x (N + 2) 1 T a b = some ((), T) := by
  rw [q11_readTerm]
  unfold bfX11_readTerm_130_0
  dsimp only
  rw [nf_part x T h]
  dsimp only
  rw [nf_tloop x _ _ _ T h 19999]
theorem nf_sloop (x : XT) (r1 r2 r3 : ST → Int32 → Option (Unit × ST)) (T : ST) (h : ¬ T.1 130 21 = -1) (fuel : Nat) (v : Int32) : lfX11_readSum_130_5 x r1 r2 r3 (fuel + 1) T v = some ((), T) := by
  rw [lfX11_readSum_130_5, bfX11_readSum_130_5]
  rw [show (43 : Int32) = iN 43 from rfl, signz_eq x T 43 (by omega)]
  dsimp only
  rw [takes_nf x T h]
  dsimp only
  rw [if_neg (fun z => z rfl), show (45 : Int32) = iN 45 from rfl, signz_eq x T 45 (by omega)]
  dsimp only
  rw [takes_nf x T h]
  dsimp only
  rw [if_pos rfl]
theorem nf_sum (x : XT) (T : ST) (h : ¬ T.1 130 21 = -1) (N : Nat) (a b : Int32) : gqX11_readSum_130 x (N + 3) 0 T a b = some ((), T) := by
  rw [q11_readSum]
  unfold bfX11_readSum_130_0
  dsimp only
  rw [nf_term x T h]
  dsimp only
  rw [nf_sloop x _ _ _ T h 19999]
theorem nf_of {T : ST} {k : Nat} (h : T.1 130 21 = iN k) (hk : k ≤ 400) : ¬ T.1 130 21 = -1 := by rw [h]; exact iN_m1 (by omega)
def HPart (x : XT) (n : Nat) (o : Bool) (tk pl vv : Nat → Nat) (dp : Nat) : Prop := ∀ S T i l a N1 N2, PQ S T n o tk pl vv i l a → 2 + 4 * dp ≤ N1 → 1 + 3 * dp ≤ N2 → Out n o tk pl vv S T 0 dp i l a (gqX4_test_24 x N1 6 S (iN (8 - dp)) 0) (gqX11_readSum_130 x N2 2 T (iN (8 - dp)) 0)
def HTerm (x : XT) (n : Nat) (o : Bool) (tk pl vv : Nat → Nat) (dp : Nat) : Prop := ∀ S T i l a N1 N2, PQ S T n o tk pl vv i l a → 3 + 4 * dp ≤ N1 → 2 + 3 * dp ≤ N2 → Out n o tk pl vv S T 1 dp i l a (gqX4_test_24 x N1 5 S (iN (8 - dp)) 0) (gqX11_readSum_130 x N2 1 T (iN (8 - dp)) 0)
def HSum (x : XT) (n : Nat) (o : Bool) (tk pl vv : Nat → Nat) (dp : Nat) : Prop := ∀ S T i l a N1 N2, PQ S T n o tk pl vv i l a → 4 + 4 * dp ≤ N1 → 3 + 3 * dp ≤ N2 → Out n o tk pl vv S T 2 dp i l a (gqX4_test_24 x N1 4 S (iN (8 - dp)) 0) (gqX11_readSum_130 x N2 0 T (iN (8 - dp)) 0)
theorem PQ.t {S T : ST} {n : Nat} {o : Bool} {tk pl vv : Nat → Nat} {i l a : Nat} (h : PQ S T n o tk pl vv i l a) : tk i ≤ 285 ∧ tk i ≠ 259 ∧ S.2.1 30 i = iN (tk i) ∧ T.2.1 139 i = iN (TM (tk i)) ∧ (tk i = 257 ↔ i = n) ∧ pl i ≤ 400 ∧ S.2.1 32 i = iN (pl i) ∧ T.2.1 141 i = iN (pl i) ∧ vv i < 100000000 ∧ T.2.1 140 i = iN (vv i) ∧ (tk i = 256 → S.2.1 31 i = iN (if vv i ≤ 1000 then vv i else 1001)) := h.1.2.2.2.2.2.2.2 i h.2.2.2.2.2.2.2.1
theorem PQ.lt {S T : ST} {n : Nat} {o : Bool} {tk pl vv : Nat → Nat} {i l a : Nat} (h : PQ S T n o tk pl vv i l a) (hn : tk i ≠ 257) : i < n := by
  have a1 := h.2.2.2.2.2.2.2.1
  have a2 := h.t.2.2.2.2.1
  rcases Nat.lt_or_ge i n with z | z
  · exact z
  · exact absurd (a2.mpr (by omega)) hn
/-- a closing bracket is taken -/
theorem take_eq (x : XT) {S T : ST} {n : Nat} {o : Bool} {tk pl vv : Nat → Nat} {i l a : Nat} (h : PQ S T n o tk pl vv i l a) (e : Nat) (he : e ≤ 285) : gfX4_take_24 x S (iN e) = if tk i = e then some (1, nwS S (i + 1)) else some (0, flS S (pl i)) := by
  have ht := h.t.1
  unfold gfX4_take_24 bfX4_take_24_0
  rw [here_eq x h]
  dsimp only
  by_cases c : tk i = e
  · rw [if_pos (by rw [c]), if_pos c, h.2.1, iN_succ]
    rfl
  · rw [if_neg (fun z => c ((iN_eq (by omega) (by omega)).mp z)), if_neg c, faulty_eq x h]
    rfl
theorem part_br (x : XT) (n : Nat) (o : Bool) (tk pl vv : Nat → Nat) (dp : Nat) (hdp : dp ≤ 8) (HS : ∀ dp', dp = dp' + 1 → HSum x n o tk pl vv dp') (S T : ST) (i l a N1 N2 : Nat) (h : PQ S T n o tk pl vv i l a) (h1 : 2 + 4 * dp ≤ N1) (h2 : 1 + 3 * dp ≤ N2) (hb : tk i = 91) : Out n o tk pl vv S T 0 dp i l a (gqX4_test_24 x N1 6 S (iN (8 - dp)) 0) (gqX11_readSum_130 x N2 2 T (iN (8 - dp)) 0) := by
  obtain ⟨N1, rfl⟩ : ∃ z, N1 = z + 2 := ⟨N1 - 2, by omega⟩
  obtain ⟨N2, rfl⟩ : ∃ z, N2 = z + 1 := ⟨N2 - 1, by omega⟩
  have hn := h.1.1
  have hin := h.lt (by rw [hb]; decide)
  have ti := h.t
  have e139 : T.2.1 139 i = iN 191 := by rw [ti.2.2.2.1, hb]; rfl
  rw [q4_part, q11_readPart]
  unfold bfX4_part_24_0 bfX11_readPart_130_0
  rw [here_eq x h, fine_ok x T h.2.2.2.2.2.2.1]
  dsimp only
  rw [hb, if_neg (fun z => z (show iN 91 = 91 from rfl)), if_pos (show ¬ (1 : Int32) = 0 by decide), h.2.2.2.2.1, inb_t (show i < 401 by omega) (by omega), cond_true, iN_nat (by omega), e139, show (91 : Int32) = iN 91 from rfl, signz_eq x T 91 (by omega)]
  dsimp only
  rw [if_neg (fun z => z (show iN 191 = iN (TM 91) from rfl)), q4_inBrackets]
  unfold bfX4_inBrackets_24_0 bfX4_inBrackets_24_53 bfX4_inBrackets_24_65 bfX4_inBrackets_24_66 bfX11_readPart_130_37 bfX11_readPart_130_167
  cases dp with
  | zero =>
    rw [if_neg (show ¬ iN (8 - 0) < 8 by decide), faulty_eq x h, if_neg (fun z => z (show iN (8 - 0) = 8 from rfl)), faults_eq x h]
    dsimp only
    rw [fine_nf x (flTk T (pl i)) (nf_of (u2_s T.1 130 21 _) ti.2.2.2.2.2.1)]
    dsimp only
    rw [show bbz 0 = true from rfl, cond_true, if_neg (fun z => z rfl)]
    dsimp only
    rw [show bbz 0 = true from rfl, cond_true]
    exact Or.inr (h.fl Agr.rf Agr.rf)
  | succ dp =>
    have e8 : iN (8 - (dp + 1)) + 1 = iN (8 - dp) := by rw [iN_succ, show 8 - (dp + 1) + 1 = 8 - dp by omega]
    rw [if_pos (show iN (8 - (dp + 1)) < 8 from (iN_lt (n := 8) (by omega) (by omega)).mpr (show 8 - (dp + 1) < 8 by omega)), if_pos (show ¬ (93 : Int32) = 41 by decide), h.2.1, iN_succ, e8, if_pos (show ¬ iN (8 - (dp + 1)) = 8 from fun z => by have := (iN_eq (n := 8) (by omega) (by omega)).mp z; omega), fine_ok x T h.2.2.2.2.2.2.1]
    dsimp only
    rw [if_pos (show ¬ (1 : Int32) = 0 by decide), h.2.2.2.2.1, iN_succ]
    have hs := HS dp rfl (nwS S (i + 1)) (nwT T (i + 1)) (i + 1) l a N1 N2 (h.adv hin) (by omega) (by omega)
    rcases hs with ⟨S', T', j, k, b, d, N, g1, g2, g3, g4, g5, g6, g7, g8⟩ | ⟨S', T', k, a', g1, g2, g3, g4, g5, g6, g7, g8, g9⟩
    · have g1 : gqX4_test_24 x N1 4 (u2 S.1 24 6 (iN (i + 1)), S.2.1, S.2.2.1, S.2.2.2) (iN (8 - dp)) 0 = some (1, S') := g1
      have g2 : gqX11_readSum_130 x N2 0 (u2 T.1 130 19 (iN (i + 1)), T.2.1, T.2.2.1, T.2.2.2) (iN (8 - dp)) 0 = some ((), T') := g2
      have a1 : Agr wPc S S' := (nwS_agr S (i + 1)).tr g7
      have a2 : Agr wPr T T' := (nwT_agr T (i + 1)).tr g8
      rw [g1, g2]
      dsimp only
      rw [if_neg (show ¬ (1 : Int32) = 0 by decide), show (93 : Int32) = iN 93 from rfl, signz_eq x T' 93 (by omega), take_eq x g3 93 (by omega)]
      dsimp only
      rw [must_eq x g3 93 (by omega) (by decide)]
      by_cases c : tk j = 93
      · rw [if_pos c, if_pos c]
        dsimp only
        rw [if_neg (show ¬ (1 : Int32) = 0 by decide), show bbz 1 = true from rfl, cond_true]
        dsimp only
        rw [show bbz 1 = true from rfl, cond_true]
        have hj := g3.lt (by rw [c]; decide)
        refine Or.inl ⟨_, _, j + 1, k, b, d, N + 1, rfl, rfl, g3.adv hj, by omega, ?_, g6, a1.tr (nwS_agr S' _), a2.tr (nwT_agr T' _)⟩
        refine Or.inl ⟨rfl, Or.inr (Or.inr ⟨dp, j, rfl, rfl, e139, ?_, g5⟩)⟩
        have := g3.t.2.2.2.1
        rw [c, a2.2.1 139 (by decide)] at this
        exact this
      · rw [if_neg c, if_neg c]
        dsimp only
        rw [if_pos rfl, show bbz 0 = true from rfl, cond_true]
        dsimp only
        rw [show bbz 0 = true from rfl, cond_true]
        exact Or.inr (g3.fl a1 a2)
    · have g1 : gqX4_test_24 x N1 4 (u2 S.1 24 6 (iN (i + 1)), S.2.1, S.2.2.1, S.2.2.2) (iN (8 - dp)) 0 = some (0, S') := g1
      have g2 : gqX11_readSum_130 x N2 0 (u2 T.1 130 19 (iN (i + 1)), T.2.1, T.2.2.1, T.2.2.2) (iN (8 - dp)) 0 = some ((), T') := g2
      rw [g1, g2]
      dsimp only
      rw [if_pos rfl, show bbz 0 = true from rfl, cond_true, show (93 : Int32) = iN 93 from rfl, signz_eq x T' 93 (by omega)]
      dsimp only
      rw [must_nf x T' (nf_of g4 g5), show bbz 0 = true from rfl, cond_true]
      exact Or.inr ⟨S', T', k, a', rfl, rfl, g3, g4, g5, g6, g7, (nwS_agr S (i + 1)).tr g8, (nwT_agr T (i + 1)).tr g9⟩
end PARSE
