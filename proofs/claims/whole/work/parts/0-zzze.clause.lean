section CLAUSE
def wCl : WS := ([(24, 1), (24, 6), (24, 7), (25, 1), (25, 0)], [26, 27, 28, 29], [], [])
def OutC (S T : ST) (rc : Option (Int32 × ST)) (rr : Option (Unit × ST)) : Prop := ∃ S' T' k, rc = some (0, S') ∧ rr = some ((), T') ∧ S'.1 24 1 = iN k ∧ T'.1 130 21 = iN k ∧ k ≤ 400 ∧ Agr wCl S S' ∧ Agr wPr T T'
theorem OutF.c {S T S0 T0 : ST} {rc : Option (Int32 × ST)} {rr : Option (Unit × ST)} (h : OutF S T rc rr) (a1 : Agr wCl S0 S) (a2 : Agr wPr T0 T) : OutC S0 T0 rc rr := by
  obtain ⟨S', T', k, a', q1, q2, q3, q4, q5, q6, q7, q8, q9⟩ := h
  exact ⟨S', T', k, q1, q2, q3, q4, q5, a1.tr (q8.sub (by decide)), a2.tr q9⟩
theorem OutC.c {S T S0 T0 : ST} {rc : Option (Int32 × ST)} {rr : Option (Unit × ST)} (h : OutC S T rc rr) (a1 : Agr wCl S0 S) (a2 : Agr wPr T0 T) : OutC S0 T0 rc rr := by
  obtain ⟨S', T', k, q1, q2, q3, q4, q5, q8, q9⟩ := h
  exact ⟨S', T', k, q1, q2, q3, q4, q5, a1.tr q8, a2.tr q9⟩
theorem sumC (x : XT) {n : Nat} {o : Bool} {tk pl vv : Nat → Nat} {S T : ST} {i l a : Nat} (h : PQ S T n o tk pl vv i l a) : Out n o tk pl vv S T 2 8 i l a (gfX4_sum_24 x S 0) (gfX11_readSum_130 x T 0) := sum_all8 x n o tk pl vv 8 (by omega) S T i l a 60 60 h (by omega) (by omega)
theorem testC (x : XT) {n : Nat} {o : Bool} {tk pl vv : Nat → Nat} {S T : ST} {i l a : Nat} (h : PQ S T n o tk pl vv i l a) : Out n o tk pl vv S T 6 8 i l a (gfX4_test_24 x S 0 271) (gfX11_readTest_130 x T 0) := test_all8 x n o tk pl vv 8 (by omega) S T i l a 60 60 h (by omega) (by omega)
theorem nf_sumC (x : XT) (T : ST) (h : ¬ T.1 130 21 = -1) : gfX11_readSum_130 x T 0 = some ((), T) := nf_sum x T h 57 0 0
theorem nf_testC (x : XT) (T : ST) (h : ¬ T.1 130 21 = -1) : gfX11_readTest_130 x T 0 = some ((), T) := nf_test x T h 57 0 0
def dnS (S : ST) (c b : Nat) : ST := (u2 S.1 25 0 (iN (c + 1)), u2 S.2.1 28 (4 * c + 3) (iN b), S.2.2.1, S.2.2.2)
def bdS (S : ST) (k : Nat) (v : Int32) : ST := (S.1, u2 S.2.1 28 k v, S.2.2.1, S.2.2.2)
def clS (S : ST) (c a : Nat) (vb : Int32) (i : Nat) : ST := (u2 S.1 24 6 (iN (i + 1)), u2 (u2 (u2 S.2.1 26 c vb) 27 c 1) 28 (4 * c) (iN a), S.2.2.1, S.2.2.2)
theorem dnS_agr (S : ST) (c b : Nat) : Agr wCl S (dnS S c b) := Agr.i (S1 := (u2 S.1 25 0 (iN (c + 1)), S.2.1, S.2.2.1, S.2.2.2)) (Agr.f Agr.rf 25 0 _ (by decide)) 28 _ _ (by decide)
theorem bdS_agr (S : ST) (k : Nat) (v : Int32) : Agr wCl S (bdS S k v) := Agr.i Agr.rf 28 k v (by decide)
theorem clS_agr (S : ST) (c a : Nat) (vb : Int32) (i : Nat) : Agr wCl S (clS S c a vb i) := Agr.i (S1 := (u2 S.1 24 6 (iN (i + 1)), u2 (u2 S.2.1 26 c vb) 27 c 1, S.2.2.1, S.2.2.2)) (Agr.i (S1 := (u2 S.1 24 6 (iN (i + 1)), u2 S.2.1 26 c vb, S.2.2.1, S.2.2.2)) (Agr.i (S1 := (u2 S.1 24 6 (iN (i + 1)), S.2.1, S.2.2.1, S.2.2.2)) (Agr.f Agr.rf 24 6 _ (by decide)) 26 _ _ (by decide)) 27 _ _ (by decide)) 28 _ _ (by decide)
theorem TK.cl {S S' T T' : ST} {n : Nat} {o : Bool} {tk pl vv : Nat → Nat} (h : TK S T n o tk pl vv) (a : Agr wCl S S') (b : Agr wPr T T') : TK S' T' n o tk pl vv := h.cg a b (by decide) (by decide) (by decide) (by decide) (by decide) (by decide) (by decide) (by decide) (by decide) (by decide) (by decide) (by decide)
theorem PQ.dn {S T : ST} {n : Nat} {o : Bool} {tk pl vv : Nat → Nat} {i l a c b : Nat} (h : PQ S T n o tk pl vv i l a) : PQ (dnS S c b) T n o tk pl vv i l a := by
  obtain ⟨h0, h1, h2, h3, h4⟩ := h
  refine ⟨h0.cl (dnS_agr S c b) Agr.rf, ?_, ?_, ?_, h4⟩
  · show u2 S.1 25 0 (iN (c + 1)) 24 6 = _
    rw [u2_n _ _ _ _ (by decide)]; exact h1
  · show u2 S.1 25 0 (iN (c + 1)) 24 7 = _
    rw [u2_n _ _ _ _ (by decide)]; exact h2
  · show u2 S.1 25 0 (iN (c + 1)) 25 1 = _
    rw [u2_k _ _ _ (by decide)]; exact h3
theorem PQ.bd {S T : ST} {n : Nat} {o : Bool} {tk pl vv : Nat → Nat} {i l a : Nat} (h : PQ S T n o tk pl vv i l a) (k : Nat) (v : Int32) : PQ (bdS S k v) T n o tk pl vv i l a := ⟨h.1.cl (bdS_agr S k v) Agr.rf, h.2⟩
theorem PQ.cl {S T : ST} {n : Nat} {o : Bool} {tk pl vv : Nat → Nat} {i l a : Nat} (h : PQ S T n o tk pl vv i l a) (hi : i < n) (c : Nat) (vb : Int32) : PQ (clS S c a vb i) (nwT T (i + 1)) n o tk pl vv (i + 1) l a := by
  have h' := h.adv hi
  exact ⟨h.1.cl (clS_agr S c a vb i) (nwT_agr T _), h'.2⟩
/-- the end of a CLAUSE: its TEST, if there is one -/
def FinG (n : Nat) (o : Bool) (tk pl vv : Nat → Nat) (S T : ST) (i l a c : Nat) (rc : Option (Int32 × ST)) (rr : Option (Unit × ST)) : Prop := ∃ S' T' j l' b dT, rc = some (1, S') ∧ rr = some ((), T') ∧ PQ S' T' n o tk pl vv j l' b ∧ S'.1 25 0 = iN (c + 1) ∧ b + i ≤ a + j ∧ S'.2.1 28 (4 * c + 3) = iN b ∧
  ((j = i ∧ b = a ∧ l' = l ∧ dT = (fun _ => some 1) ∧ tk i ≠ 267) ∨ (T.2.1 139 i = iN 4 ∧ ∃ N k, k ≤ 50 ∧ Gr o (T.2.1 139) (T.2.1 140) (S'.2.1 29) N 8 6 (i + 1) j a b k dT)) ∧ (∀ z, z < a → S'.2.1 29 z = S.2.1 29 z) ∧ (∀ z, z ≠ 4 * c + 3 → S'.2.1 28 z = S.2.1 28 z) ∧ S'.2.1 26 = S.2.1 26 ∧ S'.2.1 27 = S.2.1 27 ∧ Agr wCl S S' ∧ Agr wPr T T'
theorem fin_law (x : XT) {n : Nat} {o : Bool} {tk pl vv : Nat → Nat} {S T : ST} {i l a c : Nat} (h : PQ S T n o tk pl vv i l a) (hc : c < 12) (h0 : S.1 25 0 = iN c) : OutC S T (bfX4_clause_24_253 x S (iN c)) (bfX11_readClause_130_29 x T) ∨ FinG n o tk pl vv S T i l a c (bfX4_clause_24_253 x S (iN c)) (bfX11_readClause_130_29 x T) := by
  have hn := h.1.1
  have hi := h.2.2.2.2.2.2.2.1
  have ht := h.t
  have e43 : (4 : Int32) * iN c + 3 = iN (4 * c + 3) := by rw [show (4 : Int32) * iN c = iN (4 * c) from iN_mul 4 c, show iN (4 * c) + 3 = iN (4 * c + 3) from iN_add (4 * c) 3]
  have tz : gfX11_takes0_130 x T 4 = if tk i = 267 then some (1, nwT T (i + 1)) else some (0, T) := takez_eq x h 267 (by omega) (by decide)
  have done : ∀ (S1 : ST) (b : Nat), S1.1 25 1 = iN b → S1.1 25 0 = iN c → bfX4_clause_24_286 x S1 (iN c) = some (1, dnS S1 c b) := by
    intro S1 b e1 e0
    unfold bfX4_clause_24_286
    rw [e43, inb_t (show 4 * c + 3 < 48 by omega) (by omega), cond_true, iN_nat (by omega), e1, e0, iN_succ]
    rfl
  unfold bfX4_clause_24_253 bfX11_readClause_130_29 bfX11_readClause_130_42
  rw [here_eq x h, tz]
  dsimp only
  by_cases c0 : tk i = 267
  · have hin := h.lt (by omega)
    rw [if_neg (show ¬ ¬ iN (tk i) = 267 from fun z => z (by rw [c0]; rfl)), if_pos c0, h.2.1, iN_succ]
    dsimp only
    rw [if_neg (show ¬ (1 : Int32) = 0 by decide)]
    rcases testC x (h.adv hin) with ⟨S', T', j, k, b, d, N, g1, g2, g3, g4, g5, g6, g7, g8⟩ | ⟨S', T', k, a', g1, g2, g3, g4, g5, g6, g7, g8, g9⟩
    · have g1 : gfX4_test_24 x (u2 S.1 24 6 (iN (i + 1)), S.2.1, S.2.2.1, S.2.2.2) 0 271 = some (1, S') := g1
      rw [g1, g2]
      dsimp only
      have a1 : Agr wPc S S' := (nwS_agr S (i + 1)).tr g7
      have a2 : Agr wPr T T' := (nwT_agr T (i + 1)).tr g8
      rw [if_pos (show ¬ (1 : Int32) = 0 by decide), done S' b g3.2.2.2.1 ((a1.1 25 0 (by decide)).trans h0)]
      have k50 := g3.2.2.2.2.2.2.2.2.1
      refine Or.inr ⟨dnS S' c b, T', j, l + k, b, d, rfl, rfl, g3.dn, u2_s S'.1 25 0 _, by omega, u2_s S'.2.1 28 _ _, Or.inr ⟨by rw [ht.2.2.2.1, c0]; rfl, N, k, by omega, ?_⟩, fun z hz => ?_, fun z hz => ?_, ?_, ?_, (a1.sub (by decide)).tr (dnS_agr S' c b), a2⟩
      · show Gr o (T.2.1 139) (T.2.1 140) ((u2 S'.2.1 28 (4 * c + 3) (iN b)) 29) N 8 6 (i + 1) j a b k d
        rw [u2_ro _ _ _ (by decide)]
        exact g5
      · show (u2 S'.2.1 28 (4 * c + 3) (iN b)) 29 z = _
        rw [u2_ro _ _ _ (by decide)]
        exact g6 z hz
      · show (u2 S'.2.1 28 (4 * c + 3) (iN b)) 28 z = _
        rw [u2_k _ _ _ hz, a1.2.1 28 (by decide)]
      · show (u2 S'.2.1 28 (4 * c + 3) (iN b)) 26 = _
        rw [u2_ro _ _ _ (by decide), a1.2.1 26 (by decide)]
      · show (u2 S'.2.1 28 (4 * c + 3) (iN b)) 27 = _
        rw [u2_ro _ _ _ (by decide), a1.2.1 27 (by decide)]
    · have g1 : gfX4_test_24 x (u2 S.1 24 6 (iN (i + 1)), S.2.1, S.2.2.1, S.2.2.2) 0 271 = some (0, S') := g1
      rw [g1, g2]
      dsimp only
      rw [if_neg (show ¬ ¬ (0 : Int32) = 0 from fun z => z rfl)]
      exact Or.inl ⟨S', T', k, rfl, rfl, g3, g4, g5, (((nwS_agr S (i + 1)).tr g8).sub (by decide)), (nwT_agr T (i + 1)).tr g9⟩
  · rw [if_pos (show ¬ iN (tk i) = 267 from fun z => c0 ((iN_eq (n := 267) (by omega) (by omega)).mp z)), if_neg c0]
    dsimp only
    rw [if_pos (show (0 : Int32) = 0 from rfl), done S a h.2.2.2.1 h0]
    refine Or.inr ⟨dnS S c a, T, i, l, a, fun _ => some 1, rfl, rfl, h.dn, u2_s S.1 25 0 _, by omega, u2_s S.2.1 28 _ _, Or.inl ⟨rfl, rfl, rfl, rfl, c0⟩, fun z hz => ?_, fun z hz => ?_, ?_, ?_, dnS_agr S c a, Agr.rf⟩
    · show (u2 S.2.1 28 (4 * c + 3) (iN a)) 29 z = _
      rw [u2_ro _ _ _ (by decide)]
    · show (u2 S.2.1 28 (4 * c + 3) (iN a)) 28 z = _
      rw [u2_k _ _ _ hz]
    · show (u2 S.2.1 28 (4 * c + 3) (iN a)) 26 = _
      rw [u2_ro _ _ _ (by decide)]
    · show (u2 S.2.1 28 (4 * c + 3) (iN a)) 27 = _
      rw [u2_ro _ _ _ (by decide)]
theorem fin_ord (x : XT) {n : Nat} {o : Bool} {tk pl vv : Nat → Nat} {S T : ST} {i l a c : Nat} (h : PQ S T n o tk pl vv i l a) (hc : c < 12) (h0 : S.1 25 0 = iN c) : OutC S T (bfX4_clause_24_253 x S (iN c)) (bfX11_readOrder_130_75 x T) ∨ FinG n o tk pl vv S T i l a c (bfX4_clause_24_253 x S (iN c)) (bfX11_readOrder_130_75 x T) := by
  have hn := h.1.1
  have hi := h.2.2.2.2.2.2.2.1
  have ht := h.t
  have e43 : (4 : Int32) * iN c + 3 = iN (4 * c + 3) := by rw [show (4 : Int32) * iN c = iN (4 * c) from iN_mul 4 c, show iN (4 * c) + 3 = iN (4 * c + 3) from iN_add (4 * c) 3]
  have tz : gfX11_takes0_130 x T 4 = if tk i = 267 then some (1, nwT T (i + 1)) else some (0, T) := takez_eq x h 267 (by omega) (by decide)
  have done : ∀ (S1 : ST) (b : Nat), S1.1 25 1 = iN b → S1.1 25 0 = iN c → bfX4_clause_24_286 x S1 (iN c) = some (1, dnS S1 c b) := by
    intro S1 b e1 e0
    unfold bfX4_clause_24_286
    rw [e43, inb_t (show 4 * c + 3 < 48 by omega) (by omega), cond_true, iN_nat (by omega), e1, e0, iN_succ]
    rfl
  unfold bfX4_clause_24_253 bfX11_readOrder_130_75 bfX11_readOrder_130_88
  rw [here_eq x h, tz]
  dsimp only
  by_cases c0 : tk i = 267
  · have hin := h.lt (by omega)
    rw [if_neg (show ¬ ¬ iN (tk i) = 267 from fun z => z (by rw [c0]; rfl)), if_pos c0, h.2.1, iN_succ]
    dsimp only
    rw [if_neg (show ¬ (1 : Int32) = 0 by decide)]
    rcases testC x (h.adv hin) with ⟨S', T', j, k, b, d, N, g1, g2, g3, g4, g5, g6, g7, g8⟩ | ⟨S', T', k, a', g1, g2, g3, g4, g5, g6, g7, g8, g9⟩
    · have g1 : gfX4_test_24 x (u2 S.1 24 6 (iN (i + 1)), S.2.1, S.2.2.1, S.2.2.2) 0 271 = some (1, S') := g1
      rw [g1, g2]
      dsimp only
      have a1 : Agr wPc S S' := (nwS_agr S (i + 1)).tr g7
      have a2 : Agr wPr T T' := (nwT_agr T (i + 1)).tr g8
      rw [if_pos (show ¬ (1 : Int32) = 0 by decide), done S' b g3.2.2.2.1 ((a1.1 25 0 (by decide)).trans h0)]
      have k50 := g3.2.2.2.2.2.2.2.2.1
      refine Or.inr ⟨dnS S' c b, T', j, l + k, b, d, rfl, rfl, g3.dn, u2_s S'.1 25 0 _, by omega, u2_s S'.2.1 28 _ _, Or.inr ⟨by rw [ht.2.2.2.1, c0]; rfl, N, k, by omega, ?_⟩, fun z hz => ?_, fun z hz => ?_, ?_, ?_, (a1.sub (by decide)).tr (dnS_agr S' c b), a2⟩
      · show Gr o (T.2.1 139) (T.2.1 140) ((u2 S'.2.1 28 (4 * c + 3) (iN b)) 29) N 8 6 (i + 1) j a b k d
        rw [u2_ro _ _ _ (by decide)]
        exact g5
      · show (u2 S'.2.1 28 (4 * c + 3) (iN b)) 29 z = _
        rw [u2_ro _ _ _ (by decide)]
        exact g6 z hz
      · show (u2 S'.2.1 28 (4 * c + 3) (iN b)) 28 z = _
        rw [u2_k _ _ _ hz, a1.2.1 28 (by decide)]
      · show (u2 S'.2.1 28 (4 * c + 3) (iN b)) 26 = _
        rw [u2_ro _ _ _ (by decide), a1.2.1 26 (by decide)]
      · show (u2 S'.2.1 28 (4 * c + 3) (iN b)) 27 = _
        rw [u2_ro _ _ _ (by decide), a1.2.1 27 (by decide)]
    · have g1 : gfX4_test_24 x (u2 S.1 24 6 (iN (i + 1)), S.2.1, S.2.2.1, S.2.2.2) 0 271 = some (0, S') := g1
      rw [g1, g2]
      dsimp only
      rw [if_neg (show ¬ ¬ (0 : Int32) = 0 from fun z => z rfl)]
      exact Or.inl ⟨S', T', k, rfl, rfl, g3, g4, g5, (((nwS_agr S (i + 1)).tr g8).sub (by decide)), (nwT_agr T (i + 1)).tr g9⟩
  · rw [if_pos (show ¬ iN (tk i) = 267 from fun z => c0 ((iN_eq (n := 267) (by omega) (by omega)).mp z)), if_neg c0]
    dsimp only
    rw [if_pos (show (0 : Int32) = 0 from rfl), done S a h.2.2.2.1 h0]
    refine Or.inr ⟨dnS S c a, T, i, l, a, fun _ => some 1, rfl, rfl, h.dn, u2_s S.1 25 0 _, by omega, u2_s S.2.1 28 _ _, Or.inl ⟨rfl, rfl, rfl, rfl, c0⟩, fun z hz => ?_, fun z hz => ?_, ?_, ?_, dnS_agr S c a, Agr.rf⟩
    · show (u2 S.2.1 28 (4 * c + 3) (iN a)) 29 z = _
      rw [u2_ro _ _ _ (by decide)]
    · show (u2 S.2.1 28 (4 * c + 3) (iN a)) 28 z = _
      rw [u2_k _ _ _ hz]
    · show (u2 S.2.1 28 (4 * c + 3) (iN a)) 26 = _
      rw [u2_ro _ _ _ (by decide)]
    · show (u2 S.2.1 28 (4 * c + 3) (iN a)) 27 = _
      rw [u2_ro _ _ _ (by decide)]
end CLAUSE
