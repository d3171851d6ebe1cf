section CLLAW
theorem cq40 (c r : Nat) : (4 : Int32) * iN c + iN r = iN (4 * c + r) := by rw [show (4 : Int32) * iN c = iN (4 * c) from iN_mul 4 c, iN_add]
theorem cq62 (x : XT) (S : ST) (c a i t : Nat) (hc : c < 12) (h1 : S.1 25 1 = iN a) (h6 : S.1 24 6 = iN i) (ht : t < 300) : bfX4_clause_24_62 x S (iN c) (iN t) = if t = 262 ∨ t = 266 then bfX4_clause_24_134 x (clS S c a (iN t) i) (iN c) (iN t) else (match gfX4_sum_24 x (clS S c a (iN t) i) 0 with
    | none => none
    | some (r8, S9) => (if ¬ r8 = 0 then (bfX4_clause_24_134 x S9 (iN c) (iN t)) else (some (0, S9)))) := by
  unfold bfX4_clause_24_62
  rw [inb_t hc (by omega), cond_true, cond_true, show (4 : Int32) * iN c = iN (4 * c) from iN_mul 4 c, inb_t (show 4 * c < 48 by omega) (by omega), cond_true, iN_nat (show c < 2147483648 by omega), iN_nat (show 4 * c < 2147483648 by omega), h1, h6, iN_succ]
  by_cases e1 : t = 262
  · subst e1
    rw [if_pos (show iN 262 = 262 from rfl), if_pos (Or.inl rfl)]
    rfl
  · rw [if_neg (show ¬ iN t = 262 from fun z => e1 ((iN_eq (n := 262) (by omega) (by omega)).mp z))]
    by_cases e2 : t = 266
    · subst e2
      rw [if_pos (show iN 266 = 266 from rfl), if_pos (Or.inr rfl)]
      rfl
    · rw [if_neg (show ¬ iN t = 266 from fun z => e2 ((iN_eq (n := 266) (by omega) (by omega)).mp z)), if_neg (by omega)]
      rfl
theorem cq134 (x : XT) (S : ST) (c a t : Nat) (hc : c < 12) (h1 : S.1 25 1 = iN a) (ht : t < 300) (h263 : t ≠ 263) : bfX4_clause_24_134 x S (iN c) (iN t) = bfX4_clause_24_179 x (bdS S (4 * c + 1) (iN a)) (iN c) (iN t) := by
  unfold bfX4_clause_24_134
  rw [show (4 : Int32) * iN c + 1 = iN (4 * c + 1) from cq40 c 1, inb_t (show 4 * c + 1 < 48 by omega) (by omega), cond_true, iN_nat (by omega), h1, if_pos (show ¬ iN t = 263 from fun z => h263 ((iN_eq (n := 263) (by omega) (by omega)).mp z))]
  rfl
theorem cq179 (x : XT) (S : ST) (c t : Nat) (ht : t < 300) (h265 : t ≠ 265) : bfX4_clause_24_179 x S (iN c) (iN t) = bfX4_clause_24_206 x S (iN c) := by
  unfold bfX4_clause_24_179
  rw [if_pos (show ¬ iN t = 265 from fun z => h265 ((iN_eq (n := 265) (by omega) (by omega)).mp z))]
theorem c206l (x : XT) (S : ST) (c a : Nat) (hc : c < 12) (h1 : S.1 25 1 = iN a) (h8 : S.1 24 8 = 0) : bfX4_clause_24_206 x S (iN c) = bfX4_clause_24_253 x (bdS S (4 * c + 2) (iN a)) (iN c) := by
  unfold bfX4_clause_24_206
  rw [show (4 : Int32) * iN c + 2 = iN (4 * c + 2) from cq40 c 2, inb_t (show 4 * c + 2 < 48 by omega) (by omega), cond_true, iN_nat (by omega), h1, if_pos h8]
  rfl
theorem nf_29 (x : XT) (T : ST) (h : ¬ T.1 130 21 = -1) : bfX11_readClause_130_29 x T = some ((), T) := by
  unfold bfX11_readClause_130_29 bfX11_readClause_130_42
  rw [takes_nf x T h]
  dsimp only
  rw [if_pos rfl]
/-- a CLAUSE of a LAW was read -/
def ClG (n : Nat) (tk pl vv : Nat → Nat) (S T : ST) (i l a c : Nat) (rc : Option (Int32 × ST)) (rr : Option (Unit × ST)) : Prop := ∃ S' T' j l' b v dS dT, rc = some (1, S') ∧ rr = some ((), T') ∧ PQ S' T' n false tk pl vv j l' b ∧ S'.1 25 0 = iN (c + 1) ∧ b + i ≤ a + j ∧ i < j ∧ a ≤ b ∧ LCl (T.2.1 139) (T.2.1 140) (S'.2.1 29) (S'.2.1 26) (S'.2.1 28) b c i j v dS dT ∧ (∀ z, z < a → S'.2.1 29 z = S.2.1 29 z) ∧ (∀ z, z < c → S'.2.1 26 z = S.2.1 26 z) ∧ (∀ z, z < 4 * c → S'.2.1 28 z = S.2.1 28 z) ∧ Agr wCl S S' ∧ Agr wPr T T'
/-- behind the SUM of a CLAUSE of a LAW -/
theorem tail_law (x : XT) {n : Nat} {tk pl vv : Nat → Nat} {S T S0 T0 : ST} {i l a c i0 l0 a0 v : Nat} {dS : DN} {N k1 : Nat} (h : PQ S T n false tk pl vv i l a) (hc : c < 12) (h0 : S.1 25 0 = iN c) (hv : v ≤ 2) (a1 : Agr wCl S0 S) (a2 : Agr wPr T0 T) (e26 : S.2.1 26 c = iN (260 + v)) (e28 : S.2.1 28 (4 * c) = iN a0) (f26 : ∀ z, z < c → S.2.1 26 z = S0.2.1 26 z) (f28 : ∀ z, z < 4 * c → S.2.1 28 z = S0.2.1 28 z) (f29 : ∀ z, z < a0 → S.2.1 29 z = S0.2.1 29 z) (ti : T0.2.1 139 i0 = iN (v + 1)) (hi : i0 < i) (haa : a0 ≤ a) (hb : a + i0 ≤ a0 + i) (hS : (v = 2 ∧ i = i0 + 1 ∧ a = a0 ∧ dS = fun _ => some 1) ∨ (v ≤ 1 ∧ k1 ≤ 50 ∧ Gr false (T0.2.1 139) (T0.2.1 140) (S.2.1 29) N 8 2 (i0 + 1) i a0 a k1 dS)) : OutC S0 T0 (bfX4_clause_24_134 x S (iN c) (iN (260 + v))) (bfX11_readClause_130_29 x T) ∨ ClG n tk pl vv S0 T0 i0 l0 a0 c (bfX4_clause_24_134 x S (iN c) (iN (260 + v))) (bfX11_readClause_130_29 x T) := by
  have h8 : (bdS S (4 * c + 1) (iN a)).1 24 8 = 0 := h.1.2.2.2.1
  rw [cq134 x S c a (260 + v) hc h.2.2.2.1 (by omega) (by omega), cq179 x _ c (260 + v) (by omega) (by omega), c206l x (bdS S (4 * c + 1) (iN a)) c a hc h.2.2.2.1 h8]
  have hp := (h.bd (4 * c + 1) (iN a)).bd (4 * c + 2) (iN a)
  have b1 : Agr wCl S0 (bdS (bdS S (4 * c + 1) (iN a)) (4 * c + 2) (iN a)) := a1.tr ((bdS_agr _ _ _).tr (bdS_agr _ _ _))
  have r28 : ∀ z, (bdS (bdS S (4 * c + 1) (iN a)) (4 * c + 2) (iN a)).2.1 28 z = if z = 4 * c + 2 then iN a else if z = 4 * c + 1 then iN a else S.2.1 28 z := by
    intro z
    show u2 (u2 S.2.1 28 (4 * c + 1) (iN a)) 28 (4 * c + 2) (iN a) 28 z = _
    by_cases e : z = 4 * c + 2
    · rw [e, u2_s, if_pos rfl]
    · rw [u2_k _ _ _ e, if_neg e]
      by_cases e : z = 4 * c + 1
      · rw [e, u2_s, if_pos rfl]
      · rw [u2_k _ _ _ e, if_neg e]
  have ro : ∀ q, q ≠ 28 → (bdS (bdS S (4 * c + 1) (iN a)) (4 * c + 2) (iN a)).2.1 q = S.2.1 q := by
    intro q hq
    show (u2 (u2 S.2.1 28 (4 * c + 1) (iN a)) 28 (4 * c + 2) (iN a)) q = _
    rw [u2_ro _ _ _ hq, u2_ro _ _ _ hq]
  rcases fin_law x hp hc h0 with q | ⟨S', T', j, l', b, dT, q1, q2, q3, q4, q5, q6, q7, q8, q9, q10, q11, q12, q13⟩
  · exact Or.inl (q.c b1 a2)
  · have s0 : S'.2.1 28 (4 * c) = iN a0 := by rw [q9 _ (by omega), r28, if_neg (by omega), if_neg (by omega)]; exact e28
    have s1 : S'.2.1 28 (4 * c + 1) = iN a := by rw [q9 _ (by omega), r28, if_neg (by omega), if_pos rfl]
    have s2 : S'.2.1 28 (4 * c + 2) = iN a := by rw [q9 _ (by omega), r28, if_pos rfl]
    have s29 : ∀ z, z < a → S'.2.1 29 z = S.2.1 29 z := fun z hz => by rw [q8 z hz, ro 29 (by decide)]
    have hij : i ≤ j ∧ a ≤ b := by
      rcases q7 with ⟨y1, y2, -⟩ | ⟨-, N', k, -, y⟩
      · omega
      · have := y.ltt; omega
    refine Or.inr ⟨S', T', j, l', b, v, dS, dT, q1, q2, q3, q4, by omega, by omega, by omega, ?_, fun z hz => by rw [s29 z (by omega)]; exact f29 z hz, fun z hz => by rw [q10, ro 26 (by decide)]; exact f26 z hz, fun z hz => by rw [q9 _ (by omega), r28, if_neg (by omega), if_neg (by omega)]; exact f28 z hz, b1.tr q12, a2.tr q13⟩
    have e26' : S'.2.1 26 c = iN (260 + v) := by rw [q10, ro 26 (by decide)]; exact e26
    have hS' : ∀ N', (v = 2 ∧ i = i0 + 1 ∧ dS = fun _ => some 1) ∨ (v ≤ 1 ∧ k1 ≤ 50 ∧ Gr false (T0.2.1 139) (T0.2.1 140) (S'.2.1 29) (N + N') 8 2 (i0 + 1) i a0 a k1 dS) := by
      intro N'
      rcases hS with ⟨y1, y2, y3, y4⟩ | ⟨y1, y2, y3⟩
      · exact Or.inl ⟨y1, y2, y4⟩
      · exact Or.inr ⟨y1, y2, (y3.cs (fun z z1 z2 => s29 z z2)).le (by omega)⟩
    rcases q7 with ⟨y1, y2, y3, y4, -⟩ | ⟨y0, N', k, yk, y⟩
    · subst y1 y2
      exact ⟨j, a0, b, b, N + 0, k1, 0, hv, ti, e26', s0, s1, s2, q6, Nat.le_refl _, Nat.le_refl _, hS' 0, Or.inl ⟨rfl, rfl, y4⟩⟩
    · rw [a2.2.1 139 (by decide)] at y0
      rw [a2.2.1 139 (by decide), a2.2.1 140 (by decide)] at y
      exact ⟨i, a0, a, b, N + N', k1, k, hv, ti, e26', s0, s1, s2, q6, Nat.le_refl _, by omega, hS' N', Or.inr ⟨y0, yk, y.le (by omega)⟩⟩
theorem clause_law (x : XT) {n : Nat} {tk pl vv : Nat → Nat} {S T : ST} {i l a c : Nat} (h : PQ S T n false tk pl vv i l a) (hc : c < 12) (h0 : S.1 25 0 = iN c) : OutC S T (gfX4_clause_24 x S) (gfX11_readOne_130 x T) ∨ ClG n tk pl vv S T i l a c (gfX4_clause_24 x S) (gfX11_readOne_130 x T) := by
  have hn := h.1.1
  have hi := h.2.2.2.2.2.2.2.1
  have ha := h.2.2.2.2.2.2.2.2.2
  have ht := h.t
  have t1 : gfX11_takes0_130 x T 1 = if tk i = 260 then some (1, nwT T (i + 1)) else some (0, T) := takez_eq x h 260 (by omega) (by decide)
  have t2 : gfX11_takes0_130 x T 2 = if tk i = 261 then some (1, nwT T (i + 1)) else some (0, T) := takez_eq x h 261 (by omega) (by decide)
  have t3 : gfX11_must_130 x T 3 = if tk i = 262 then some ((), nwT T (i + 1)) else some ((), flTk T (pl i)) := must_eq x h 262 (by omega) (by decide)
  have h8 : S.1 24 8 = 0 := h.1.2.2.2.1
  have h10 : T.1 130 10 = 0 := h.1.2.2.2.2.1
  have one : ∀ o, gfX11_readClause_130 x T = o → gfX11_readOne_130 x T = o := by
    intro o ho
    unfold gfX11_readOne_130 bfX11_readOne_130_0 bfX11_readOne_130_18
    rw [if_pos h10, ho]
    cases o with
    | none => rfl
    | some z => rfl
  have n12 : ¬ (12 : Int32) ≤ iN c := fun z => by have := (iN_le (m := 12) (by omega) (by omega)).mp z; omega
  by_cases hv : 260 ≤ tk i ∧ tk i ≤ 262
  · obtain ⟨v, ev⟩ : ∃ v, tk i = 260 + v := ⟨tk i - 260, by omega⟩
    have hin := h.lt (by omega)
    have hp := h.cl hin c (iN (260 + v))
    have ec : gfX4_clause_24 x S = bfX4_clause_24_62 x S (iN c) (iN (260 + v)) := by
      unfold gfX4_clause_24 bfX4_clause_24_0
      rw [here_eq x h]
      dsimp only
      rw [h0, if_neg n12, if_pos h8, ev, if_neg (show ¬ iN (260 + v) < 260 from fun z => by have := (iN_lt (n := 260) (by omega) (by omega)).mp z; omega), if_pos (show iN (260 + v) ≤ 262 from (iN_le (n := 262) (by omega) (by omega)).mpr (by omega))]
    have ti : T.2.1 139 i = iN (v + 1) := by
      rw [ht.2.2.2.1, ev]
      rcases (show v = 0 ∨ v = 1 ∨ v = 2 by omega) with rfl | rfl | rfl <;> rfl
    have b1 : Agr wCl S (clS S c a (iN (260 + v)) i) := clS_agr S c a _ i
    have b2 : Agr wPr T (nwT T (i + 1)) := nwT_agr T _
    have e26 : (clS S c a (iN (260 + v)) i).2.1 26 c = iN (260 + v) := by
      show u2 (u2 (u2 S.2.1 26 c (iN (260 + v))) 27 c 1) 28 (4 * c) (iN a) 26 c = _
      rw [u2_ro _ _ _ (by decide), u2_ro _ _ _ (by decide), u2_s]
    have e28 : (clS S c a (iN (260 + v)) i).2.1 28 (4 * c) = iN a := u2_s _ 28 _ _
    have f26 : ∀ z, z < c → (clS S c a (iN (260 + v)) i).2.1 26 z = S.2.1 26 z := by
      intro z hz
      show u2 (u2 (u2 S.2.1 26 c (iN (260 + v))) 27 c 1) 28 (4 * c) (iN a) 26 z = _
      rw [u2_ro _ _ _ (by decide), u2_ro _ _ _ (by decide), u2_k _ _ _ (by omega)]
    have f28 : ∀ z, z < 4 * c → (clS S c a (iN (260 + v)) i).2.1 28 z = S.2.1 28 z := by
      intro z hz
      show u2 (u2 (u2 S.2.1 26 c (iN (260 + v))) 27 c 1) 28 (4 * c) (iN a) 28 z = _
      rw [u2_k _ _ _ (by omega), u2_ro _ _ _ (by decide), u2_ro _ _ _ (by decide)]
    have f29 : (clS S c a (iN (260 + v)) i).2.1 29 = S.2.1 29 := by
      show (u2 (u2 (u2 S.2.1 26 c (iN (260 + v))) 27 c 1) 28 (4 * c) (iN a)) 29 = _
      rw [u2_ro _ _ _ (by decide), u2_ro _ _ _ (by decide), u2_ro _ _ _ (by decide)]
    have g0 : (clS S c a (iN (260 + v)) i).1 25 0 = iN c := by
      show u2 S.1 24 6 (iN (i + 1)) 25 0 = _
      rw [u2_n _ _ _ _ (by decide)]; exact h0
    rw [ec, cq62 x S c a i (260 + v) hc h.2.2.2.1 h.2.1 (by omega)]
    by_cases v2 : v = 2
    · subst v2
      rw [if_pos (by omega), one _ (show gfX11_readClause_130 x T = bfX11_readClause_130_29 x (nwT T (i + 1)) by
        unfold gfX11_readClause_130 bfX11_readClause_130_0
        rw [t1, if_neg (by omega)]
        dsimp only
        rw [if_neg (show ¬ ¬ (0 : Int32) = 0 from fun z => z rfl), t2, if_neg (by omega)]
        dsimp only
        rw [if_pos (show (0 : Int32) = 0 from rfl), t3, if_pos (by omega)])]
      exact tail_law x (v := 2) (dS := fun _ => some 1) (N := 0) (k1 := 0) hp hc g0 (by omega) b1 b2 e26 e28 f26 f28 (fun z hz => congrFun f29 z) ti (by omega) (Nat.le_refl _) (by omega) (Or.inl ⟨rfl, rfl, rfl, rfl⟩)
    · have er : gfX11_readClause_130 x T = bfX11_readClause_130_16 x (nwT T (i + 1)) := by
        unfold gfX11_readClause_130 bfX11_readClause_130_0
        rw [t1]
        by_cases v0 : v = 0
        · rw [if_pos (by omega)]
          dsimp only
          rw [if_pos (show ¬ (1 : Int32) = 0 by decide)]
        · rw [if_neg (by omega)]
          dsimp only
          rw [if_neg (show ¬ ¬ (0 : Int32) = 0 from fun z => z rfl), t2, if_pos (by omega)]
          dsimp only
          rw [if_neg (show ¬ (1 : Int32) = 0 by decide)]
      rw [if_neg (by omega), one _ er]
      unfold bfX11_readClause_130_16
      rcases sumC x hp with ⟨S', T', j, k, b, d, N, g1, g2, g3, g4, g5, g6, g7, g8⟩ | f
      · rw [g1, g2]
        dsimp only
        rw [if_pos (show ¬ (1 : Int32) = 0 by decide)]
        have lt1 := g5.ltt
        have k50 := g3.2.2.2.2.2.2.2.2.1
        exact tail_law x (v := v) (dS := d) (N := N) (k1 := k) g3 hc ((g7.1 25 0 (by decide)).trans g0) (by omega) (b1.tr (g7.sub (by decide))) (b2.tr g8) (by rw [g7.2.1 26 (by decide)]; exact e26) (by rw [g7.2.1 28 (by decide)]; exact e28) (fun z hz => by rw [g7.2.1 26 (by decide)]; exact f26 z hz) (fun z hz => by rw [g7.2.1 28 (by decide)]; exact f28 z hz) (fun z hz => (g6 z hz).trans (congrFun f29 z)) ti (by omega) (by omega) (by omega) (Or.inr ⟨by omega, by omega, g5⟩)
      · have f' := f
        obtain ⟨S', T', k, a', q1, q2, q3, q4, q5, q6, q7, q8, q9⟩ := f
        rw [q1, q2]
        dsimp only
        rw [if_neg (show ¬ ¬ (0 : Int32) = 0 from fun z => z rfl), nf_29 x T' (nf_of q4 q5)]
        exact Or.inl ⟨S', T', k, rfl, rfl, q3, q4, q5, b1.tr (q8.sub (by decide)), b2.tr q9⟩
  · have ec : gfX4_clause_24 x S = some (0, flS S (pl i)) := by
      unfold gfX4_clause_24 bfX4_clause_24_0 bfX4_clause_24_57
      rw [here_eq x h]
      dsimp only
      rw [h0, if_neg n12, if_pos h8, faulty_eq x h]
      dsimp only
      rw [show bbz 0 = true from rfl, cond_true]
      by_cases c1 : tk i < 260
      · rw [if_pos (show iN (tk i) < 260 from (iN_lt (n := 260) (by omega) (by omega)).mpr c1)]
      · rw [if_neg (show ¬ iN (tk i) < 260 from fun z => c1 ((iN_lt (n := 260) (by omega) (by omega)).mp z)), if_neg (show ¬ iN (tk i) ≤ 262 from fun z => by have := (iN_le (n := 262) (by omega) (by omega)).mp z; omega)]
    have er : gfX11_readClause_130 x T = some ((), flTk T (pl i)) := by
      unfold gfX11_readClause_130 bfX11_readClause_130_0
      rw [t1, if_neg (by omega)]
      dsimp only
      rw [if_neg (show ¬ ¬ (0 : Int32) = 0 from fun z => z rfl), t2, if_neg (by omega)]
      dsimp only
      rw [if_pos (show (0 : Int32) = 0 from rfl), t3, if_neg (by omega)]
      dsimp only
      rw [nf_29 x _ (nf_of (u2_s T.1 130 21 _) ht.2.2.2.2.2.1)]
    rw [ec, one _ er]
    exact Or.inl ((h.fl Agr.rf Agr.rf).c Agr.rf Agr.rf)
end CLLAW
