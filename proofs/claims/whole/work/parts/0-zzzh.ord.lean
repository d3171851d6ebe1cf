section CLORD2
/-- a CLAUSE of ORDERS was read -/
def OG (n : Nat) (tk pl vv : Nat → Nat) (S T : ST) (i l a c : Nat) (rc : Option (Int32 × ST)) (rr : Option (Unit × ST)) : Prop := ∃ S' T' j l' b u t dA dB dT, rc = some (1, S') ∧ rr = some ((), T') ∧ PQ S' T' n true tk pl vv j l' b ∧ S'.1 25 0 = iN (c + 1) ∧ b + i ≤ a + j ∧ i < j ∧ a ≤ b ∧ OCl (T.2.1 139) (T.2.1 140) (S'.2.1 29) (S'.2.1 26) (S'.2.1 27) (S'.2.1 28) b c i j u t dA dB dT ∧ (∀ z, z < a → S'.2.1 29 z = S.2.1 29 z) ∧ (∀ z, z < c → S'.2.1 26 z = S.2.1 26 z) ∧ (∀ z, z < c → S'.2.1 27 z = S.2.1 27 z) ∧ (∀ z, z < 4 * c → S'.2.1 28 z = S.2.1 28 z) ∧ Agr wCl S S' ∧ Agr wPr T T'
theorem ord_fin (x : XT) {n : Nat} {tk pl vv : Nat → Nat} {S T S0 T0 : ST} {j1 j2 l a1' a2' c i0 l0 a0 u : Nat} {dA dB : DN} {N k1 k2 : Nat} (h : PQ S T n true tk pl vv j2 l a2') (hc : c < 12) (h0 : S.1 25 0 = iN c) (hu : u ≤ 3) (h27 : S.2.1 27 c = 1) (a1 : Agr wCl S0 S) (a2 : Agr wPr T0 T) (e26 : S.2.1 26 c = iN (263 + u)) (e28 : S.2.1 28 (4 * c) = iN a0) (e281 : S.2.1 28 (4 * c + 1) = iN a1') (f26 : ∀ z, z < c → S.2.1 26 z = S0.2.1 26 z) (f27 : ∀ z, z < c → S.2.1 27 z = S0.2.1 27 z) (f28 : ∀ z, z < 4 * c → S.2.1 28 z = S0.2.1 28 z) (f29 : ∀ z, z < a0 → S.2.1 29 z = S0.2.1 29 z) (ti : T0.2.1 139 i0 = iN (oc u)) (hi : i0 < j2) (ha1 : a0 ≤ a1') (ha2 : a1' ≤ a2') (hb : a2' + i0 ≤ a0 + j2)
    (hA : (u = 3 ∧ j1 = i0 + 1 ∧ a1' = a0) ∨ (u ≤ 2 ∧ k1 ≤ 50 ∧ Gr true (T0.2.1 139) (T0.2.1 140) (S.2.1 29) N 8 2 (i0 + 1) j1 a0 a1' k1 dA))
    (hB : ((u = 1 ∨ u = 3) ∧ j2 = j1 ∧ a2' = a1') ∨ (((u = 0 ∧ T0.2.1 139 j1 = iN 21) ∨ (u = 2 ∧ T0.2.1 139 j1 = iN 24)) ∧ k2 ≤ 50 ∧ Gr true (T0.2.1 139) (T0.2.1 140) (S.2.1 29) N 8 2 (j1 + 1) j2 a1' a2' k2 dB)) :
    OutC S0 T0 (bfX4_clause_24_206 x S (iN c)) (bfX11_readOrder_130_59 x T) ∨ OG n tk pl vv S0 T0 i0 l0 a0 c (bfX4_clause_24_206 x S (iN c)) (bfX11_readOrder_130_59 x T) := by
  rcases tail_ord x h hc h0 h27 with q | ⟨S', T', j, l', b, t, dT, q1, q2, q3, q4, q5, q6, q7, q8, q9, q10, q11, q12, q13, q14, q15, q16, q17⟩
  · exact Or.inl (q.c a1 a2)
  · rw [a2.2.1 139 (by decide), a2.2.1 140 (by decide)] at q11
    refine Or.inr ⟨S', T', j, l', b, u, t, dA, dB, dT, q1, q2, q3, q4, by omega, by omega, by omega, ?_, fun z hz => by rw [q12 z (by omega)]; exact f29 z hz, fun z hz => by rw [q14]; exact f26 z hz, fun z hz => by rw [q15 z (by omega)]; exact f27 z hz, fun z hz => by rw [q13 z (by omega)]; exact f28 z hz, a1.tr q16, a2.tr q17⟩
    refine ⟨j1, j2, a0, a1', a2', b, N, k1, k2, hu, ti, by rw [q14]; exact e26, q10, by rw [q13 _ (by omega)]; exact e28, by rw [q13 _ (by omega)]; exact e281, q8, q9, Nat.le_refl _, ?_, ?_, q11⟩
    · rcases hA with z | ⟨y1, y2, y3⟩
      · exact Or.inl z
      · exact Or.inr ⟨y1, y2, y3.cs (fun z z1 z2 => q12 z (by omega))⟩
    · rcases hB with z | ⟨y1, y2, y3⟩
      · exact Or.inl z
      · exact Or.inr ⟨y1, y2, y3.cs (fun z z1 z2 => q12 z (by omega))⟩
theorem bdS_28 (S : ST) (k : Nat) (v : Int32) (z : Nat) : (bdS S k v).2.1 28 z = if z = k then v else S.2.1 28 z := by
  show u2 S.2.1 28 k v 28 z = _
  by_cases e : z = k
  · rw [e, u2_s, if_pos rfl]
  · rw [u2_k _ _ _ e, if_neg e]
theorem bdS_o (S : ST) (k : Nat) (v : Int32) {q : Nat} (hq : q ≠ 28) : (bdS S k v).2.1 q = S.2.1 q := u2_ro S.2.1 k v hq
theorem clause_ord (x : XT) {n : Nat} {tk pl vv : Nat → Nat} {S T : ST} {i l a c : Nat} (h : PQ S T n true tk pl vv i l a) (hc : c < 12) (h0 : S.1 25 0 = iN c) : OutC S T (gfX4_clause_24 x S) (gfX11_readOne_130 x T) ∨ OG n tk pl vv S T i l a c (gfX4_clause_24 x S) (gfX11_readOne_130 x T) := by
  have hn := h.1.1
  have hi := h.2.2.2.2.2.2.2.1
  have ha := h.2.2.2.2.2.2.2.2.2
  have ht := h.t
  have t1 : gfX11_takes0_130 x T 20 = if tk i = 263 then some (1, nwT T (i + 1)) else some (0, T) := takez_eq x h 263 (by omega) (by decide)
  have t2 : gfX11_takes0_130 x T 23 = if tk i = 265 then some (1, nwT T (i + 1)) else some (0, T) := takez_eq x h 265 (by omega) (by decide)
  have t3 : gfX11_takes0_130 x T 22 = if tk i = 264 then some (1, nwT T (i + 1)) else some (0, T) := takez_eq x h 264 (by omega) (by decide)
  have t4 : gfX11_must_130 x T 25 = if tk i = 266 then some ((), nwT T (i + 1)) else some ((), flTk T (pl i)) := must_eq x h 266 (by omega) (by decide)
  have h8 : ¬ S.1 24 8 = 0 := fun z => by have := h.1.2.2.2.1; rw [z] at this; exact absurd this (by decide)
  have h10 : ¬ T.1 130 10 = 0 := fun z => by have := h.1.2.2.2.2.1; rw [z] at this; exact absurd this (by decide)
  have one : ∀ o, gfX11_readOrder_130 x T = o → gfX11_readOne_130 x T = o := by
    intro o ho
    unfold gfX11_readOne_130 bfX11_readOne_130_0 bfX11_readOne_130_18
    rw [if_neg h10, ho]
    cases o with
    | none => rfl
    | some z => rfl
  have n12 : ¬ (12 : Int32) ≤ iN c := fun z => by have := (iN_le (m := 12) (by omega) (by omega)).mp z; omega
  by_cases hv : 263 ≤ tk i ∧ tk i ≤ 266
  · obtain ⟨u, ev⟩ : ∃ u, tk i = 263 + u := ⟨tk i - 263, by omega⟩
    have hin := h.lt (by omega)
    have hp := h.cl hin c (iN (263 + u))
    have ec : gfX4_clause_24 x S = bfX4_clause_24_62 x S (iN c) (iN (263 + u)) := by
      unfold gfX4_clause_24 bfX4_clause_24_0
      rw [here_eq x h]
      dsimp only
      rw [h0, if_neg n12, if_neg h8, ev, if_neg (show ¬ iN (263 + u) < 263 from fun z => by have := (iN_lt (n := 263) (by omega) (by omega)).mp z; omega), if_pos (show iN (263 + u) ≤ 266 from (iN_le (n := 266) (by omega) (by omega)).mpr (by omega))]
    have ti : T.2.1 139 i = iN (oc u) := by
      rw [ht.2.2.2.1, ev]
      rcases (show u = 0 ∨ u = 1 ∨ u = 2 ∨ u = 3 by omega) with rfl | rfl | rfl | rfl <;> rfl
    have b1 : Agr wCl S (clS S c a (iN (263 + u)) i) := clS_agr S c a _ i
    have b2 : Agr wPr T (nwT T (i + 1)) := nwT_agr T _
    have e26 : (clS S c a (iN (263 + u)) i).2.1 26 c = iN (263 + u) := by
      show u2 (u2 (u2 S.2.1 26 c (iN (263 + u))) 27 c 1) 28 (4 * c) (iN a) 26 c = _
      rw [u2_ro _ _ _ (by decide), u2_ro _ _ _ (by decide), u2_s]
    have e27 : (clS S c a (iN (263 + u)) i).2.1 27 c = 1 := by
      show u2 (u2 (u2 S.2.1 26 c (iN (263 + u))) 27 c 1) 28 (4 * c) (iN a) 27 c = _
      rw [u2_ro _ _ _ (by decide), u2_s]
    have e28 : (clS S c a (iN (263 + u)) i).2.1 28 (4 * c) = iN a := u2_s _ 28 _ _
    have f26 : ∀ z, z < c → (clS S c a (iN (263 + u)) i).2.1 26 z = S.2.1 26 z := by
      intro z hz
      show u2 (u2 (u2 S.2.1 26 c (iN (263 + u))) 27 c 1) 28 (4 * c) (iN a) 26 z = _
      rw [u2_ro _ _ _ (by decide), u2_ro _ _ _ (by decide), u2_k _ _ _ (by omega)]
    have f27 : ∀ z, z < c → (clS S c a (iN (263 + u)) i).2.1 27 z = S.2.1 27 z := by
      intro z hz
      show u2 (u2 (u2 S.2.1 26 c (iN (263 + u))) 27 c 1) 28 (4 * c) (iN a) 27 z = _
      rw [u2_ro _ _ _ (by decide), u2_k _ _ _ (by omega), u2_ro _ _ _ (by decide)]
    have f28 : ∀ z, z < 4 * c → (clS S c a (iN (263 + u)) i).2.1 28 z = S.2.1 28 z := by
      intro z hz
      show u2 (u2 (u2 S.2.1 26 c (iN (263 + u))) 27 c 1) 28 (4 * c) (iN a) 28 z = _
      rw [u2_k _ _ _ (by omega), u2_ro _ _ _ (by decide), u2_ro _ _ _ (by decide)]
    have f29 : (clS S c a (iN (263 + u)) i).2.1 29 = S.2.1 29 := by
      show (u2 (u2 (u2 S.2.1 26 c (iN (263 + u))) 27 c 1) 28 (4 * c) (iN a)) 29 = _
      rw [u2_ro _ _ _ (by decide), u2_ro _ _ _ (by decide), u2_ro _ _ _ (by decide)]
    have g0 : (clS S c a (iN (263 + u)) i).1 25 0 = iN c := by
      show u2 S.1 24 6 (iN (i + 1)) 25 0 = _
      rw [u2_n _ _ _ _ (by decide)]; exact h0
    rw [ec, cq62 x S c a i (263 + u) hc h.2.2.2.1 h.2.1 (by omega)]
    by_cases u3 : u = 3
    · subst u3
      rw [if_pos (by omega), one _ (show gfX11_readOrder_130 x T = bfX11_readOrder_130_59 x (nwT T (i + 1)) by
        unfold gfX11_readOrder_130 bfX11_readOrder_130_0
        rw [t1, if_neg (by omega)]
        dsimp only
        rw [if_pos (show (0 : Int32) = 0 from rfl), t2, if_neg (by omega)]
        dsimp only
        rw [if_pos (show (0 : Int32) = 0 from rfl), t3, if_neg (by omega)]
        dsimp only
        rw [if_pos (show (0 : Int32) = 0 from rfl), t4, if_pos (by omega)])]
      rw [cq134 x _ c a (263 + 3) hc hp.2.2.2.1 (by omega) (by omega), cq179 x _ c (263 + 3) (by omega) (by omega)]
      exact ord_fin x (u := 3) (dA := fun _ => none) (dB := fun _ => none) (j1 := i + 1) (a1' := a) (N := 0) (k1 := 0) (k2 := 0) (hp.bd (4 * c + 1) (iN a)) hc g0 (by omega) (by rw [bdS_o _ _ _ (by decide)]; exact e27) (b1.tr (bdS_agr _ _ _)) b2 (by rw [bdS_o _ _ _ (by decide)]; exact e26) (by rw [bdS_28, if_neg (by omega)]; exact e28) (by rw [bdS_28, if_pos rfl]) (fun z hz => by rw [bdS_o _ _ _ (by decide)]; exact f26 z hz) (fun z hz => by rw [bdS_o _ _ _ (by decide)]; exact f27 z hz) (fun z hz => by rw [bdS_28, if_neg (by omega)]; exact f28 z hz) (fun z hz => by rw [bdS_o _ _ _ (by decide)]; exact congrFun f29 z) ti (by omega) (Nat.le_refl _) (Nat.le_refl _) (by omega) (Or.inl ⟨rfl, rfl, rfl⟩) (Or.inl ⟨Or.inr rfl, rfl, rfl⟩)
    · rw [if_neg (by omega)]
      have er : gfX11_readOrder_130 x T = (match gfX11_readSum_130 x (nwT T (i + 1)) 0 with
          | none => none
          | some (_, T2) => if u = 1 then bfX11_readOrder_130_59 x T2 else (match gfX11_must_130 x T2 (iN (if u = 0 then 21 else 24)) with
            | none => none
            | some (_, T3) => (match gfX11_readSum_130 x T3 0 with
              | none => none
              | some (_, T4) => bfX11_readOrder_130_59 x T4))) := by
        unfold gfX11_readOrder_130 bfX11_readOrder_130_0 gfX11_readTwo_130 bfX11_readTwo_130_0
        rcases (show u = 0 ∨ u = 1 ∨ u = 2 by omega) with rfl | rfl | rfl
        · rw [t1, if_pos (by omega)]
          dsimp only
          rw [if_neg (show ¬ (1 : Int32) = 0 by decide)]
          cases gfX11_readSum_130 x (nwT T (i + 1)) 0 with
          | none => rfl
          | some z =>
            obtain ⟨z1, T2⟩ := z
            dsimp only
            rw [if_neg (show ¬ (0 : Nat) = 1 by decide), if_pos rfl, show (21 : Int32) = iN 21 from rfl]
            cases gfX11_must_130 x T2 (iN 21) with
            | none => rfl
            | some z =>
              obtain ⟨z1, T3⟩ := z
              dsimp only
              cases gfX11_readSum_130 x T3 0 with
              | none => rfl
              | some z => rfl
        · rw [t1, if_neg (by omega)]
          dsimp only
          rw [if_pos (show (0 : Int32) = 0 from rfl), t2, if_neg (by omega)]
          dsimp only
          rw [if_pos (show (0 : Int32) = 0 from rfl), t3, if_pos (by omega)]
          dsimp only
          rw [if_neg (show ¬ (1 : Int32) = 0 by decide)]
          cases gfX11_readSum_130 x (nwT T (i + 1)) 0 with
          | none => rfl
          | some z =>
            obtain ⟨z1, T2⟩ := z
            dsimp only
            rw [if_pos rfl]
        · rw [t1, if_neg (by omega)]
          dsimp only
          rw [if_pos (show (0 : Int32) = 0 from rfl), t2, if_pos (by omega)]
          dsimp only
          rw [if_neg (show ¬ (1 : Int32) = 0 by decide)]
          cases gfX11_readSum_130 x (nwT T (i + 1)) 0 with
          | none => rfl
          | some z =>
            obtain ⟨z1, T2⟩ := z
            dsimp only
            rw [if_neg (show ¬ (2 : Nat) = 1 by decide), if_neg (show ¬ (2 : Nat) = 0 by decide), show (24 : Int32) = iN 24 from rfl]
            cases gfX11_must_130 x T2 (iN 24) with
            | none => rfl
            | some z =>
              obtain ⟨z1, T3⟩ := z
              dsimp only
              cases gfX11_readSum_130 x T3 0 with
              | none => rfl
              | some z => rfl
      rw [one _ er]
      rcases sumC x hp with ⟨S', T', j, k, b, d, N, g1, g2, g3, g4, g5, g6, g7, g8⟩ | f
      · have lt1 := g5.ltt
        have k50 := g3.2.2.2.2.2.2.2.2.1
        have hj := g3.2.2.2.2.2.2.2.1
        have c1 : Agr wCl S S' := b1.tr (g7.sub (by decide))
        have c2 : Agr wPr T T' := b2.tr g8
        have s26 : S'.2.1 26 c = iN (263 + u) := by rw [g7.2.1 26 (by decide)]; exact e26
        have s27 : S'.2.1 27 c = 1 := by rw [g7.2.1 27 (by decide)]; exact e27
        have s28 : S'.2.1 28 (4 * c) = iN a := by rw [g7.2.1 28 (by decide)]; exact e28
        have s0 : S'.1 25 0 = iN c := (g7.1 25 0 (by decide)).trans g0
        have p26 : ∀ z, z < c → S'.2.1 26 z = S.2.1 26 z := fun z hz => by rw [g7.2.1 26 (by decide)]; exact f26 z hz
        have p27 : ∀ z, z < c → S'.2.1 27 z = S.2.1 27 z := fun z hz => by rw [g7.2.1 27 (by decide)]; exact f27 z hz
        have p28 : ∀ z, z < 4 * c → S'.2.1 28 z = S.2.1 28 z := fun z hz => by rw [g7.2.1 28 (by decide)]; exact f28 z hz
        have p29 : ∀ z, z < a → S'.2.1 29 z = S.2.1 29 z := fun z hz => (g6 z hz).trans (congrFun f29 z)
        rw [g1, g2]
        dsimp only
        rw [if_pos (show ¬ (1 : Int32) = 0 by decide)]
        by_cases u1' : u = 1
        · subst u1'
          rw [if_pos rfl, cq134 x _ c b (263 + 1) hc g3.2.2.2.1 (by omega) (by omega), cq179 x _ c (263 + 1) (by omega) (by omega)]
          exact ord_fin x (u := 1) (dA := d) (dB := fun _ => none) (j1 := j) (a1' := b) (N := N) (k1 := k) (k2 := 0) (g3.bd (4 * c + 1) (iN b)) hc s0 (by omega) (by rw [bdS_o _ _ _ (by decide)]; exact s27) (c1.tr (bdS_agr _ _ _)) c2 (by rw [bdS_o _ _ _ (by decide)]; exact s26) (by rw [bdS_28, if_neg (by omega)]; exact s28) (by rw [bdS_28, if_pos rfl]) (fun z hz => by rw [bdS_o _ _ _ (by decide)]; exact p26 z hz) (fun z hz => by rw [bdS_o _ _ _ (by decide)]; exact p27 z hz) (fun z hz => by rw [bdS_28, if_neg (by omega)]; exact p28 z hz) (fun z hz => by rw [bdS_o _ _ _ (by decide)]; exact p29 z hz) ti (by omega) (by omega) (Nat.le_refl _) (by omega) (Or.inr ⟨by omega, by omega, by rw [bdS_o _ _ _ (by decide)]; exact g5⟩) (Or.inl ⟨Or.inl rfl, rfl, rfl⟩)
        · rw [if_neg u1']
          -- a word, then the second SUM
          have hbd := g3.bd (4 * c + 1) (iN b)
          have tj := g3.t
          have ew : iN (if u = 0 then 21 else 24) = iN (TM (268 + (if u = 0 then 0 else 1))) := by
            by_cases z : u = 0
            · rw [if_pos z, if_pos z]; rfl
            · rw [if_neg z, if_neg z]; rfl
          have e134 : bfX4_clause_24_134 x S' (iN c) (iN (263 + u)) = (match gfX4_take_24 x (bdS S' (4 * c + 1) (iN b)) (iN (268 + (if u = 0 then 0 else 1))) with
              | none => none
              | some (r5, S6) => (if r5 = 0 then some (0, S6) else (match gfX4_sum_24 x S6 0 with
                | none => none
                | some (r10, S11) => (if r10 = 0 then some (0, S11) else bfX4_clause_24_206 x S11 (iN c))))) := by
            rcases (show u = 0 ∨ u = 2 by omega) with rfl | rfl
            · unfold bfX4_clause_24_134 bfX4_clause_24_204
              rw [show (4 : Int32) * iN c + 1 = iN (4 * c + 1) from cq40 c 1, inb_t (show 4 * c + 1 < 48 by omega) (by omega), cond_true, iN_nat (by omega), g3.2.2.2.1, if_neg (show ¬ ¬ iN (263 + 0) = 263 from fun z => z rfl), if_pos rfl, show (268 : Int32) = iN (268 + 0) from rfl]
              show (match gfX4_take_24 x (bdS S' (4 * c + 1) (iN b)) (iN (268 + 0)) with
                | none => none
                | some (r5, S6) => _) = _
              cases gfX4_take_24 x (bdS S' (4 * c + 1) (iN b)) (iN (268 + 0)) with
              | none => rfl
              | some z =>
                obtain ⟨r5, S6⟩ := z
                dsimp only
                by_cases r0 : r5 = 0
                · rw [if_pos r0, if_pos r0]
                · rw [if_neg r0, if_neg r0]
                  cases gfX4_sum_24 x S6 0 with
                  | none => rfl
                  | some z =>
                    obtain ⟨r10, S11⟩ := z
                    dsimp only
                    by_cases r1 : r10 = 0
                    · rw [if_pos r1, if_pos r1]
                    · rw [if_neg r1, if_neg r1, cq179 x _ c (263 + 0) (by omega) (by omega)]
            · rw [cq134 x _ c b (263 + 2) hc g3.2.2.2.1 (by omega) (by omega)]
              unfold bfX4_clause_24_179 bfX4_clause_24_204
              rw [if_neg (show ¬ ¬ iN (263 + 2) = 265 from fun z => z rfl), if_neg (show ¬ (2 : Nat) = 0 by decide), show (269 : Int32) = iN (268 + 1) from rfl]
              cases gfX4_take_24 x (bdS S' (4 * c + 1) (iN b)) (iN (268 + 1)) with
              | none => rfl
              | some z =>
                obtain ⟨r5, S6⟩ := z
                dsimp only
                by_cases r0 : r5 = 0
                · rw [if_pos r0, if_pos r0]
                · rw [if_neg r0, if_neg r0]
                  cases gfX4_sum_24 x S6 0 with
                  | none => rfl
                  | some z =>
                    obtain ⟨r10, S11⟩ := z
                    dsimp only
                    by_cases r1 : r10 = 0
                    · rw [if_neg (fun z => z r1), if_pos r1]
                    · rw [if_pos r1, if_neg r1]
          have hw : 268 + (if u = 0 then 0 else 1) ≤ 285 := by
            by_cases z : u = 0
            · rw [if_pos z]; omega
            · rw [if_neg z]; omega
          have hg : gT (268 + (if u = 0 then 0 else 1)) = true := by
            by_cases z : u = 0
            · rw [if_pos z]; rfl
            · rw [if_neg z]; rfl
          rw [e134, take_eq x hbd _ hw, ew, must_eq x hbd _ hw hg]
          by_cases cw : tk j = 268 + (if u = 0 then 0 else 1)
          · have hjn := g3.lt (by rw [cw]; by_cases z : u = 0 <;> simp [z])
            have h2 := hbd.adv hjn
            rw [if_pos cw, if_pos cw]
            dsimp only
            rw [if_neg (show ¬ (1 : Int32) = 0 by decide)]
            have ej : T.2.1 139 j = iN (if u = 0 then 21 else 24) := by
              rw [← c2.2.1 139 (by decide), tj.2.2.2.1, cw, ew]
            rcases sumC x h2 with ⟨S2, T2, m, k2, b2', d2, N2, w1, w2, w3, w4, w5, w6, w7, w8⟩ | f
            · have lt2 := w5.ltt
              have k50' := w3.2.2.2.2.2.2.2.2.1
              rw [w1, w2]
              dsimp only
              rw [if_neg (show ¬ (1 : Int32) = 0 by decide)]
              have d1 : Agr wCl S S2 := (c1.tr (bdS_agr _ _ _)).tr (((nwS_agr _ _).tr w7).sub (by decide))
              have d2' : Agr wPr T T2 := c2.tr ((nwT_agr _ _).tr w8)
              have w5 : Gr true (T'.2.1 139) (T'.2.1 140) (S2.2.1 29) N2 8 2 (j + 1) m b b2' k2 d2 := w5
              rw [c2.2.1 139 (by decide), c2.2.1 140 (by decide)] at w5
              have w6 : ∀ z, z < b → S2.2.1 29 z = (bdS S' (4 * c + 1) (iN b)).2.1 29 z := w6
              have z29 : ∀ z, z < b → S2.2.1 29 z = S'.2.1 29 z := fun z hz => by rw [w6 z hz, bdS_o _ _ _ (by decide)]
              have zz : ∀ q, q ≠ 29 → S2.2.1 q = (bdS S' (4 * c + 1) (iN b)).2.1 q := fun q hq => w7.2.1 q (by
                intro hm
                exact hq (List.mem_singleton.mp hm))
              exact ord_fin x (u := u) (dA := d) (dB := d2) (j1 := j) (a1' := b) (N := N + N2) (k1 := k) (k2 := k2) w3 hc ((w7.1 25 0 (by decide)).trans (show u2 S'.1 24 6 (iN (j + 1)) 25 0 = iN c by rw [u2_n _ _ _ _ (by decide)]; exact s0)) (by omega) (by rw [zz 27 (by decide), bdS_o _ _ _ (by decide)]; exact s27) d1 d2' (by rw [zz 26 (by decide), bdS_o _ _ _ (by decide)]; exact s26) (by rw [zz 28 (by decide), bdS_28, if_neg (by omega)]; exact s28) (by rw [zz 28 (by decide), bdS_28, if_pos rfl]) (fun z hz => by rw [zz 26 (by decide), bdS_o _ _ _ (by decide)]; exact p26 z hz) (fun z hz => by rw [zz 27 (by decide), bdS_o _ _ _ (by decide)]; exact p27 z hz) (fun z hz => by rw [zz 28 (by decide), bdS_28, if_neg (by omega)]; exact p28 z hz) (fun z hz => by rw [z29 z (by omega)]; exact p29 z hz) ti (by omega) (by omega) (by omega) (by omega) (Or.inr ⟨by omega, by omega, (g5.cs (fun z z1 z2 => z29 z z2)).le (by omega)⟩) (Or.inr ⟨(by
                rcases (show u = 0 ∨ u = 2 by omega) with e | e
                · rw [if_pos e] at ej; exact Or.inl ⟨e, ej⟩
                · rw [if_neg (by omega)] at ej; exact Or.inr ⟨e, ej⟩), by omega, w5.le (by omega)⟩)
            · obtain ⟨S2, T2, kf, a', w1, w2, w3, w4, w5, w6, w7, w8, w9⟩ := f
              rw [w1, w2]
              dsimp only
              rw [if_pos (show (0 : Int32) = 0 from rfl), nf_59 x T2 (nf_of w4 w5)]
              exact Or.inl ⟨S2, T2, kf, rfl, rfl, w3, w4, w5, (c1.tr (bdS_agr _ _ _)).tr (((nwS_agr _ _).tr w8).sub (by decide)), c2.tr ((nwT_agr _ _).tr w9)⟩
          · rw [if_neg cw, if_neg cw]
            dsimp only
            have nf := nf_of (T := flTk T' (pl j)) (u2_s T'.1 130 21 (iN (pl j))) tj.2.2.2.2.2.1
            rw [if_pos (show (0 : Int32) = 0 from rfl), nf_sumC x (flTk T' (pl j)) nf]
            dsimp only
            rw [nf_59 x (flTk T' (pl j)) nf]
            exact Or.inl ((hbd.fl Agr.rf Agr.rf).c (c1.tr (bdS_agr _ _ _)) c2)
      · obtain ⟨S', T', k, a', q1, q2, q3, q4, q5, q6, q7, q8, q9⟩ := f
        have nf := nf_of q4 q5
        rw [q1, q2]
        dsimp only
        rw [if_neg (show ¬ ¬ (0 : Int32) = 0 from fun z => z rfl), nf_59 x T' nf, must_nf x T' nf]
        dsimp only
        rw [nf_sumC x T' nf]
        dsimp only
        rw [nf_59 x T' nf, ite_self]
        exact Or.inl ⟨S', T', k, rfl, rfl, q3, q4, q5, b1.tr (q8.sub (by decide)), b2.tr q9⟩
  · have ec : gfX4_clause_24 x S = some (0, flS S (pl i)) := by
      unfold gfX4_clause_24 bfX4_clause_24_0 bfX4_clause_24_57
      rw [here_eq x h]
      dsimp only
      rw [h0, if_neg n12, if_neg h8, faulty_eq x h]
      dsimp only
      rw [show bbz 0 = true from rfl, cond_true]
      by_cases c1 : tk i < 263
      · rw [if_pos (show iN (tk i) < 263 from (iN_lt (n := 263) (by omega) (by omega)).mpr c1)]
      · rw [if_neg (show ¬ iN (tk i) < 263 from fun z => c1 ((iN_lt (n := 263) (by omega) (by omega)).mp z)), if_neg (show ¬ iN (tk i) ≤ 266 from fun z => by have := (iN_le (n := 266) (by omega) (by omega)).mp z; omega)]
    have er : gfX11_readOrder_130 x T = some ((), flTk T (pl i)) := by
      unfold gfX11_readOrder_130 bfX11_readOrder_130_0
      rw [t1, if_neg (by omega)]
      dsimp only
      rw [if_pos (show (0 : Int32) = 0 from rfl), t2, if_neg (by omega)]
      dsimp only
      rw [if_pos (show (0 : Int32) = 0 from rfl), t3, if_neg (by omega)]
      dsimp only
      rw [if_pos (show (0 : Int32) = 0 from rfl), t4, if_neg (by omega)]
      dsimp only
      rw [nf_59 x _ (nf_of (u2_s T.1 130 21 _) ht.2.2.2.2.2.1)]
    rw [ec, one _ er]
    exact Or.inl ((h.fl Agr.rf Agr.rf).c Agr.rf Agr.rf)
end CLORD2
