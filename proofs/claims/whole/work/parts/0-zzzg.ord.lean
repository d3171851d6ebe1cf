section CLORD
def oc (u : Nat) : Nat := match u with
  | 0 => 20
  | 1 => 22
  | 2 => 23
  | _ => 25
/-- how often, and the TEST of a CLAUSE of ORDERS: TOKENS from i to j, steps from a to b -/
def OTail (cd vl cs : Nat → Int32) (i j a b t : Nat) (dT : DN) : Prop := ∃ j3 n k3, 1 ≤ t ∧ t ≤ 20 ∧ ((j3 = i ∧ t = 1 ∧ ¬ cd i = iN 26) ∨ (cd i = iN 26 ∧ vl (i + 1) = iN t ∧ j3 = i + 2)) ∧ ((j = j3 ∧ b = a ∧ (dT = fun _ => some 1) ∧ ¬ cd j3 = iN 4) ∨ (cd j3 = iN 4 ∧ k3 ≤ 50 ∧ Gr true cd vl cs n 8 6 (j3 + 1) j a b k3 dT))
/-- a CLAUSE of ORDERS: TOKENS from i to j; verb u, t times, its SUMS, its TEST -/
def OCl (cd vl cs vb tm bd : Nat → Int32) (Z c i j u t : Nat) (dA dB dT : DN) : Prop := ∃ j1 j2 a0 a1 a2 a3 n k1 k2, u ≤ 3 ∧ cd i = iN (oc u) ∧ vb c = iN (263 + u) ∧ tm c = iN t ∧ bd (4 * c) = iN a0 ∧ bd (4 * c + 1) = iN a1 ∧ bd (4 * c + 2) = iN a2 ∧ bd (4 * c + 3) = iN a3 ∧ a3 ≤ Z ∧
  ((u = 3 ∧ j1 = i + 1 ∧ a1 = a0) ∨ (u ≤ 2 ∧ k1 ≤ 50 ∧ Gr true cd vl cs n 8 2 (i + 1) j1 a0 a1 k1 dA)) ∧
  (((u = 1 ∨ u = 3) ∧ j2 = j1 ∧ a2 = a1) ∨ (((u = 0 ∧ cd j1 = iN 21) ∨ (u = 2 ∧ cd j1 = iN 24)) ∧ k2 ≤ 50 ∧ Gr true cd vl cs n 8 2 (j1 + 1) j2 a1 a2 k2 dB)) ∧ OTail cd vl cs j2 j a2 a3 t dT
def TailO (n : Nat) (tk pl vv : Nat → Nat) (S T : ST) (i l a c : Nat) (rc : Option (Int32 × ST)) (rr : Option (Unit × ST)) : Prop := ∃ S' T' j l' b t dT, rc = some (1, S') ∧ rr = some ((), T') ∧ PQ S' T' n true tk pl vv j l' b ∧ S'.1 25 0 = iN (c + 1) ∧ b + i ≤ a + j ∧ i ≤ j ∧ a ≤ b ∧ S'.2.1 28 (4 * c + 2) = iN a ∧ S'.2.1 28 (4 * c + 3) = iN b ∧ S'.2.1 27 c = iN t ∧ OTail (T.2.1 139) (T.2.1 140) (S'.2.1 29) i j a b t dT ∧ (∀ z, z < a → S'.2.1 29 z = S.2.1 29 z) ∧ (∀ z, z < 4 * c + 2 → S'.2.1 28 z = S.2.1 28 z) ∧ S'.2.1 26 = S.2.1 26 ∧ (∀ z, z ≠ c → S'.2.1 27 z = S.2.1 27 z) ∧ Agr wCl S S' ∧ Agr wPr T T'
def tmS (S : ST) (c : Nat) (v : Int32) (i : Nat) : ST := (u2 S.1 24 6 (iN i), u2 S.2.1 27 c v, S.2.2.1, S.2.2.2)
theorem tmS_agr (S : ST) (c : Nat) (v : Int32) (i : Nat) : Agr wCl S (tmS S c v i) := Agr.i (S1 := (u2 S.1 24 6 (iN i), S.2.1, S.2.2.1, S.2.2.2)) (Agr.f Agr.rf 24 6 _ (by decide)) 27 c v (by decide)
theorem PQ.tm {S T : ST} {n : Nat} {o : Bool} {tk pl vv : Nat → Nat} {i l a : Nat} (h : PQ S T n o tk pl vv i l a) (hi : i < n) (c : Nat) (v : Int32) : PQ (tmS S c v (i + 1)) (nwT T (i + 1)) n o tk pl vv (i + 1) l a := ⟨h.1.cl (tmS_agr S c v _) (nwT_agr T _), (h.adv hi).2⟩
theorem nf_75 (x : XT) (T : ST) (h : ¬ T.1 130 21 = -1) : bfX11_readOrder_130_75 x T = some ((), T) := by
  unfold bfX11_readOrder_130_75 bfX11_readOrder_130_88
  rw [takes_nf x T h]
  dsimp only
  rw [if_pos rfl]
theorem nf_59 (x : XT) (T : ST) (h : ¬ T.1 130 21 = -1) : bfX11_readOrder_130_59 x T = some ((), T) := by
  unfold bfX11_readOrder_130_59
  rw [takes_nf x T h]
  dsimp only
  rw [if_pos rfl, nf_75 x T h]
theorem tail_ord (x : XT) {n : Nat} {tk pl vv : Nat → Nat} {S T : ST} {i l a c : Nat} (h : PQ S T n true tk pl vv i l a) (hc : c < 12) (h0 : S.1 25 0 = iN c) (h27 : S.2.1 27 c = 1) : OutC S T (bfX4_clause_24_206 x S (iN c)) (bfX11_readOrder_130_59 x T) ∨ TailO n tk pl vv S T i l a c (bfX4_clause_24_206 x S (iN c)) (bfX11_readOrder_130_59 x T) := by
  have hn := h.1.1
  have hi := h.2.2.2.2.2.2.2.1
  have ht := h.t
  have h8 : (bdS S (4 * c + 2) (iN a)).1 24 8 = bz true := h.1.2.2.2.1
  have hp := h.bd (4 * c + 2) (iN a)
  have l1 := TM_lt ⟨tk i, by omega⟩
  dsimp only at l1
  have tz : gfX11_takes0_130 x T 26 = if tk i = 270 then some (1, nwT T (i + 1)) else some (0, T) := takez_eq x h 270 (by omega) (by decide)
  have r28 : ∀ z, (bdS S (4 * c + 2) (iN a)).2.1 28 z = if z = 4 * c + 2 then iN a else S.2.1 28 z := by
    intro z
    show u2 S.2.1 28 (4 * c + 2) (iN a) 28 z = _
    by_cases e : z = 4 * c + 2
    · rw [e, u2_s, if_pos rfl]
    · rw [u2_k _ _ _ e, if_neg e]
  have ro : ∀ q, q ≠ 28 → (bdS S (4 * c + 2) (iN a)).2.1 q = S.2.1 q := by
    intro q hq
    show (u2 S.2.1 28 (4 * c + 2) (iN a)) q = _
    rw [u2_ro _ _ _ hq]
  have e206 : bfX4_clause_24_206 x S (iN c) = (if ¬ iN (tk i) = 270 then bfX4_clause_24_253 x (bdS S (4 * c + 2) (iN a)) (iN c) else (match gfX4_times_24 x (bdS S (4 * c + 2) (iN a)) (iN c) with
      | none => none
      | some (r10, S11) => (if ¬ r10 = 0 then (bfX4_clause_24_253 x S11 (iN c)) else (some (0, S11))))) := by
    unfold bfX4_clause_24_206
    rw [show (4 : Int32) * iN c + 2 = iN (4 * c + 2) from cq40 c 2, inb_t (show 4 * c + 2 < 48 by omega) (by omega), cond_true, iN_nat (by omega), h.2.2.2.1, if_neg (show ¬ S.1 24 8 = 0 from fun z => by have := h.1.2.2.2.1; rw [z] at this; exact absurd this (by decide)), show gfX4_here_24 x (S.1, u2 S.2.1 28 (4 * c + 2) (iN a), S.2.2.1, S.2.2.2) = some (iN (tk i), bdS S (4 * c + 2) (iN a)) from here_eq x hp]
    rfl
  -- the rest, from a state at TOKEN m
  have fin : ∀ (S1 T1 : ST) (m t : Nat), PQ S1 T1 n true tk pl vv m l a → S1.1 25 0 = iN c → Agr wCl S S1 → Agr wPr T T1 → (∀ z, z ≠ 4 * c + 3 → S1.2.1 28 z = (bdS S (4 * c + 2) (iN a)).2.1 28 z) → S1.2.1 29 = S.2.1 29 → S1.2.1 26 = S.2.1 26 → S1.2.1 27 c = iN t → (∀ z, z ≠ c → S1.2.1 27 z = S.2.1 27 z) → i ≤ m → 1 ≤ t → t ≤ 20 → ((m = i ∧ t = 1 ∧ ¬ T.2.1 139 i = iN 26) ∨ (T.2.1 139 i = iN 26 ∧ T.2.1 140 (i + 1) = iN t ∧ m = i + 2)) → OutC S T (bfX4_clause_24_253 x S1 (iN c)) (bfX11_readOrder_130_75 x T1) ∨ TailO n tk pl vv S T i l a c (bfX4_clause_24_253 x S1 (iN c)) (bfX11_readOrder_130_75 x T1) := by
    intro S1 T1 m t g g0 a1 a2 e28 e29 e26 e27 f27 him t1 t2 hor
    have tm := g.t
    have l2 := TM_lt ⟨tk m, by omega⟩
    dsimp only at l2
    rcases fin_ord x g hc g0 with q | ⟨S', T', j, l', b, dT, q1, q2, q3, q4, q5, q6, q7, q8, q9, q10, q11, q12, q13⟩
    · exact Or.inl (q.c a1 a2)
    · have hij : m ≤ j ∧ a ≤ b := by
        rcases q7 with ⟨y1, y2, -⟩ | ⟨-, N', k, -, y⟩
        · omega
        · have := y.ltt; omega
      refine Or.inr ⟨S', T', j, l', b, t, dT, q1, q2, q3, q4, by omega, by omega, by omega, ?_, q6, by rw [q11]; exact e27, ?_, fun z hz => by rw [q8 z hz, e29], fun z hz => ?_, q10.trans e26, fun z hz => by rw [q11]; exact f27 z hz, a1.tr q12, a2.tr q13⟩
      · rw [q9 _ (by omega), e28 _ (by omega), r28, if_pos rfl]
      · rw [a2.2.1 139 (by decide), a2.2.1 140 (by decide)] at q7
        rcases q7 with ⟨y1, y2, y3, y4, y5⟩ | ⟨y0, N', k, yk, y⟩
        · refine ⟨m, 0, 0, t1, t2, hor, Or.inl ⟨y1, y2, y4, ?_⟩⟩
          rw [← a2.2.1 139 (by decide), tm.2.2.2.1]
          exact fun z => y5 ((TM_eq tm.1 (show 267 ≤ 285 by omega) (by decide)).mp ((iN_eq (n := 4) (by omega) (by omega)).mp z))
        · exact ⟨m, N', k, t1, t2, hor, Or.inr ⟨y0, yk, y⟩⟩
      · rw [q9 _ (by omega), e28 _ (by omega), r28, if_neg (by omega)]
  rw [e206]
  unfold bfX11_readOrder_130_59
  rw [tz]
  by_cases c0 : tk i = 270
  · have hin := h.lt (by omega)
    have h1 := hp.adv hin
    have ht1 := h1.t
    have e139 : T.2.1 139 i = iN 26 := by rw [ht.2.2.2.1, c0]; rfl
    rw [if_neg (show ¬ ¬ iN (tk i) = 270 from fun z => z (by rw [c0]; rfl)), if_pos c0]
    dsimp only
    rw [if_neg (show ¬ (1 : Int32) = 0 by decide), show gfX11_mustNumber_130 x (nwT T (i + 1)) 1 20 = _ from mustN_eq x h1 1 20 (by omega) (by omega)]
    have et : gfX4_times_24 x (bdS S (4 * c + 2) (iN a)) (iN c) = if tk (i + 1) = 256 ∧ 1 ≤ vv (i + 1) ∧ vv (i + 1) ≤ 20 then some (1, tmS (nwS (bdS S (4 * c + 2) (iN a)) (i + 1)) c (iN (vv (i + 1))) (i + 2)) else some (0, flS (nwS (bdS S (4 * c + 2) (iN a)) (i + 1)) (pl (i + 1))) := by
      unfold gfX4_times_24 bfX4_times_24_0 bfX4_times_24_47
      rw [hp.2.1, iN_succ, show gfX4_here_24 x (u2 (bdS S (4 * c + 2) (iN a)).1 24 6 (iN (i + 1)), (bdS S (4 * c + 2) (iN a)).2.1, (bdS S (4 * c + 2) (iN a)).2.2.1, (bdS S (4 * c + 2) (iN a)).2.2.2) = some (iN (tk (i + 1)), nwS (bdS S (4 * c + 2) (iN a)) (i + 1)) from here_eq x h1]
      dsimp only
      rw [faulty_eq x h1, h1.2.1, inb_t (show i + 1 < 401 by omega) (by omega), cond_true, cond_true, cond_true, iN_nat (by omega), inb_t hc (by omega), cond_true, iN_nat (by omega), iN_succ]
      dsimp only
      rw [show bbz 0 = true from rfl, cond_true]
      have hv := ht1.2.2.2.2.2.2.2.2.1
      by_cases d1 : tk (i + 1) = 256
      · rw [if_neg (show ¬ ¬ iN (tk (i + 1)) = 256 from fun z => z (by rw [d1]; rfl)), ht1.2.2.2.2.2.2.2.2.2.2 d1]
        by_cases d2 : vv (i + 1) ≤ 1000
        · rw [if_pos d2]
          by_cases d3 : vv (i + 1) < 1
          · rw [if_pos (show iN (vv (i + 1)) < 1 from (iN_lt (n := 1) (by omega) (by omega)).mpr d3), if_neg (fun z => by omega)]
          · rw [if_neg (show ¬ iN (vv (i + 1)) < 1 from fun z => d3 ((iN_lt (n := 1) (by omega) (by omega)).mp z))]
            by_cases d4 : vv (i + 1) ≤ 20
            · rw [if_pos (show iN (vv (i + 1)) ≤ 20 from (iN_le (n := 20) (by omega) (by omega)).mpr d4), if_pos ⟨d1, by omega, d4⟩]
              rfl
            · rw [if_neg (show ¬ iN (vv (i + 1)) ≤ 20 from fun z => d4 ((iN_le (n := 20) (by omega) (by omega)).mp z)), if_neg (fun z => d4 z.2.2)]
        · rw [if_neg d2, if_neg (show ¬ iN 1001 < 1 by decide), if_neg (show ¬ iN 1001 ≤ 20 by decide), if_neg (fun z => by omega)]
      · rw [if_pos (show ¬ iN (tk (i + 1)) = 256 from fun z => d1 ((iN_eq (n := 256) (by omega) (by omega)).mp z)), if_neg (fun z => d1 z.1)]
    rw [et]
    by_cases d : tk (i + 1) = 256 ∧ 1 ≤ vv (i + 1) ∧ vv (i + 1) ≤ 20
    · rw [if_pos d, if_pos d]
      dsimp only
      rw [if_pos (show ¬ (1 : Int32) = 0 by decide)]
      have h1n := h1.lt (by omega)
      refine fin _ _ (i + 2) (vv (i + 1)) (h1.tm h1n c (iN (vv (i + 1)))) ?_ (((bdS_agr S _ _).tr ((nwS_agr _ _).sub (by decide))).tr (tmS_agr _ _ _ _)) ((nwT_agr T _).tr (nwT_agr _ _)) (fun z hz => ?_) ?_ ?_ ?_ (fun z hz => ?_) (by omega) d.2.1 d.2.2 (Or.inr ⟨e139, ht1.2.2.2.2.2.2.2.2.2.1, rfl⟩)
      · show u2 (u2 S.1 24 6 (iN (i + 1))) 24 6 (iN (i + 2)) 25 0 = iN c
        rw [u2_n _ _ _ _ (by decide), u2_n _ _ _ _ (by decide)]; exact h0
      · show u2 (bdS S (4 * c + 2) (iN a)).2.1 27 c (iN (vv (i + 1))) 28 z = _
        rw [u2_ro _ _ _ (by decide)]
      · show (u2 (bdS S (4 * c + 2) (iN a)).2.1 27 c (iN (vv (i + 1)))) 29 = _
        rw [u2_ro _ _ _ (by decide), ro 29 (by decide)]
      · show (u2 (bdS S (4 * c + 2) (iN a)).2.1 27 c (iN (vv (i + 1)))) 26 = _
        rw [u2_ro _ _ _ (by decide), ro 26 (by decide)]
      · exact u2_s _ 27 c _
      · show u2 (bdS S (4 * c + 2) (iN a)).2.1 27 c (iN (vv (i + 1))) 27 z = _
        rw [u2_k _ _ _ hz, ro 27 (by decide)]
    · rw [if_neg d, if_neg d]
      dsimp only
      rw [if_neg (show ¬ ¬ (0 : Int32) = 0 from fun z => z rfl), nf_75 x _ (nf_of (u2_s (nwT T (i + 1)).1 130 21 _) ht1.2.2.2.2.2.1)]
      exact Or.inl ((h1.fl Agr.rf Agr.rf).c ((bdS_agr S _ _).tr ((nwS_agr _ _).sub (by decide))) (nwT_agr T _))
  · rw [if_pos (show ¬ iN (tk i) = 270 from fun z => c0 ((iN_eq (n := 270) (by omega) (by omega)).mp z)), if_neg c0]
    dsimp only
    rw [if_pos (show (0 : Int32) = 0 from rfl)]
    refine fin (bdS S (4 * c + 2) (iN a)) T i 1 hp h0 (bdS_agr S _ _) Agr.rf (fun z hz => rfl) (ro 29 (by decide)) (ro 26 (by decide)) (by rw [ro 27 (by decide)]; exact h27) (fun z hz => by rw [ro 27 (by decide)]) (Nat.le_refl _) (by omega) (by omega) (Or.inl ⟨rfl, rfl, ?_⟩)
    rw [ht.2.2.2.1]
    exact fun z => c0 ((TM_eq ht.1 (show 270 ≤ 285 by omega) (by decide)).mp ((iN_eq (n := 26) (by omega) (by omega)).mp z))
end CLORD
