section READALL
def SpOut (S T : ST) (sz : Nat) (rc rr : Option (Unit × ST)) : Prop := ∃ (S' T' : ST) (n : Nat) (tk pl vv : Nat → Nat), rc = some ((), S') ∧ rr = some ((), T') ∧ n ≤ sz ∧ S'.1 24 5 = iN (n + 1) ∧ T'.1 130 18 = iN n ∧ (∀ k, k < n → TkP S' T' k (tk k) (pl k) (vv k)) ∧ S'.2.1 30 n = iN 257 ∧ S'.2.1 32 n = iN sz ∧ T'.2.1 139 n = iN 0 ∧ T'.2.1 141 n = iN sz ∧ T'.2.1 140 n = iN 0 ∧ Agr wSp S S' ∧ Agr wSq T T'
def SpL (x : XT) (sz : Nat) (tb : Nat → Nat) (i : Nat) : Prop := ∀ (k c f1 f2 : Nat) (S T : ST) (tk pl vv : Nat → Nat), i ≤ sz → k ≤ i → c ≤ i → sz + 1 < f1 + i → sz + 1 < f2 + i → Tp S T sz tb → S.1 24 5 = iN k → T.1 130 18 = iN k → (∀ k', k' < k → TkP S T k' (tk k') (pl k') (vv k')) → SpOut S T sz (lfX4_split_24_18_9 x f1 S (iN i) (iN c)) (lfX11_splits_130_7 x f2 T (iN sz) (iN i))
theorem SpOut.tr {S T S1 T1 : ST} {sz : Nat} {rc rr : Option (Unit × ST)} (h : SpOut S1 T1 sz rc rr) (a : Agr wSp S S1) (b : Agr wSq T T1) : SpOut S T sz rc rr := by
  obtain ⟨S', T', n, tk, pl, vv, q1, q2, q3, q4, q5, q6, q7, q8, q9, q10, q11, q12, q13⟩ := h
  exact ⟨S', T', n, tk, pl, vv, q1, q2, q3, q4, q5, q6, q7, q8, q9, q10, q11, a.tr q12, b.tr q13⟩
theorem sp_step (x : XT) (sz : Nat) (tb : Nat → Nat) (i : Nat) (IH : ∀ i', i < i' → SpL x sz tb i') : SpL x sz tb i := by
  intro k c f1 f2 S T tk pl vv hi hk hc l1 l2 h g1 g2 g3
  have hz := h.1
  obtain ⟨f1, rfl⟩ : ∃ z, f1 = z + 1 := ⟨f1 - 1, by omega⟩
  obtain ⟨f2, rfl⟩ : ∃ z, f2 = z + 1 := ⟨f2 - 1, by omega⟩
  have e65 : bfX4_split_24_18_65 x S = some ((), (u2 S.1 24 5 (iN (k + 1)), u2 (u2 S.2.1 30 k 257) 32 k (iN sz), S.2.2.1, S.2.2.2)) := by
    unfold bfX4_split_24_18_65
    rw [g1, inb_t (show k < 401 by omega) (by omega), cond_true, cond_true, iN_nat (by omega), h.2.1, iN_succ]
  by_cases e : i < sz
  · obtain ⟨b1, b2⟩ := h.2.2.1 i (by omega)
    obtain ⟨-, b3⟩ := h.2.2.2.1 i (by omega)
    have s32 := (sb_all ⟨tb i, b1⟩).1.1
    dsimp only at s32
    rw [lfX4_split_24_18_9, bfX4_split_24_18_9, if_neg (show ¬ (400 : Int32) ≤ iN c from fun z => by have := (iN_le (m := 400) (by omega) (by omega)).mp z; omega), h.2.1, if_neg (fun z => by have := (iN_le (by omega) (by omega)).mp z; omega), inb_t (show i < 400 by omega) (by omega), cond_true, iN_nat (by omega), b2]
    unfold bfX4_split_24_18_56
    rw [iN_succ, iN_succ]
    by_cases c32 : tb i = 32
    · rw [if_pos (show iN (tb i) = 32 by rw [c32]; rfl), lfX11_splits_130_7, bfX11_splits_130_7, if_neg (fun z => by have := (iN_le (by omega) (by omega)).mp z; omega), inb_t (show i < 400 by omega) (by omega), cond_true, iN_nat (by omega), b3, if_neg (fun z => z (s32.mpr c32)), iN_succ]
      exact IH (i + 1) (by omega) k (c + 1) f1 f2 S T tk pl vv (by omega) (by omega) (by omega) (by omega) (by omega) h g1 g2 g3
    · rw [if_neg (show ¬ iN (tb i) = 32 from fun z => c32 ((iN_eq (n := 32) (by omega) (by omega)).mp z)), behind_tok x h i e]
      dsimp only
      obtain ⟨S1, T1, t, v, q1, q2, q3, q4, q5, q6, q7, q8, q9⟩ := tok_one x h i k f2 e hk c32 g1 g2
      obtain ⟨e1, e2⟩ := tE_le tb sz i e
      rw [q1, q2]
      dsimp only
      refine SpOut.tr (IH (tE tb sz i) e1 (k + 1) (c + 1) f1 f2 S1 T1 (u1 tk k t) (u1 pl k i) (u1 vv k v) e2 (by omega) (by omega) (by omega) (by omega) (h.cg q8 q9) q3 q4 (fun k' hk' => ?_)) q8 q9
      by_cases ee : k' = k
      · subst ee; rw [u1_s, u1_s, u1_s]; exact q5
      · rw [u1_n _ _ ee, u1_n _ _ ee, u1_n _ _ ee]
        exact (g3 k' (by omega)).cg ee q6 q7
  · have c1 : lfX4_split_24_18_9 x (f1 + 1) S (iN i) (iN c) = bfX4_split_24_18_65 x S := by
      rw [lfX4_split_24_18_9, bfX4_split_24_18_9]
      by_cases z : (400 : Int32) ≤ iN c
      · rw [if_pos z]
      · rw [if_neg z, h.2.1, if_pos ((iN_le (by omega) (by omega)).mpr (by omega))]
    rw [c1, e65, lfX11_splits_130_7, bfX11_splits_130_7, if_pos ((iN_le (by omega) (by omega)).mpr (by omega)), g2, inb_t (show k < 401 by omega) (by omega), cond_true, cond_true, cond_true, iN_nat (by omega)]
    have oC : onlyC k S (u2 S.1 24 5 (iN (k + 1)), u2 (u2 S.2.1 30 k 257) 32 k (iN sz), S.2.2.1, S.2.2.2) := fun z hz => ⟨by dsimp only; rw [u2_ro _ _ _ (by decide), u2_k _ _ _ hz], by dsimp only; rw [u2_ro _ _ _ (by decide), u2_ro _ _ _ (by decide)], by dsimp only; rw [u2_k _ _ _ hz, u2_ro _ _ _ (by decide)]⟩
    have oR : onlyR k T (T.1, u2 (u2 (u2 T.2.1 141 k (iN sz)) 139 k 0) 140 k 0, T.2.2.1, T.2.2.2) := fun z hz => ⟨by dsimp only; rw [u2_ro _ _ _ (by decide), u2_k _ _ _ hz, u2_ro _ _ _ (by decide)], by dsimp only; rw [u2_k _ _ _ hz, u2_ro _ _ _ (by decide), u2_ro _ _ _ (by decide)], by dsimp only; rw [u2_ro _ _ _ (by decide), u2_ro _ _ _ (by decide), u2_k _ _ _ hz]⟩
    refine ⟨_, _, k, tk, pl, vv, rfl, rfl, by omega, u2_s S.1 24 5 _, g2, fun k' hk' => (g3 k' hk').cg (by omega) oC oR, ?_, u2_s (u2 S.2.1 30 k 257) 32 k _, ?_, ?_, u2_s (u2 (u2 T.2.1 141 k (iN sz)) 139 k 0) 140 k _, Agr.i (S1 := (u2 S.1 24 5 (iN (k + 1)), u2 S.2.1 30 k 257, S.2.2.1, S.2.2.2)) (Agr.i (S1 := (u2 S.1 24 5 (iN (k + 1)), S.2.1, S.2.2.1, S.2.2.2)) (Agr.f Agr.rf 24 5 _ (by decide)) 30 k _ (by decide)) 32 k _ (by decide), Agr.i (S1 := (T.1, u2 (u2 T.2.1 141 k (iN sz)) 139 k 0, T.2.2.1, T.2.2.2)) (Agr.i (S1 := (T.1, u2 T.2.1 141 k (iN sz), T.2.2.1, T.2.2.2)) (Agr.i Agr.rf 141 k _ (by decide)) 139 k _ (by decide)) 140 k _ (by decide)⟩
    · dsimp only
      rw [u2_ro _ _ _ (by decide), u2_s]; rfl
    · dsimp only
      rw [u2_ro _ _ _ (by decide), u2_s]; rfl
    · dsimp only
      rw [u2_ro _ _ _ (by decide), u2_ro _ _ _ (by decide), u2_s]
theorem sp_all (x : XT) (sz : Nat) (tb : Nat → Nat) : ∀ (d i : Nat), sz < i + d → SpL x sz tb i
  | 0, i, h => fun k c f1 f2 S T tk pl vv hi => by omega
  | d + 1, i, h => sp_step x sz tb i (fun i' hi' => sp_all x sz tb d i' (by omega))
def endF (f : Nat → Nat) (n v : Nat) : Nat → Nat := fun k => if k = n then v else f k
/-- both sides split the tape, and begin -/
theorem begin_read (x : XT) (S T : ST) (hT : RelT S T) (hC : RelC T) (o : Bool) : ∃ S1 T1 n tk pl vv, n ≤ 400 ∧ gfX4_read_24_18 x S (bz o) = lfX4_read_24_18_37 x 20000 S1 1 0 ∧ gfX11_readsAs_130 x T (bz o) = (match (match gfX11_readOne_130 x T1 with
    | none => none
    | some (_, T2) => lfX11_reads_130_34 x 20000 T2 1) with
    | none => none
    | some (r, T3) => bif bbz r then some (r, T3) else none) ∧ PQ S1 T1 n o tk pl vv 0 0 0 ∧ S1.1 25 0 = iN 0 ∧ T1.1 130 13 = 0 := by
  obtain ⟨⟨sz, hz, z1, z2⟩, ht⟩ := hT
  have hb : ∀ i, ∃ b, i < 400 → b < 256 ∧ S.2.1 19 i = iN b := fun i => by
    by_cases hi : i < 400
    · obtain ⟨b, b1, b2⟩ := inb_ex (ht i hi).1
      exact ⟨b, fun _ => ⟨b1, b2⟩⟩
    · exact ⟨0, fun z => absurd z hi⟩
  let tb : Nat → Nat := fun i => Classical.choose (hb i)
  have htb : ∀ i, i < 400 → tb i < 256 ∧ S.2.1 19 i = iN (tb i) := fun i => Classical.choose_spec (hb i)
  have htr : ∀ i, i < 400 → tb i < 256 ∧ T.2.1 137 i = (iN (tb i)).toInt8.toInt32 := fun i hi => ⟨(htb i hi).1, by rw [(ht i hi).2, (htb i hi).2]⟩
  -- the reference's heads
  let T0 : ST := (u2 (u2 (u2 (u2 T.1 130 10 (bz o)) 130 8 (iN (if o then 13 else 8))) 130 9 (iN (if o then 19 else 15))) 130 18 0, T.2.1, T.2.2.1, T.2.2.2)
  let S0 : ST := (u2 S.1 24 5 0, S.2.1, S.2.2.1, S.2.2.2)
  have hTp : Tp S0 T0 sz tb := by
    refine ⟨hz, ?_, htb, htr, hC⟩
    show u2 S.1 24 5 0 18 1 = iN sz
    rw [u2_n _ _ _ _ (by decide)]; exact z1
  obtain ⟨S2, T2, n, tk, pl, vv, q1, q2, q3, q4, q5, q6, q7, q8, q9, q10, q11, q12, q13⟩ := sp_all x sz tb (sz + 1) 0 (by omega) 0 0 20000 20000 S0 T0 (fun _ => 0) (fun _ => 0) (fun _ => 0) (by omega) (by omega) (by omega) (by omega) (by omega) hTp (u2_s S.1 24 5 _) (u2_s (u2 (u2 (u2 T.1 130 10 (bz o)) 130 8 (iN (if o then 13 else 8))) 130 9 (iN (if o then 19 else 15))) 130 18 _) (fun k hk => by omega)
  rw [show iN 0 = 0 from rfl] at q1 q2
  let S1 : ST := (u2 (u2 (u2 (u2 (u2 (u2 S2.1 24 8 (bz o)) 24 6 0) 24 7 0) 24 1 (-1)) 25 0 0) 25 1 0, S2.2.1, S2.2.2.1, S2.2.2.2)
  let T1 : ST := (u2 (u2 (u2 (u2 T2.1 130 13 0) 130 19 0) 130 20 0) 130 21 (-1), T2.2.1, T2.2.2.1, T2.2.2.2)
  have t8 : T2.1 130 8 = iN (if o then 13 else 8) := by
    rw [q13.1 130 8 (by decide)]
    show u2 (u2 (u2 (u2 T.1 130 10 (bz o)) 130 8 (iN (if o then 13 else 8))) 130 9 (iN (if o then 19 else 15))) 130 18 0 130 8 = _
    rw [u2_k _ _ _ (by decide), u2_k _ _ _ (by decide), u2_s]
  have t9 : T2.1 130 9 = iN (if o then 19 else 15) := by
    rw [q13.1 130 9 (by decide)]
    show u2 (u2 (u2 (u2 T.1 130 10 (bz o)) 130 8 (iN (if o then 13 else 8))) 130 9 (iN (if o then 19 else 15))) 130 18 0 130 9 = _
    rw [u2_k _ _ _ (by decide), u2_s]
  have t10 : T2.1 130 10 = bz o := by
    rw [q13.1 130 10 (by decide)]
    show u2 (u2 (u2 (u2 T.1 130 10 (bz o)) 130 8 (iN (if o then 13 else 8))) 130 9 (iN (if o then 19 else 15))) 130 18 0 130 10 = _
    rw [u2_k _ _ _ (by decide), u2_k _ _ _ (by decide), u2_k _ _ _ (by decide), u2_s]
  refine ⟨S1, T1, n, endF tk n 257, endF pl n sz, endF vv n 0, by omega, ?_, ?_, ⟨⟨by omega, ?_, ?_, ?_, ?_, ?_, ?_, fun k hk => ?_⟩, ?_, ?_, ?_, ?_, ?_, ?_, by omega, ⟨by omega, ?_⟩, Nat.le_refl _⟩, ?_, ?_⟩
  · unfold gfX4_read_24_18 bfX4_read_24_18_0 gfX4_split_24_18 bfX4_split_24_18_0
    rw [show lfX4_split_24_18_9 x 20000 (u2 S.1 24 5 0, S.2.1, S.2.2.1, S.2.2.2) 0 0 = some ((), S2) from q1]
    dsimp only
    rw [bz_b, cond_true]
    rfl
  · have e : ∀ (t8' t9' : Int32), t8' = iN (if o then 13 else 8) → t9' = iN (if o then 19 else 15) → gfX11_reads_130 x (u2 (u2 (u2 T.1 130 10 (bz o)) 130 8 t8') 130 9 t9', T.2.1, T.2.2.1, T.2.2.2) = (match gfX11_readOne_130 x T1 with
        | none => none
        | some (_, T2) => lfX11_reads_130_34 x 20000 T2 1) := by
      intro t8' t9' e8 e9
      subst e8 e9
      unfold gfX11_reads_130 bfX11_reads_130_0 gfX11_splits_130 bfX11_splits_130_0
      dsimp only
      rw [show u2 (u2 (u2 T.1 130 10 (bz o)) 130 8 (iN (if o then 13 else 8))) 130 9 (iN (if o then 19 else 15)) 130 13 = iN sz by rw [u2_k _ _ _ (by decide), u2_k _ _ _ (by decide), u2_k _ _ _ (by decide)]; exact z2, show lfX11_splits_130_7 x 20000 (u2 (u2 (u2 (u2 T.1 130 10 (bz o)) 130 8 (iN (if o then 13 else 8))) 130 9 (iN (if o then 19 else 15))) 130 18 0, T.2.1, T.2.2.1, T.2.2.2) (iN sz) 0 = some ((), T2) from q2]
      dsimp only
      cases gfX11_readOne_130 x (u2 (u2 (u2 (u2 T2.1 130 13 0) 130 19 0) 130 20 0) 130 21 (-1), T2.2.1, T2.2.2.1, T2.2.2.2) with
      | none => rfl
      | some z => rfl
    unfold gfX11_readsAs_130 bfX11_readsAs_130_0 bfX11_readsAs_130_17 bfX11_readsAs_130_32
    rw [bz_b, cond_true]
    cases o with
    | false =>
      rw [if_pos (show bz false = 0 from rfl), if_pos (show bz false = 0 from rfl)]
      dsimp only
      rw [e 8 15 rfl rfl]
      cases (match gfX11_readOne_130 x T1 with
        | none => none
        | some (_, T2) => lfX11_reads_130_34 x 20000 T2 1) with
      | none => rfl
      | some z => rfl
    | true =>
      rw [if_neg (show ¬ bz true = 0 by decide), if_neg (show ¬ bz true = 0 by decide)]
      dsimp only
      rw [e 13 19 rfl rfl]
      cases (match gfX11_readOne_130 x T1 with
        | none => none
        | some (_, T2) => lfX11_reads_130_34 x 20000 T2 1) with
      | none => rfl
      | some z => rfl
  · show u2 (u2 (u2 (u2 (u2 (u2 S2.1 24 8 (bz o)) 24 6 0) 24 7 0) 24 1 (-1)) 25 0 0) 25 1 0 24 5 = _
    rw [u2_n _ _ _ _ (by decide), u2_n _ _ _ _ (by decide), u2_k _ _ _ (by decide), u2_k _ _ _ (by decide), u2_k _ _ _ (by decide), u2_k _ _ _ (by decide)]; exact q4
  · show u2 (u2 (u2 (u2 T2.1 130 13 0) 130 19 0) 130 20 0) 130 21 (-1) 130 18 = _
    rw [u2_k _ _ _ (by decide), u2_k _ _ _ (by decide), u2_k _ _ _ (by decide), u2_k _ _ _ (by decide)]; exact q5
  · show u2 (u2 (u2 (u2 (u2 (u2 S2.1 24 8 (bz o)) 24 6 0) 24 7 0) 24 1 (-1)) 25 0 0) 25 1 0 24 8 = _
    rw [u2_n _ _ _ _ (by decide), u2_n _ _ _ _ (by decide), u2_k _ _ _ (by decide), u2_k _ _ _ (by decide), u2_k _ _ _ (by decide), u2_s]
  · show u2 (u2 (u2 (u2 T2.1 130 13 0) 130 19 0) 130 20 0) 130 21 (-1) 130 10 = _
    rw [u2_k _ _ _ (by decide), u2_k _ _ _ (by decide), u2_k _ _ _ (by decide), u2_k _ _ _ (by decide)]; exact t10
  · show u2 (u2 (u2 (u2 T2.1 130 13 0) 130 19 0) 130 20 0) 130 21 (-1) 130 8 = _
    rw [u2_k _ _ _ (by decide), u2_k _ _ _ (by decide), u2_k _ _ _ (by decide), u2_k _ _ _ (by decide)]; exact t8
  · show u2 (u2 (u2 (u2 T2.1 130 13 0) 130 19 0) 130 20 0) 130 21 (-1) 130 9 = _
    rw [u2_k _ _ _ (by decide), u2_k _ _ _ (by decide), u2_k _ _ _ (by decide), u2_k _ _ _ (by decide)]; exact t9
  · show endF tk n 257 k ≤ 285 ∧ endF tk n 257 k ≠ 259 ∧ S2.2.1 30 k = iN (endF tk n 257 k) ∧ T2.2.1 139 k = iN (TM (endF tk n 257 k)) ∧ (endF tk n 257 k = 257 ↔ k = n) ∧ endF pl n sz k ≤ 400 ∧ S2.2.1 32 k = iN (endF pl n sz k) ∧ T2.2.1 141 k = iN (endF pl n sz k) ∧ endF vv n 0 k < 100000000 ∧ T2.2.1 140 k = iN (endF vv n 0 k) ∧ (endF tk n 257 k = 256 → S2.2.1 31 k = iN (if endF vv n 0 k ≤ 1000 then endF vv n 0 k else 1001))
    unfold endF
    by_cases e : k = n
    · subst e
      simp only [if_true]
      exact ⟨by omega, by omega, q7, q9, trivial, hz, q8, q10, by omega, q11, fun z => by omega⟩
    · simp only [e, if_false]
      obtain ⟨w1, w2, w3, w4, w5, w6, w7, w8, w9, w10, w11⟩ := q6 k (by omega)
      exact ⟨w1, w2, w4, w5, ⟨fun z => absurd z w3, fun z => z.elim⟩, w6, w7, w8, w9, w10, w11⟩
  · show u2 (u2 (u2 (u2 (u2 (u2 S2.1 24 8 (bz o)) 24 6 0) 24 7 0) 24 1 (-1)) 25 0 0) 25 1 0 24 6 = iN 0
    rw [u2_n _ _ _ _ (by decide), u2_n _ _ _ _ (by decide), u2_k _ _ _ (by decide), u2_k _ _ _ (by decide), u2_s]; rfl
  · show u2 (u2 (u2 (u2 (u2 (u2 S2.1 24 8 (bz o)) 24 6 0) 24 7 0) 24 1 (-1)) 25 0 0) 25 1 0 24 7 = iN 0
    rw [u2_n _ _ _ _ (by decide), u2_n _ _ _ _ (by decide), u2_k _ _ _ (by decide), u2_s]; rfl
  · show u2 (u2 (u2 (u2 (u2 (u2 S2.1 24 8 (bz o)) 24 6 0) 24 7 0) 24 1 (-1)) 25 0 0) 25 1 0 25 1 = iN 0
    rw [u2_s]; rfl
  · show u2 (u2 (u2 (u2 T2.1 130 13 0) 130 19 0) 130 20 0) 130 21 (-1) 130 19 = iN 0
    rw [u2_k _ _ _ (by decide), u2_k _ _ _ (by decide), u2_s]; rfl
  · show u2 (u2 (u2 (u2 T2.1 130 13 0) 130 19 0) 130 20 0) 130 21 (-1) 130 20 = iN 0
    rw [u2_k _ _ _ (by decide), u2_s]; rfl
  · exact u2_s (u2 (u2 (u2 T2.1 130 13 0) 130 19 0) 130 20 0) 130 21 _
  · show u2 (u2 (u2 (u2 (u2 (u2 S2.1 24 8 (bz o)) 24 6 0) 24 7 0) 24 1 (-1)) 25 0 0) 25 1 0 24 1 = -1
    rw [u2_n _ _ _ _ (by decide), u2_n _ _ _ _ (by decide), u2_s]
  · show u2 (u2 (u2 (u2 (u2 (u2 S2.1 24 8 (bz o)) 24 6 0) 24 7 0) 24 1 (-1)) 25 0 0) 25 1 0 25 0 = iN 0
    rw [u2_k _ _ _ (by decide), u2_s]; rfl
  · show u2 (u2 (u2 (u2 T2.1 130 13 0) 130 19 0) 130 20 0) 130 21 (-1) 130 13 = 0
    rw [u2_k _ _ _ (by decide), u2_k _ _ _ (by decide), u2_k _ _ _ (by decide), u2_s]
theorem read_law (x : XT) (S T : ST) (hT : RelT S T) (hC : RelC T) : (∃ S' T' k, gfX4_read_24_18 x S 0 = some (0, S') ∧ gfX11_readsAs_130 x T 0 = some (0, T') ∧ S'.1 24 1 = iN k ∧ T'.1 130 14 = iN k ∧ T'.1 130 13 = 0) ∨ (∃ S' T' n C Z, gfX4_read_24_18 x S 0 = some (1, S') ∧ gfX11_readsAs_130 x T 0 = some (1, T') ∧ S'.1 24 1 = -1 ∧ T'.1 130 14 = -1 ∧ T'.1 130 13 = 0 ∧ n ≤ 400 ∧ T'.1 130 18 = iN n ∧ T'.2.1 139 n = iN 0 ∧ 1 ≤ C ∧ C ≤ 12 ∧ Z ≤ 400 ∧ S'.1 25 0 = iN C ∧ S'.1 25 1 = iN Z ∧ LwT (T'.2.1 139) (T'.2.1 140) (S'.2.1 29) (S'.2.1 26) (S'.2.1 28) n Z C) := by
  obtain ⟨S1, T1, n, tk, pl, vv, hn, e1, e2, hp, e0, e13⟩ := begin_read x S T hT hC false
  have e1 : gfX4_read_24_18 x S 0 = lfX4_read_24_18_37 x 20000 S1 1 0 := e1
  have e2 : gfX11_readsAs_130 x T 0 = (match (match gfX11_readOne_130 x T1 with
    | none => none
    | some (_, T2) => lfX11_reads_130_34 x 20000 T2 1) with
    | none => none
    | some (r, T3) => bif bbz r then some (r, T3) else none) := e2
  have hl := Lw_loop x n tk pl vv S1 T1 11 0 0 0 0 20000 20000 S1 T1 rfl (by omega) (by omega) hp e0 ⟨fun _ => 0, fun _ => 0, fun _ => 0, fun _ _ => none, fun _ _ => none, rfl, rfl, fun c hc => by omega⟩ Agr.rf Agr.rf
  have hl : RdLw n S1 T1 (lfX4_read_24_18_37 x 20000 S1 1 0) (match gfX11_readOne_130 x T1 with
    | none => none
    | some (_, T2) => lfX11_reads_130_34 x 20000 T2 1) := hl
  have tn := (hp.1.2.2.2.2.2.2.2 n (Nat.le_refl _))
  have e257 := tn.2.2.2.2.1.mpr rfl
  rcases hl with ⟨S', T', k, q1, q2, q3, q4, q5, q6, q7⟩ | ⟨S', T', C, Z, q1, q2, q3, q4, q5, q6, q7, q8, q9, q10, q11, q12⟩
  · rw [q2] at e2
    exact Or.inl ⟨S', T', k, e1.trans q1, e2, q3, q4, (q7.1 130 13 (by decide)).trans e13⟩
  · rw [q2] at e2
    refine Or.inr ⟨S', T', n, C, Z, e1.trans q1, e2, q3, q4, (q12.1 130 13 (by decide)).trans e13, hn, (q12.1 130 18 (by decide)).trans hp.1.2.2.1, ?_, q5, q6, q7, q8, q9, ?_⟩
    · rw [q12.2.1 139 (by decide), tn.2.2.2.1, e257]; rfl
    · rw [q12.2.1 139 (by decide), q12.2.1 140 (by decide)]; exact q10
theorem read_ord (x : XT) (S T : ST) (hT : RelT S T) (hC : RelC T) : (∃ S' T' k, gfX4_read_24_18 x S 1 = some (0, S') ∧ gfX11_readsAs_130 x T 1 = some (0, T') ∧ S'.1 24 1 = iN k ∧ T'.1 130 14 = iN k ∧ T'.1 130 13 = 0) ∨ (∃ S' T' n C Z, gfX4_read_24_18 x S 1 = some (1, S') ∧ gfX11_readsAs_130 x T 1 = some (1, T') ∧ S'.1 24 1 = -1 ∧ T'.1 130 14 = -1 ∧ T'.1 130 13 = 0 ∧ n ≤ 400 ∧ T'.1 130 18 = iN n ∧ T'.2.1 139 n = iN 0 ∧ 1 ≤ C ∧ C ≤ 12 ∧ Z ≤ 400 ∧ S'.1 25 0 = iN C ∧ S'.1 25 1 = iN Z ∧ OwT (T'.2.1 139) (T'.2.1 140) (S'.2.1 29) (S'.2.1 26) (S'.2.1 27) (S'.2.1 28) n Z C) := by
  obtain ⟨S1, T1, n, tk, pl, vv, hn, e1, e2, hp, e0, e13⟩ := begin_read x S T hT hC true
  have e1 : gfX4_read_24_18 x S 1 = lfX4_read_24_18_37 x 20000 S1 1 0 := e1
  have e2 : gfX11_readsAs_130 x T 1 = (match (match gfX11_readOne_130 x T1 with
    | none => none
    | some (_, T2) => lfX11_reads_130_34 x 20000 T2 1) with
    | none => none
    | some (r, T3) => bif bbz r then some (r, T3) else none) := e2
  have hl := Ow_loop x n tk pl vv S1 T1 11 0 0 0 0 20000 20000 S1 T1 rfl (by omega) (by omega) hp e0 ⟨fun _ => 0, fun _ => 0, fun _ => 0, fun _ => 0, fun _ _ => none, fun _ _ => none, fun _ _ => none, rfl, rfl, fun c hc => by omega⟩ Agr.rf Agr.rf
  have hl : RdOw n S1 T1 (lfX4_read_24_18_37 x 20000 S1 1 0) (match gfX11_readOne_130 x T1 with
    | none => none
    | some (_, T2) => lfX11_reads_130_34 x 20000 T2 1) := hl
  have tn := (hp.1.2.2.2.2.2.2.2 n (Nat.le_refl _))
  have e257 := tn.2.2.2.2.1.mpr rfl
  rcases hl with ⟨S', T', k, q1, q2, q3, q4, q5, q6, q7⟩ | ⟨S', T', C, Z, q1, q2, q3, q4, q5, q6, q7, q8, q9, q10, q11, q12⟩
  · rw [q2] at e2
    exact Or.inl ⟨S', T', k, e1.trans q1, e2, q3, q4, (q7.1 130 13 (by decide)).trans e13⟩
  · rw [q2] at e2
    refine Or.inr ⟨S', T', n, C, Z, e1.trans q1, e2, q3, q4, (q12.1 130 13 (by decide)).trans e13, hn, (q12.1 130 18 (by decide)).trans hp.1.2.2.1, ?_, q5, q6, q7, q8, q9, ?_⟩
    · rw [q12.2.1 139 (by decide), tn.2.2.2.1, e257]; rfl
    · rw [q12.2.1 139 (by decide), q12.2.1 140 (by decide)]; exact q10
end READALL
