section TOK
def wm (t : Nat) : Nat := match t with
  | 256 => 50 | 260 => 1 | 261 => 2 | 262 => 3 | 263 => 20 | 264 => 22 | 265 => 23 | 266 => 25 | 267 => 4 | 268 => 21 | 269 => 24 | 270 => 26 | 271 => 5 | 272 => 6 | 273 => 7 | 274 => 8 | 275 => 13 | 276 => 14 | 277 => 9 | 278 => 10 | 279 => 11 | 280 => 15 | 281 => 12 | 282 => 16 | 283 => 17 | 284 => 18 | 285 => 19 | _ => 0
/-- a TOKEN of the class as the reference has it -/
def TM (t : Nat) : Nat := if t < 256 then 100 + t else wm t
def TI (c : Nat) : Nat := if 100 ≤ c then c - 100 else match c with
  | 50 => 256 | 1 => 260 | 2 => 261 | 3 => 262 | 20 => 263 | 22 => 264 | 23 => 265 | 25 => 266 | 4 => 267 | 21 => 268 | 24 => 269 | 26 => 270 | 5 => 271 | 6 => 272 | 7 => 273 | 8 => 274 | 13 => 275 | 14 => 276 | 9 => 277 | 10 => 278 | 11 => 279 | 15 => 280 | 12 => 281 | 16 => 282 | 17 => 283 | 18 => 284 | 19 => 285 | _ => 0
def gT (t : Nat) : Bool := Nat.blt t 257 || Nat.blt 259 t
set_option maxRecDepth 20000 in
theorem TI_TM : ∀ t : Fin 286, gT t.1 = true → TI (TM t.1) = t.1 ∧ ¬ TM t.1 = 0 := by decide +kernel
set_option maxRecDepth 20000 in
theorem TM_0 : ∀ t : Fin 286, gT t.1 = false → TM t.1 = 0 := by decide +kernel
set_option maxRecDepth 20000 in
theorem TM_lt : ∀ t : Fin 286, TM t.1 < 400 := by decide +kernel
theorem TM_eq {t e : Nat} (ht : t ≤ 285) (he : e ≤ 285) (hg : gT e = true) : TM t = TM e ↔ t = e := by
  constructor
  · intro h
    have a := TI_TM ⟨e, by omega⟩ hg
    cases hb : gT t with
    | true =>
      have b := TI_TM ⟨t, by omega⟩ hb
      dsimp only at a b
      rw [← b.1, h, a.1]
    | false =>
      have b := TM_0 ⟨t, by omega⟩ hb
      dsimp only at a b
      rw [b] at h
      exact absurd h.symm a.2
  · intro h; rw [h]
/-- the TOKENS on both sides -/
def TK (S T : ST) (n : Nat) (o : Bool) (tk pl vv : Nat → Nat) : Prop :=
  n ≤ 400 ∧ S.1 24 5 = iN (n + 1) ∧ T.1 130 18 = iN n ∧ S.1 24 8 = bz o ∧ T.1 130 10 = bz o ∧ T.1 130 8 = iN (if o then 13 else 8) ∧ T.1 130 9 = iN (if o then 19 else 15) ∧
  ∀ k, k ≤ n → tk k ≤ 285 ∧ tk k ≠ 259 ∧ S.2.1 30 k = iN (tk k) ∧ T.2.1 139 k = iN (TM (tk k)) ∧ (tk k = 257 ↔ k = n) ∧ pl k ≤ 400 ∧ S.2.1 32 k = iN (pl k) ∧ T.2.1 141 k = iN (pl k) ∧ vv k < 100000000 ∧ T.2.1 140 k = iN (vv k) ∧ (tk k = 256 → S.2.1 31 k = iN (if vv k ≤ 1000 then vv k else 1001))
def wPc : WS := ([(24, 1), (24, 6), (24, 7), (25, 1)], [29], [], [])
def wPr : WS := ([(130, 19), (130, 20), (130, 21)], [], [], [])
theorem TK.cg {S S' T T' : ST} {n : Nat} {o : Bool} {tk pl vv : Nat → Nat} {W V : WS} (h : TK S T n o tk pl vv) (a : Agr W S S') (b : Agr V T T') (w1 : (24, 5) ∉ W.1) (w2 : (24, 8) ∉ W.1) (w3 : 30 ∉ W.2.1) (w4 : 31 ∉ W.2.1) (w5 : 32 ∉ W.2.1) (v1 : (130, 18) ∉ V.1) (v2 : (130, 10) ∉ V.1) (v3 : (130, 8) ∉ V.1) (v4 : (130, 9) ∉ V.1) (v5 : 139 ∉ V.2.1) (v6 : 140 ∉ V.2.1) (v7 : 141 ∉ V.2.1) : TK S' T' n o tk pl vv := by
  unfold TK
  rw [a.1 24 5 w1, a.1 24 8 w2, a.2.1 30 w3, a.2.1 31 w4, a.2.1 32 w5, b.1 130 18 v1, b.1 130 10 v2, b.1 130 8 v3, b.1 130 9 v4, b.2.1 139 v5, b.2.1 140 v6, b.2.1 141 v7]
  exact h
theorem TK.pq {S S' T T' : ST} {n : Nat} {o : Bool} {tk pl vv : Nat → Nat} (h : TK S T n o tk pl vv) (a : Agr wPc S S') (b : Agr wPr T T') : TK S' T' n o tk pl vv := h.cg a b (by decide) (by decide) (by decide) (by decide) (by decide) (by decide) (by decide) (by decide) (by decide) (by decide) (by decide) (by decide)
/-- both read on, without a FAULT so far: at TOKEN i, l parts, a steps -/
def PQ (S T : ST) (n : Nat) (o : Bool) (tk pl vv : Nat → Nat) (i l a : Nat) : Prop := TK S T n o tk pl vv ∧ S.1 24 6 = iN i ∧ S.1 24 7 = iN l ∧ S.1 25 1 = iN a ∧ T.1 130 19 = iN i ∧ T.1 130 20 = iN l ∧ T.1 130 21 = -1 ∧ i ≤ n ∧ (l ≤ 50 ∧ S.1 24 1 = -1) ∧ a ≤ i
def nwS (S : ST) (i : Nat) : ST := (u2 S.1 24 6 (iN i), S.2.1, S.2.2.1, S.2.2.2)
def nwT (T : ST) (i : Nat) : ST := (u2 T.1 130 19 (iN i), T.2.1, T.2.2.1, T.2.2.2)
def flS (S : ST) (k : Nat) : ST := (u2 S.1 24 1 (iN k), S.2.1, S.2.2.1, S.2.2.2)
def flTk (T : ST) (k : Nat) : ST := (u2 T.1 130 21 (iN k), T.2.1, T.2.2.1, T.2.2.2)
def adS (S : ST) (a : Nat) (v : Int32) : ST := (u2 S.1 25 1 (iN (a + 1)), u2 S.2.1 29 a v, S.2.2.1, S.2.2.2)
theorem nwS_agr (S : ST) (i : Nat) : Agr wPc S (nwS S i) := Agr.f Agr.rf 24 6 _ (by decide)
theorem nwT_agr (T : ST) (i : Nat) : Agr wPr T (nwT T i) := Agr.f Agr.rf 130 19 _ (by decide)
theorem flS_agr (S : ST) (i : Nat) : Agr wPc S (flS S i) := Agr.f Agr.rf 24 1 _ (by decide)
theorem flT_agr (T : ST) (i : Nat) : Agr wPr T (flTk T i) := Agr.f Agr.rf 130 21 _ (by decide)
theorem adS_agr (S : ST) (a : Nat) (v : Int32) : Agr wPc S (adS S a v) := Agr.i (S1 := (u2 S.1 25 1 (iN (a + 1)), S.2.1, S.2.2.1, S.2.2.2)) (Agr.f Agr.rf 25 1 _ (by decide)) 29 a v (by decide)
theorem PQ.adv {S T : ST} {n : Nat} {o : Bool} {tk pl vv : Nat → Nat} {i l a : Nat} (h : PQ S T n o tk pl vv i l a) (hi : i < n) : PQ (nwS S (i + 1)) (nwT T (i + 1)) n o tk pl vv (i + 1) l a := by
  obtain ⟨h0, h1, h2, h3, h4, h5, h6, h7, h8, h9⟩ := h
  refine ⟨h0.pq (nwS_agr S _) (nwT_agr T _), u2_s S.1 24 6 _, ?_, ?_, u2_s T.1 130 19 _, ?_, ?_, by omega, h8, by omega⟩
  · show u2 S.1 24 6 (iN (i + 1)) 24 7 = iN l
    rw [u2_k _ _ _ (by decide)]; exact h2
  · show u2 S.1 24 6 (iN (i + 1)) 25 1 = iN a
    rw [u2_n _ _ _ _ (by decide)]; exact h3
  · show u2 T.1 130 19 (iN (i + 1)) 130 20 = iN l
    rw [u2_k _ _ _ (by decide)]; exact h5
  · show u2 T.1 130 19 (iN (i + 1)) 130 21 = -1
    rw [u2_k _ _ _ (by decide)]; exact h6
theorem PQ.put {S T : ST} {n : Nat} {o : Bool} {tk pl vv : Nat → Nat} {i l a : Nat} (h : PQ S T n o tk pl vv i l a) (ha : a < i) (v : Int32) : PQ (adS S a v) T n o tk pl vv i l (a + 1) := by
  obtain ⟨h0, h1, h2, h3, h4, h5, h6, h7, h8, h9⟩ := h
  refine ⟨h0.pq (adS_agr S _ _) Agr.rf, ?_, ?_, u2_s S.1 25 1 _, h4, h5, h6, h7, h8, by omega⟩
  · show u2 S.1 25 1 (iN (a + 1)) 24 6 = iN i
    rw [u2_n _ _ _ _ (by decide)]; exact h1
  · show u2 S.1 25 1 (iN (a + 1)) 24 7 = iN l
    rw [u2_n _ _ _ _ (by decide)]; exact h2
theorem here_eq (x : XT) {S T : ST} {n : Nat} {o : Bool} {tk pl vv : Nat → Nat} {i l a : Nat} (h : PQ S T n o tk pl vv i l a) : gfX4_here_24 x S = some (iN (tk i), S) := by
  obtain ⟨⟨t1, t2, -, -, -, -, -, t8⟩, h1, h2, h3, h4, h5, h6, h7, h8, h9⟩ := h
  unfold gfX4_here_24 bfX4_here_24_0 bfX4_here_24_26
  rw [t2, h1, if_neg (fun z => by have := (iN_le (by omega) (by omega)).mp z; omega), inb_t (show i < 401 by omega) (by omega), cond_true, iN_nat (by omega), (t8 i h7).2.2.1]
theorem faulty_eq (x : XT) {S T : ST} {n : Nat} {o : Bool} {tk pl vv : Nat → Nat} {i l a : Nat} (h : PQ S T n o tk pl vv i l a) : gfX4_faulty_24 x S = some (0, flS S (pl i)) := by
  obtain ⟨⟨t1, t2, -, -, -, -, -, t8⟩, h1, h2, h3, h4, h5, h6, h7, h8, h9⟩ := h
  unfold gfX4_faulty_24 bfX4_faulty_24_0 bfX4_faulty_24_25
  rw [t2, h1, if_neg (fun z => by have := (iN_le (by omega) (by omega)).mp z; omega), inb_t (show i < 401 by omega) (by omega), cond_true, iN_nat (by omega), (t8 i h7).2.2.2.2.2.2.1]
  rfl
theorem fine_ok (x : XT) (T : ST) (h : T.1 130 21 = -1) : gfX11_fine_130 x T = some (1, T) := by
  unfold gfX11_fine_130 bfX11_fine_130_0 bfX11_fine_130_13
  rw [if_neg (fun z => z h)]; rfl
theorem fine_nf (x : XT) (T : ST) (h : ¬ T.1 130 21 = -1) : gfX11_fine_130 x T = some (0, T) := by
  unfold gfX11_fine_130 bfX11_fine_130_0 bfX11_fine_130_13
  rw [if_pos h]; rfl
theorem faults_eq (x : XT) {S T : ST} {n : Nat} {o : Bool} {tk pl vv : Nat → Nat} {i l a : Nat} (h : PQ S T n o tk pl vv i l a) : gfX11_faults_130 x T = some ((), flTk T (pl i)) := by
  obtain ⟨⟨t1, t2, -, -, -, -, -, t8⟩, h1, h2, h3, h4, h5, h6, h7, h8, h9⟩ := h
  unfold gfX11_faults_130 bfX11_faults_130_0 bfX11_faults_130_20
  rw [fine_ok x T h6]
  dsimp only
  rw [if_neg (show ¬ (1 : Int32) = 0 by decide), h4, inb_t (show i < 401 by omega) (by omega), cond_true, iN_nat (by omega), (t8 i h7).2.2.2.2.2.2.2.1]
  rfl
theorem faults_nf (x : XT) (T : ST) (h : ¬ T.1 130 21 = -1) : gfX11_faults_130 x T = some ((), T) := by
  unfold gfX11_faults_130 bfX11_faults_130_0 bfX11_faults_130_20
  rw [fine_nf x T h]
  dsimp only
  rw [if_pos rfl]
theorem takez_eq (x : XT) {S T : ST} {n : Nat} {o : Bool} {tk pl vv : Nat → Nat} {i l a : Nat} (h : PQ S T n o tk pl vv i l a) (e : Nat) (he : e ≤ 285) (hg : gT e = true) : gfX11_takes0_130 x T (iN (TM e)) = if tk i = e then some (1, nwT T (i + 1)) else some (0, T) := by
  obtain ⟨⟨t1, t2, -, -, -, -, -, t8⟩, h1, h2, h3, h4, h5, h6, h7, h8, h9⟩ := h
  obtain ⟨a1, -, -, a4, -⟩ := t8 i h7
  have l1 := TM_lt ⟨tk i, by omega⟩
  have l2 := TM_lt ⟨e, by omega⟩
  dsimp only at l1 l2
  unfold gfX11_takes0_130 bfX11_takes0_130_0 bfX11_takes0_130_24 bfX11_takes0_130_25 bfX11_takes0_130_40
  rw [fine_ok x T h6]
  dsimp only
  rw [if_neg (show ¬ (1 : Int32) = 0 by decide), h4, inb_t (show i < 401 by omega) (by omega), cond_true, iN_nat (by omega), a4]
  by_cases c : tk i = e
  · rw [if_neg (fun z => z (by rw [c])), if_neg (show ¬ (1 : Int32) = 0 by decide), if_pos c, iN_succ, show bbz 1 = true from rfl, cond_true]
    rfl
  · rw [if_pos (fun z => c ((TM_eq a1 he hg).mp ((iN_eq (by omega) (by omega)).mp z))), if_pos rfl, if_neg c, show bbz 0 = true from rfl, cond_true]
theorem takes_nf (x : XT) (T : ST) (h : ¬ T.1 130 21 = -1) (c : Int32) : gfX11_takes0_130 x T c = some (0, T) := by
  unfold gfX11_takes0_130 bfX11_takes0_130_0 bfX11_takes0_130_24 bfX11_takes0_130_25 bfX11_takes0_130_40
  rw [fine_nf x T h]
  dsimp only
  rw [if_pos rfl, if_pos rfl]; rfl
theorem must_eq (x : XT) {S T : ST} {n : Nat} {o : Bool} {tk pl vv : Nat → Nat} {i l a : Nat} (h : PQ S T n o tk pl vv i l a) (e : Nat) (he : e ≤ 285) (hg : gT e = true) : gfX11_must_130 x T (iN (TM e)) = if tk i = e then some ((), nwT T (i + 1)) else some ((), flTk T (pl i)) := by
  unfold gfX11_must_130 bfX11_must_130_0 bfX11_must_130_12
  rw [takez_eq x h e he hg]
  by_cases c : tk i = e
  · rw [if_pos c, if_pos c]
    dsimp only
    rw [if_pos (show ¬ (1 : Int32) = 0 by decide)]
  · rw [if_neg c, if_neg c]
    dsimp only
    rw [if_neg (fun z => z rfl), faults_eq x h]
theorem must_nf (x : XT) (T : ST) (h : ¬ T.1 130 21 = -1) (c : Int32) : gfX11_must_130 x T c = some ((), T) := by
  unfold gfX11_must_130 bfX11_must_130_0 bfX11_must_130_12
  rw [takes_nf x T h]
  dsimp only
  rw [if_neg (fun z => z rfl), faults_nf x T h]
theorem signz_eq (x : XT) (T : ST) (c : Nat) (hc : c < 256) : gfX11_sign x T (iN c) = some (iN (TM c), T) := by
  unfold gfX11_sign bfX11_sign_0 TM
  rw [if_pos hc, show (100 : Int32) + iN c = iN (100 + c) from iN_add 100 c]
theorem add_eq (x : XT) (S : ST) (a : Nat) (v w : Int32) (h : S.1 25 1 = iN a) (ha : a < 400) : gfX9_add_25 x S v w = some (iN a, adS S a (v + 512 * w)) := by
  unfold gfX9_add_25 bfX9_add_25_0
  rw [h, if_pos (show iN a < 400 from (iN_lt (n := 400) (by omega) (by omega)).mpr ha), inb_t ha (by omega), cond_true, iN_succ, iN_nat (by omega)]
  rfl
theorem add_full (x : XT) (S : ST) (v w : Int32) (h : S.1 25 1 = iN 400) : gfX9_add_25 x S v w = some (-1, S) := by
  unfold gfX9_add_25 bfX9_add_25_0
  rw [h, if_neg (by decide)]
/-- after a FAULT: an add does no harm -/
theorem add_any (x : XT) (S : ST) (a : Nat) (v w : Int32) (h : S.1 25 1 = iN a) (ha : a ≤ 400) : ∃ r S' a', gfX9_add_25 x S v w = some (r, S') ∧ a' ≤ 400 ∧ S'.1 25 1 = iN a' ∧ S'.1 24 1 = S.1 24 1 ∧ Agr wPc S S' := by
  by_cases e : a < 400
  · refine ⟨_, _, a + 1, add_eq x S a v w h e, by omega, u2_s S.1 25 1 _, ?_, adS_agr S _ _⟩
    show u2 S.1 25 1 (iN (a + 1)) 24 1 = S.1 24 1
    rw [u2_n _ _ _ _ (by decide)]
  · have e2 : a = 400 := by omega
    subst e2
    exact ⟨_, _, 400, add_full x S v w h, by omega, h, rfl, Agr.rf⟩
/-- what reading a piece comes to -/
def OutF (S T : ST) (rc : Option (Int32 × ST)) (rr : Option (Unit × ST)) : Prop := ∃ S' T' k a', rc = some (0, S') ∧ rr = some ((), T') ∧ S'.1 24 1 = iN k ∧ T'.1 130 21 = iN k ∧ k ≤ 400 ∧ a' ≤ 400 ∧ S'.1 25 1 = iN a' ∧ Agr wPc S S' ∧ Agr wPr T T'
def OutG (n : Nat) (o : Bool) (tk pl vv : Nat → Nat) (S T : ST) (kd dp i l a : Nat) (rc : Option (Int32 × ST)) (rr : Option (Unit × ST)) : Prop := ∃ S' T' j k b d N, rc = some (1, S') ∧ rr = some ((), T') ∧ PQ S' T' n o tk pl vv j (l + k) b ∧ b + i ≤ a + j ∧ Gr o (T.2.1 139) (T.2.1 140) (S'.2.1 29) N dp kd i j a b k d ∧ (∀ z, z < a → S'.2.1 29 z = S.2.1 29 z) ∧ Agr wPc S S' ∧ Agr wPr T T'
def Out (n : Nat) (o : Bool) (tk pl vv : Nat → Nat) (S T : ST) (kd dp i l a : Nat) (rc : Option (Int32 × ST)) (rr : Option (Unit × ST)) : Prop := OutG n o tk pl vv S T kd dp i l a rc rr ∨ OutF S T rc rr
theorem PQ.fl {S T S0 T0 : ST} {n : Nat} {o : Bool} {tk pl vv : Nat → Nat} {i l a : Nat} (h : PQ S T n o tk pl vv i l a) (a1 : Agr wPc S0 S) (a2 : Agr wPr T0 T) : OutF S0 T0 (some (0, flS S (pl i))) (some ((), flTk T (pl i))) := by
  have t := h.1.2.2.2.2.2.2.2 i h.2.2.2.2.2.2.2.1
  have hn := h.1.1
  have hi := h.2.2.2.2.2.2.2.1
  have ha := h.2.2.2.2.2.2.2.2.2
  refine ⟨_, _, pl i, a, rfl, rfl, u2_s S.1 24 1 _, u2_s T.1 130 21 _, t.2.2.2.2.2.1, by omega, ?_, a1.tr (flS_agr S _), a2.tr (flT_agr T _)⟩
  show u2 S.1 24 1 (iN (pl i)) 25 1 = iN a
  rw [u2_n _ _ _ _ (by decide)]; exact h.2.2.2.1
theorem Gr.ltt {o : Bool} {cd vl cs : Nat → Int32} : ∀ {n dp kd i j a b k : Nat} {d : DN}, Gr o cd vl cs n dp kd i j a b k d → a < b ∧ 1 ≤ k ∧ i < j := by
  intro n
  induction n with
  | zero => intro dp kd i j a b k d h; exact h.elim
  | succ n ih =>
    intro dp kd i j a b k d h
    rcases h with ⟨rfl, h⟩ | ⟨rfl, h⟩ | ⟨rfl, h⟩ | ⟨rfl, h⟩ | ⟨rfl, h⟩ | ⟨rfl, h⟩ | ⟨rfl, h⟩
    · rcases h with ⟨h1, rfl, rfl, rfl, v, h2, h3, h4, rfl⟩ | ⟨w, h1, rfl, rfl, h4, rfl⟩ | ⟨dp', j', h1, rfl, h3, h4, h5⟩
      · omega
      · have := (WD_lt h1).2; omega
      · have := ih h5; omega
    · rcases h with h | ⟨m, p, b', k1, k2, d1, d2, op, h1, h2, h3, h4, rfl, h6, rfl, rfl⟩
      · exact ih h
      · have := ih h1; have := ih h4; omega
    · rcases h with h | ⟨m, p, b', k1, k2, d1, d2, op, h1, h2, h3, h4, rfl, h6, rfl, rfl⟩
      · exact ih h
      · have := ih h1; have := ih h4; omega
    · rcases h with ⟨dp', j', h1, rfl, h3, h4, h5⟩ | ⟨m, p, b', k1, k2, d1, d2, op, h1, h2, h3, h4, rfl, h6, rfl, rfl⟩
      · have := ih h5; omega
      · have := ih h1; have := ih h4; omega
    · obtain ⟨q, b', d', h1, h2, h3⟩ := h
      have := ih h2
      rcases h3 with ⟨h3, rfl, rfl⟩ | ⟨h3, rfl, h4, rfl⟩ <;> omega
    · rcases h with h | ⟨m, p, k1, k2, d1, d2, h1, h2, h3, h4, rfl, rfl⟩
      · exact ih h
      · have := ih h1; have := ih h4; omega
    · rcases h with h | ⟨m, p, k1, k2, d1, d2, h1, h2, h3, h4, rfl, rfl⟩
      · exact ih h
      · have := ih h1; have := ih h4; omega
/-- only the steps from a to b matter -/
theorem Gr.cs {o : Bool} {cd vl cs cs' : Nat → Int32} : ∀ {n dp kd i j a b k : Nat} {d : DN}, Gr o cd vl cs n dp kd i j a b k d → (∀ z, a ≤ z → z < b → cs' z = cs z) → Gr o cd vl cs' n dp kd i j a b k d := by
  intro n
  induction n with
  | zero => intro dp kd i j a b k d h; exact h.elim
  | succ n ih =>
    intro dp kd i j a b k d h e
    rcases h with ⟨rfl, h⟩ | ⟨rfl, h⟩ | ⟨rfl, h⟩ | ⟨rfl, h⟩ | ⟨rfl, h⟩ | ⟨rfl, h⟩ | ⟨rfl, h⟩
    · refine Or.inl ⟨rfl, ?_⟩
      rcases h with ⟨h1, rfl, rfl, rfl, v, h2, h3, h4, h5⟩ | ⟨w, h1, rfl, rfl, h4, h5⟩ | ⟨dp', j', h1, rfl, h3, h4, h5⟩
      · exact Or.inl ⟨h1, rfl, rfl, rfl, v, h2, h3, (e a (by omega) (by omega)).trans h4, h5⟩
      · exact Or.inr (Or.inl ⟨w, h1, rfl, rfl, (e a (by omega) (by omega)).trans h4, h5⟩)
      · exact Or.inr (Or.inr ⟨dp', j', h1, rfl, h3, h4, ih h5 e⟩)
    · refine Or.inr (Or.inl ⟨rfl, ?_⟩)
      rcases h with h | ⟨m, p, b', k1, k2, d1, d2, op, h1, h2, h3, h4, rfl, h6, h7⟩
      · exact Or.inl (ih h e)
      · have := h1.ltt; have := h4.ltt
        exact Or.inr ⟨m, p, b', k1, k2, d1, d2, op, ih h1 (fun z a1 a2 => e z a1 (by omega)), h2, h3, ih h4 (fun z a1 a2 => e z (by omega) (by omega)), rfl, (e b' (by omega) (by omega)).trans h6, h7⟩
    · refine Or.inr (Or.inr (Or.inl ⟨rfl, ?_⟩))
      rcases h with h | ⟨m, p, b', k1, k2, d1, d2, op, h1, h2, h3, h4, rfl, h6, h7⟩
      · exact Or.inl (ih h e)
      · have := h1.ltt; have := h4.ltt
        exact Or.inr ⟨m, p, b', k1, k2, d1, d2, op, ih h1 (fun z a1 a2 => e z a1 (by omega)), h2, h3, ih h4 (fun z a1 a2 => e z (by omega) (by omega)), rfl, (e b' (by omega) (by omega)).trans h6, h7⟩
    · refine Or.inr (Or.inr (Or.inr (Or.inl ⟨rfl, ?_⟩)))
      rcases h with ⟨dp', j', h1, rfl, h3, h4, h5⟩ | ⟨m, p, b', k1, k2, d1, d2, op, h1, h2, h3, h4, rfl, h6, h7⟩
      · exact Or.inl ⟨dp', j', h1, rfl, h3, h4, ih h5 e⟩
      · have := h1.ltt; have := h4.ltt
        exact Or.inr ⟨m, p, b', k1, k2, d1, d2, op, ih h1 (fun z a1 a2 => e z a1 (by omega)), h2, h3, ih h4 (fun z a1 a2 => e z (by omega) (by omega)), rfl, (e b' (by omega) (by omega)).trans h6, h7⟩
    · refine Or.inr (Or.inr (Or.inr (Or.inr (Or.inl ⟨rfl, ?_⟩))))
      obtain ⟨q, b', d', h1, h2, h3⟩ := h
      have := h2.ltt
      rcases h3 with ⟨h3, rfl, rfl⟩ | ⟨h3, rfl, h4, h5⟩
      · exact ⟨q, b, d, h1, ih h2 e, Or.inl ⟨h3, rfl, rfl⟩⟩
      · exact ⟨q, b', d', h1, ih h2 (fun z a1 a2 => e z a1 (by omega)), Or.inr ⟨h3, rfl, (e b' (by omega) (by omega)).trans h4, h5⟩⟩
    · refine Or.inr (Or.inr (Or.inr (Or.inr (Or.inr (Or.inl ⟨rfl, ?_⟩)))))
      rcases h with h | ⟨m, p, k1, k2, d1, d2, h1, h2, h3, h4, h5⟩
      · exact Or.inl (ih h e)
      · have := h1.ltt; have := h4.ltt
        exact Or.inr ⟨m, p, k1, k2, d1, d2, ih h1 (fun z a1 a2 => e z a1 (by omega)), h2, (e p (by omega) (by omega)).trans h3, ih h4 (fun z a1 a2 => e z (by omega) (by omega)), h5⟩
    · refine Or.inr (Or.inr (Or.inr (Or.inr (Or.inr (Or.inr ⟨rfl, ?_⟩)))))
      rcases h with h | ⟨m, p, k1, k2, d1, d2, h1, h2, h3, h4, h5⟩
      · exact Or.inl (ih h e)
      · have := h1.ltt; have := h4.ltt
        exact Or.inr ⟨m, p, k1, k2, d1, d2, ih h1 (fun z a1 a2 => e z a1 (by omega)), h2, (e p (by omega) (by omega)).trans h3, ih h4 (fun z a1 a2 => e z (by omega) (by omega)), h5⟩
end TOK
