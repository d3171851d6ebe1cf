section LEAF
set_option maxRecDepth 20000 in
theorem lawW : ∀ t : Fin 286, if 274 ≤ t.1 ∧ t.1 ≤ 281 then (8 ≤ TM t.1 ∧ TM t.1 ≤ 15 ∧ lw (TM t.1) = t.1 - 274) else (TM t.1 < 8 ∨ 15 < TM t.1) := by decide +kernel
def isO (t : Nat) : Bool := Nat.beq t 275 || Nat.beq t 276 || Nat.beq t 280 || Nat.beq t 282 || Nat.beq t 283 || Nat.beq t 284 || Nat.beq t 285
set_option maxRecDepth 20000 in
theorem ordW : ∀ t : Fin 286, if isO t.1 = true then (13 ≤ TM t.1 ∧ TM t.1 ≤ 19) else (TM t.1 < 13 ∨ 19 < TM t.1) := by decide +kernel
def paS (S : ST) (l : Nat) : ST := (u2 S.1 24 7 (iN l), S.2.1, S.2.2.1, S.2.2.2)
def paT (T : ST) (l : Nat) : ST := (u2 T.1 130 20 (iN l), T.2.1, T.2.2.1, T.2.2.2)
theorem paS_agr (S : ST) (i : Nat) : Agr wPc S (paS S i) := Agr.f Agr.rf 24 7 _ (by decide)
theorem paT_agr (T : ST) (i : Nat) : Agr wPr T (paT T i) := Agr.f Agr.rf 130 20 _ (by decide)
theorem PQ.pa {S T : ST} {n : Nat} {o : Bool} {tk pl vv : Nat → Nat} {i l a : Nat} (h : PQ S T n o tk pl vv i l a) (hl : l < 50) : PQ (paS S (l + 1)) (paT T (l + 1)) n o tk pl vv i (l + 1) a := by
  obtain ⟨h0, h1, h2, h3, h4, h5, h6, h7, h8, h9⟩ := h
  refine ⟨h0.pq (paS_agr S _) (paT_agr T _), ?_, u2_s S.1 24 7 _, ?_, ?_, u2_s T.1 130 20 _, ?_, h7, ⟨by omega, h8.2⟩, h9⟩
  · show u2 S.1 24 7 (iN (l + 1)) 24 6 = iN i
    rw [u2_k _ _ _ (by decide)]; exact h1
  · show u2 S.1 24 7 (iN (l + 1)) 25 1 = iN a
    rw [u2_n _ _ _ _ (by decide)]; exact h3
  · show u2 T.1 130 20 (iN (l + 1)) 130 19 = iN i
    rw [u2_k _ _ _ (by decide)]; exact h4
  · show u2 T.1 130 20 (iN (l + 1)) 130 21 = -1
    rw [u2_k _ _ _ (by decide)]; exact h6
theorem PQ.lf {S T : ST} {n : Nat} {o : Bool} {tk pl vv : Nat → Nat} {i l a : Nat} (h : PQ S T n o tk pl vv i l a) (j : Nat) (h1 : i < j) (h2 : j ≤ n) (v : Int32) : PQ (nwS (adS S a v) j) (nwT T j) n o tk pl vv j l (a + 1) := by
  obtain ⟨h0, g1, g2, g3, g4, g5, g6, g7, g8, g9⟩ := h
  refine ⟨h0.pq ((adS_agr S _ _).tr (nwS_agr _ _)) (nwT_agr T _), u2_s (adS S a v).1 24 6 _, ?_, ?_, u2_s T.1 130 19 _, ?_, ?_, h2, g8, by omega⟩
  · show u2 (u2 S.1 25 1 (iN (a + 1))) 24 6 (iN j) 24 7 = iN l
    rw [u2_k _ _ _ (by decide), u2_n _ _ _ _ (by decide)]; exact g2
  · show u2 (u2 S.1 25 1 (iN (a + 1))) 24 6 (iN j) 25 1 = iN (a + 1)
    rw [u2_n _ _ _ _ (by decide), u2_s]
  · show u2 T.1 130 19 (iN j) 130 20 = iN l
    rw [u2_k _ _ _ (by decide)]; exact g5
  · show u2 T.1 130 19 (iN j) 130 21 = -1
    rw [u2_k _ _ _ (by decide)]; exact g6
theorem adS_now (S : ST) (a : Nat) (v : Int32) (i : Nat) (h : S.1 24 6 = iN i) : (adS S a v).1 24 6 + 1 = iN (i + 1) := by
  show u2 S.1 25 1 (iN (a + 1)) 24 6 + 1 = iN (i + 1)
  rw [u2_n _ _ _ _ (by decide), h, iN_succ]
theorem adS_29 (S : ST) (a : Nat) (v : Int32) : (adS S a v).2.1 29 a = v := u2_s S.2.1 29 a v
theorem adS_29n (S : ST) (a : Nat) (v : Int32) {z : Nat} (h : z ≠ a) : (adS S a v).2.1 29 z = S.2.1 29 z := u2_k S.2.1 29 v h
theorem leaf_ok (x : XT) {S T : ST} {n : Nat} {o : Bool} {tk pl vv : Nat → Nat} {i l a : Nat} (h : PQ S T n o tk pl vv i l a) (hl : l < 50) : gfX11_leaf_130 x T = some ((), nwT (paT T (l + 1)) (i + 1)) := by
  have hp := h.pa hl
  unfold gfX11_leaf_130 bfX11_leaf_130_0 bfX11_leaf_130_13 bfX11_leaf_130_40
  rw [h.2.2.2.2.2.1, if_pos (show ¬ iN l = 50 from fun z => by have := (iN_eq (n := 50) (by omega) (by omega)).mp z; omega), iN_succ, show gfX11_fine_130 x (u2 T.1 130 20 (iN (l + 1)), T.2.1, T.2.2.1, T.2.2.2) = some (1, paT T (l + 1)) from fine_ok x (paT T (l + 1)) hp.2.2.2.2.2.2.1]
  dsimp only
  rw [if_neg (show ¬ (1 : Int32) = 0 by decide), hp.2.2.2.2.1, iN_succ]
  rfl
theorem leaf_full (x : XT) {S T : ST} {n : Nat} {o : Bool} {tk pl vv : Nat → Nat} {i a : Nat} (h : PQ S T n o tk pl vv i 50 a) : gfX11_leaf_130 x T = some ((), paT (flTk T (pl i)) 51) := by
  have k := nf_of (T := paT (flTk T (pl i)) 51) (k := pl i) (show u2 (u2 T.1 130 21 (iN (pl i))) 130 20 (iN 51) 130 21 = iN (pl i) by rw [u2_k _ _ _ (by decide), u2_s]) h.t.2.2.2.2.2.1
  have e20 : (flTk T (pl i)).1 130 20 = iN 50 := by
    show u2 T.1 130 21 (iN (pl i)) 130 20 = iN 50
    rw [u2_k _ _ _ (by decide)]; exact h.2.2.2.2.2.1
  unfold gfX11_leaf_130 bfX11_leaf_130_0 bfX11_leaf_130_13 bfX11_leaf_130_40
  rw [h.2.2.2.2.2.1, if_neg (fun z => z (show iN 50 = 50 from rfl)), faults_eq x h]
  dsimp only
  rw [e20, iN_succ, show gfX11_fine_130 x (u2 (flTk T (pl i)).1 130 20 (iN (50 + 1)), (flTk T (pl i)).2.1, (flTk T (pl i)).2.2.1, (flTk T (pl i)).2.2.2) = some (0, paT (flTk T (pl i)) 51) from fine_nf x _ k]
  dsimp only
  rw [if_pos rfl]
theorem lies_g (x : XT) (T : ST) (v lo hi : Nat) (hv : v < 100000000) (h1 : lo < 2000) (h2 : hi < 2000) : gfX11_lies x T (iN v) (iN lo) (iN hi) = some (bz (decide (lo ≤ v) && decide (v ≤ hi)), T) := by
  unfold gfX11_lies bfX11_lies_0 bfX11_lies_14 bfX11_lies_15
  simp only [show bbz 0 = true from rfl, show bbz 1 = true from rfl, cond_true]
  by_cases c1 : lo ≤ v
  · rw [if_neg (fun z => by have := (iN_lt (by omega) (by omega)).mp z; omega), decide_eq_true c1, Bool.true_and]
    by_cases c2 : v ≤ hi
    · rw [if_neg (fun z => by have := (iN_lt (by omega) (by omega)).mp z; omega), decide_eq_true c2]; rfl
    · rw [if_pos ((iN_lt (by omega) (by omega)).mpr (by omega)), decide_eq_false c2]; rfl
  · rw [if_pos ((iN_lt (by omega) (by omega)).mpr (by omega)), decide_eq_false c1]; rfl
theorem mustN_eq (x : XT) {S T : ST} {n : Nat} {o : Bool} {tk pl vv : Nat → Nat} {i l a : Nat} (h : PQ S T n o tk pl vv i l a) (lo hi : Nat) (h1 : lo < 2000) (h2 : hi < 2000) : gfX11_mustNumber_130 x T (iN lo) (iN hi) = if tk i = 256 ∧ lo ≤ vv i ∧ vv i ≤ hi then some ((), nwT T (i + 1)) else some ((), flTk T (pl i)) := by
  have ht := h.t
  have hn := h.1.1
  have hi7 := h.2.2.2.2.2.2.2.1
  have ff := fine_nf x (flTk T (pl i)) (nf_of (u2_s T.1 130 21 _) ht.2.2.2.2.2.1)
  have l1 := TM_lt ⟨tk i, by omega⟩
  dsimp only at l1
  unfold gfX11_mustNumber_130 bfX11_mustNumber_130_0 bfX11_mustNumber_130_38 bfX11_mustNumber_130_42 bfX11_mustNumber_130_59
  rw [fine_ok x T h.2.2.2.2.2.2.1]
  dsimp only
  rw [if_neg (show ¬ (1 : Int32) = 0 by decide), h.2.2.2.2.1, inb_t (show i < 401 by omega) (by omega), cond_true, cond_true, iN_nat (by omega), ht.2.2.2.1, ht.2.2.2.2.2.2.2.2.2.1, lies_g x T (vv i) lo hi ht.2.2.2.2.2.2.2.2.1 h1 h2, faults_eq x h]
  dsimp only
  rw [ff, fine_ok x T h.2.2.2.2.2.2.1]
  dsimp only
  rw [if_pos rfl, if_neg (show ¬ (1 : Int32) = 0 by decide), h.2.2.2.2.1, iN_succ]
  by_cases c : tk i = 256
  · rw [c, if_neg (fun z => z (show iN (TM 256) = 50 from rfl))]
    by_cases c1 : lo ≤ vv i
    · by_cases c2 : vv i ≤ hi
      · rw [decide_eq_true c1, decide_eq_true c2, if_pos (by decide), if_pos ⟨rfl, c1, c2⟩]; rfl
      · rw [decide_eq_false c2, Bool.and_false, if_neg (by decide), if_neg (fun z => c2 z.2.2), faults_eq x h]
        dsimp only
        rw [ff]
        dsimp only
        rw [if_pos rfl]
    · rw [decide_eq_false c1, Bool.false_and, if_neg (by decide), if_neg (fun z => c1 z.2.1), faults_eq x h]
      dsimp only
      rw [ff]
      dsimp only
      rw [if_pos rfl]
  · rw [if_pos (show ¬ iN (TM (tk i)) = 50 from fun z => c ((TM_eq ht.1 (show 256 ≤ 285 by omega) (by decide)).mp ((iN_eq (n := 50) (by omega) (by omega)).mp z))), if_neg (fun z => c z.1)]
theorem mustN_nf (x : XT) (T : ST) (h : ¬ T.1 130 21 = -1) (v w : Int32) : gfX11_mustNumber_130 x T v w = some ((), T) := by
  unfold gfX11_mustNumber_130 bfX11_mustNumber_130_0 bfX11_mustNumber_130_42 bfX11_mustNumber_130_59
  rw [fine_nf x T h]
  dsimp only
  rw [if_pos rfl, fine_nf x T h]
  dsimp only
  rw [if_pos rfl]
/-- the reference at a part without bracket -/
theorem rp_head (x : XT) {S T : ST} {n : Nat} {o : Bool} {tk pl vv : Nat → Nat} {i l a : Nat} (h : PQ S T n o tk pl vv i l a) (hb : tk i ≠ 91) (N : Nat) (v w : Int32) (r1 r2 r3 : ST → Int32 → Option (Unit × ST)) (e1 : r1 = fun S z0 => gqX11_readSum_130 x N 0 S z0 0) (e2 : r2 = fun S z0 => gqX11_readSum_130 x N 1 S z0 0) (e3 : r3 = fun S z0 => gqX11_readSum_130 x N 2 S z0 0) : gqX11_readSum_130 x (N + 1) 2 T v w = (if tk i = 256 then (if vv i ≤ 1000 then bfX11_readPart_130_111 x r1 r2 r3 T (iN (TM (tk i))) else some ((), flTk T (pl i))) else (if (if o then 13 else 8) ≤ TM (tk i) ∧ TM (tk i) ≤ (if o then 19 else 15) then bfX11_readPart_130_111 x r1 r2 r3 T (iN (TM (tk i))) else some ((), flTk T (pl i)))) := by
  subst e1 e2 e3
  have ht := h.t
  have hn := h.1.1
  have hi7 := h.2.2.2.2.2.2.2.1
  have l1 := TM_lt ⟨tk i, by omega⟩
  dsimp only at l1
  obtain ⟨-, -, -, -, -, k6, k7, -⟩ := h.1
  have b1 : (if o = true then 13 else 8) < 50 := by cases o <;> decide
  have b2 : (if o = true then 19 else 15) < 50 := by cases o <;> decide
  rw [q11_readPart]
  unfold bfX11_readPart_130_0 bfX11_readPart_130_95 bfX11_readPart_130_163 bfX11_readPart_130_167
  rw [fine_ok x T h.2.2.2.2.2.2.1]
  dsimp only
  rw [if_pos (show ¬ (1 : Int32) = 0 by decide), h.2.2.2.2.1, inb_t (show i < 401 by omega) (by omega), cond_true, iN_nat (by omega), show (91 : Int32) = iN 91 from rfl, signz_eq x T 91 (by omega)]
  dsimp only
  rw [h.2.2.2.2.1, inb_t (show i < 401 by omega) (by omega), cond_true, iN_nat (by omega), ht.2.2.2.1, ht.2.2.2.2.2.2.2.2.2.1, if_pos (show ¬ iN (TM (tk i)) = iN (TM 91) from fun z => hb ((TM_eq ht.1 (show 91 ≤ 285 by omega) (by decide)).mp ((iN_eq (by omega) (by decide)).mp z))), k6, k7, faults_eq x h]
  dsimp only
  by_cases c : tk i = 256
  · rw [if_neg (fun z => z (by rw [c]; rfl)), if_pos c]
    by_cases c1 : vv i ≤ 1000
    · rw [if_pos c1, if_pos (show iN (vv i) ≤ 1000 from (iN_le (n := 1000) (by have := ht.2.2.2.2.2.2.2.2.1; omega) (by omega)).mpr c1)]
    · rw [if_neg c1, if_neg (show ¬ iN (vv i) ≤ 1000 from fun z => c1 ((iN_le (n := 1000) (by have := ht.2.2.2.2.2.2.2.2.1; omega) (by omega)).mp z)), c, if_neg (fun z => by have := (iN_lt (by decide) (by omega)).mp z; have : TM 256 = 50 := rfl; omega), if_pos ((iN_lt (by omega) (by decide)).mpr (by have : TM 256 = 50 := rfl; omega))]
  · rw [if_pos (show ¬ iN (TM (tk i)) = 50 from fun z => c ((TM_eq ht.1 (show 256 ≤ 285 by omega) (by decide)).mp ((iN_eq (n := 50) (by omega) (by omega)).mp z))), if_neg c]
    by_cases c1 : (if o = true then 13 else 8) ≤ TM (tk i)
    · rw [if_neg (fun z => by have := (iN_lt (by omega) (by omega)).mp z; omega)]
      by_cases c2 : TM (tk i) ≤ (if o = true then 19 else 15)
      · rw [if_neg (fun z => by have := (iN_lt (by omega) (by omega)).mp z; omega), if_pos ⟨c1, c2⟩]
      · rw [if_pos ((iN_lt (by omega) (by omega)).mpr (by omega)), if_neg (fun z => c2 z.2)]
    · rw [if_pos ((iN_lt (by omega) (by omega)).mpr (by omega)), if_neg (fun z => c1 z.1)]
theorem paT_10 (T : ST) (l i : Nat) : (nwT (paT T l) i).1 130 10 = T.1 130 10 := by
  show u2 (u2 T.1 130 20 (iN l)) 130 19 (iN i) 130 10 = _
  rw [u2_k _ _ _ (by decide), u2_k _ _ _ (by decide)]
/-- it takes a leaf -/
theorem rp_111 (x : XT) {S T : ST} {n : Nat} {o : Bool} {tk pl vv : Nat → Nat} {i l a : Nat} (h : PQ S T n o tk pl vv i l a) (hl : l < 50) (r1 r2 r3 : ST → Int32 → Option (Unit × ST)) (hno : o = false ∨ (tk i ≠ 275 ∧ tk i ≠ 276 ∧ tk i ≠ 285)) : bfX11_readPart_130_111 x r1 r2 r3 T (iN (TM (tk i))) = some ((), nwT (paT T (l + 1)) (i + 1)) := by
  have ht := h.t
  have l1 := TM_lt ⟨tk i, by omega⟩
  dsimp only at l1
  unfold bfX11_readPart_130_111 bfX11_readPart_130_135 bfX11_readPart_130_167
  rw [leaf_ok x h hl]
  dsimp only
  rw [paT_10, h.1.2.2.2.2.1]
  rcases hno with e | ⟨c1, c2, c3⟩
  · rw [e, if_pos (show bz false = 0 from rfl), if_pos (show bz false = 0 from rfl)]
  · cases o with
    | false => rw [if_pos (show bz false = 0 from rfl), if_pos (show bz false = 0 from rfl)]
    | true =>
      have d1 : ¬ iN (TM (tk i)) = 13 := fun z => c1 ((TM_eq ht.1 (show 275 ≤ 285 by omega) (by decide)).mp ((iN_eq (n := 13) (by omega) (by omega)).mp z))
      have d2 : ¬ iN (TM (tk i)) = 14 := fun z => c2 ((TM_eq ht.1 (show 276 ≤ 285 by omega) (by decide)).mp ((iN_eq (n := 14) (by omega) (by omega)).mp z))
      have d3 : ¬ iN (TM (tk i)) = 19 := fun z => c3 ((TM_eq ht.1 (show 285 ≤ 285 by omega) (by decide)).mp ((iN_eq (n := 19) (by omega) (by omega)).mp z))
      rw [if_neg (show ¬ bz true = 0 by decide), if_pos d1, if_neg (show ¬ bz true = 0 by decide), if_neg d2, if_pos d3]
theorem rp_full (x : XT) {S T : ST} {n : Nat} {o : Bool} {tk pl vv : Nat → Nat} {i a : Nat} (h : PQ S T n o tk pl vv i 50 a) (r1 r2 r3 : ST → Int32 → Option (Unit × ST)) (v : Int32) : bfX11_readPart_130_111 x r1 r2 r3 T v = some ((), paT (flTk T (pl i)) 51) := by
  have k := nf_of (T := paT (flTk T (pl i)) 51) (k := pl i) (show u2 (u2 T.1 130 21 (iN (pl i))) 130 20 (iN 51) 130 21 = iN (pl i) by rw [u2_k _ _ _ (by decide), u2_s]) h.t.2.2.2.2.2.1
  unfold bfX11_readPart_130_111 bfX11_readPart_130_135 bfX11_readPart_130_154 bfX11_readPart_130_167
  rw [leaf_full x h]
  dsimp only
  simp only [mustN_nf x (paT (flTk T (pl i)) 51) k, ite_self]
theorem rp_num (x : XT) {S T : ST} {n : Nat} {tk pl vv : Nat → Nat} {i l a : Nat} (h : PQ S T n true tk pl vv i l a) (hl : l < 50) (r1 r2 r3 : ST → Int32 → Option (Unit × ST)) (w g : Nat) (hw : (tk i = 275 ∧ g = 10) ∨ (tk i = 276 ∧ g = 5) ∨ (tk i = 285 ∧ g = 5)) : bfX11_readPart_130_111 x r1 r2 r3 T (iN (TM (tk i))) = gfX11_mustNumber_130 x (nwT (paT T (l + 1)) (i + 1)) (iN 0) (iN (g - 1)) := by
  have hp := (h.pa hl).adv (h.lt (by omega))
  have hm := fun hi h2 => mustN_eq x hp 0 hi (by omega) h2
  unfold bfX11_readPart_130_111 bfX11_readPart_130_135 bfX11_readPart_130_154 bfX11_readPart_130_167
  rw [leaf_ok x h hl]
  dsimp only
  have e10 : ∀ T', Agr wPr T T' → T'.1 130 10 = bz true := fun T' ag => (ag.1 130 10 (by decide)).trans h.1.2.2.2.2.1
  have q : ∀ g', g' < 2000 → ∃ T', gfX11_mustNumber_130 x (nwT (paT T (l + 1)) (i + 1)) (iN 0) (iN g') = some ((), T') ∧ T'.1 130 10 = bz true := by
    intro g' hg'
    rw [hm g' hg']
    by_cases c : tk (i + 1) = 256 ∧ 0 ≤ vv (i + 1) ∧ vv (i + 1) ≤ g'
    · rw [if_pos c]
      exact ⟨_, rfl, e10 _ (((paT_agr T _).tr (nwT_agr _ _)).tr (nwT_agr _ _))⟩
    · rw [if_neg c]
      exact ⟨_, rfl, e10 _ (((paT_agr T _).tr (nwT_agr _ _)).tr (flT_agr _ _))⟩
  rw [e10 _ ((paT_agr T _).tr (nwT_agr _ _)), if_neg (show ¬ bz true = 0 by decide)]
  rcases hw with ⟨e, rfl⟩ | ⟨e, rfl⟩ | ⟨e, rfl⟩
  · obtain ⟨T', q1, q2⟩ := q 9 (by omega)
    have q1' : gfX11_mustNumber_130 x (nwT (paT T (l + 1)) (i + 1)) 0 9 = some ((), T') := q1
    rw [e, if_neg (fun z => z (show iN (TM 275) = 13 from rfl)), q1']
    dsimp only
    rw [q2, if_neg (show ¬ bz true = 0 by decide), if_neg (show ¬ iN (TM 275) = 14 by decide), if_pos (show ¬ iN (TM 275) = 19 by decide)]
    exact q1.symm
  · obtain ⟨T', q1, q2⟩ := q 4 (by omega)
    have q1' : gfX11_mustNumber_130 x (nwT (paT T (l + 1)) (i + 1)) 0 4 = some ((), T') := q1
    rw [e, if_pos (show ¬ iN (TM 276) = 13 by decide), if_neg (show ¬ bz true = 0 by decide), if_pos (show iN (TM 276) = 14 from rfl), q1']
    exact q1.symm
  · obtain ⟨T', q1, q2⟩ := q 4 (by omega)
    have q1' : gfX11_mustNumber_130 x (nwT (paT T (l + 1)) (i + 1)) 0 4 = some ((), T') := q1
    rw [e, if_pos (show ¬ iN (TM 285) = 13 by decide), if_neg (show ¬ bz true = 0 by decide), if_neg (show ¬ iN (TM 285) = 14 by decide), if_neg (fun z => z (show iN (TM 285) = 19 from rfl)), q1']
    exact q1.symm
end LEAF
