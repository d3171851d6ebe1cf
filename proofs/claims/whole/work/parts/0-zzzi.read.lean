section READ
def wRd : WS := ([(130, 14), (130, 19), (130, 20), (130, 21)], [], [], [])
theorem Agr.rd {T T' : ST} (h : Agr wPr T T') : Agr wRd T (u2 T'.1 130 14 (T'.1 130 21), T'.2.1, T'.2.2.1, T'.2.2.2) := Agr.f (h.sub (by decide)) 130 14 _ (by decide)
def rdT (T : ST) : ST := (u2 T.1 130 14 (T.1 130 21), T.2.1, T.2.2.1, T.2.2.2)
theorem rdT_21 (T : ST) : (rdT T).1 130 21 = T.1 130 21 := by
  show u2 T.1 130 14 (T.1 130 21) 130 21 = _
  rw [u2_k _ _ _ (by decide)]
theorem rd_bad (x : XT) (T : ST) (h : ¬ T.1 130 21 = -1) : bfX11_reads_130_95 x T = some (0, rdT T) := by
  unfold bfX11_reads_130_95
  rw [show gfX11_fine_130 x (u2 T.1 130 14 (T.1 130 21), T.2.1, T.2.2.1, T.2.2.2) = some (0, rdT T) from fine_nf x (rdT T) (by rw [rdT_21]; exact h)]
  rfl
theorem rd_ok (x : XT) (T : ST) (h : T.1 130 21 = -1) : bfX11_reads_130_95 x T = some (1, rdT T) := by
  unfold bfX11_reads_130_95
  rw [show gfX11_fine_130 x (u2 T.1 130 14 (T.1 130 21), T.2.1, T.2.2.1, T.2.2.2) = some (1, rdT T) from fine_ok x (rdT T) (by rw [rdT_21]; exact h)]
  rfl
theorem rd_nf (x : XT) (T : ST) (h : ¬ T.1 130 21 = -1) (f : Nat) (v : Int32) : lfX11_reads_130_34 x (f + 1) T v = some (0, rdT T) := by
  rw [lfX11_reads_130_34, bfX11_reads_130_34, show (59 : Int32) = iN 59 from rfl, signz_eq x T 59 (by omega)]
  dsimp only
  rw [takes_nf x T h]
  dsimp only
  rw [if_pos (show (0 : Int32) = 0 from rfl), fine_nf x T h]
  dsimp only
  rw [if_pos (show (0 : Int32) = 0 from rfl), rd_bad x T h]
theorem LCl.cgz {cd vl cs vb bd cs' vb' bd' : Nat → Int32} {Z Z' c i j v : Nat} {dS dT : DN} (h : LCl cd vl cs vb bd Z c i j v dS dT) (hZ : Z ≤ Z') (h1 : ∀ z, z < Z → cs' z = cs z) (h2 : vb' c = vb c) (h3 : ∀ r, r < 4 → bd' (4 * c + r) = bd (4 * c + r)) : LCl cd vl cs' vb' bd' Z' c i j v dS dT := by
  obtain ⟨j1, a0, a1, a2, n, k1, k2, q1, q2, q3, q4, q5, q6, q7, q8, q9, q10, q11⟩ := h
  have e0 := h3 0 (by omega)
  refine ⟨j1, a0, a1, a2, n, k1, k2, q1, q2, h2.trans q3, e0.trans q4, (h3 1 (by omega)).trans q5, (h3 2 (by omega)).trans q6, (h3 3 (by omega)).trans q7, by omega, q9, ?_, ?_⟩
  · rcases q10 with z | ⟨y1, y2, y3⟩
    · exact Or.inl z
    · exact Or.inr ⟨y1, y2, y3.cs (fun z z1 z2 => h1 z (by omega))⟩
  · rcases q11 with z | ⟨y1, y2, y3⟩
    · exact Or.inl z
    · exact Or.inr ⟨y1, y2, y3.cs (fun z z1 z2 => h1 z (by omega))⟩
theorem OCl.cgz {cd vl cs vb tm bd cs' vb' tm' bd' : Nat → Int32} {Z Z' c i j u t : Nat} {dA dB dT : DN} (h : OCl cd vl cs vb tm bd Z c i j u t dA dB dT) (hZ : Z ≤ Z') (h1 : ∀ z, z < Z → cs' z = cs z) (h2 : vb' c = vb c) (h4 : tm' c = tm c) (h3 : ∀ r, r < 4 → bd' (4 * c + r) = bd (4 * c + r)) : OCl cd vl cs' vb' tm' bd' Z' c i j u t dA dB dT := by
  obtain ⟨j1, j2, a0, a1, a2, a3, n, k1, k2, q1, q2, q3, q4, q5, q6, q7, q8, q9, q10, q11, j3, n', k3, w1, w2, w3, w4⟩ := h
  have e0 := h3 0 (by omega)
  have h23 : a2 ≤ a3 := by
    rcases w4 with ⟨-, z, -⟩ | ⟨-, -, z⟩
    · omega
    · have := z.ltt; omega
  have h12 : a1 ≤ a2 := by
    rcases q11 with ⟨-, -, z⟩ | ⟨-, -, z⟩
    · omega
    · have := z.ltt; omega
  refine ⟨j1, j2, a0, a1, a2, a3, n, k1, k2, q1, q2, h2.trans q3, h4.trans q4, e0.trans q5, (h3 1 (by omega)).trans q6, (h3 2 (by omega)).trans q7, (h3 3 (by omega)).trans q8, by omega, ?_, ?_, j3, n', k3, w1, w2, w3, ?_⟩
  · rcases q10 with z | ⟨y1, y2, y3⟩
    · exact Or.inl z
    · exact Or.inr ⟨y1, y2, y3.cs (fun z z1 z2 => h1 z (by omega))⟩
  · rcases q11 with z | ⟨y1, y2, y3⟩
    · exact Or.inl z
    · exact Or.inr ⟨y1, y2, y3.cs (fun z z1 z2 => h1 z (by omega))⟩
  · rcases w4 with z | ⟨y1, y2, y3⟩
    · exact Or.inl z
    · exact Or.inr ⟨y1, y2, y3.cs (fun z z1 z2 => h1 z (by omega))⟩
/-- c CLAUSES were read, each with its ";" -/
def LwP (cd vl cs vb bd : Nat → Int32) (n Z c i : Nat) : Prop := ∃ (P J : Nat → Nat) (V : Nat → Nat) (dS dT : Nat → DN), P 0 = 0 ∧ P c = i ∧ ∀ c', c' < c → P (c' + 1) = J c' + 1 ∧ J c' < n ∧ cd (J c') = iN 159 ∧ LCl cd vl cs vb bd Z c' (P c') (J c') (V c') (dS c') (dT c')
/-- a whole TEXT of C CLAUSES, n TOKENS -/
def LwT (cd vl cs vb bd : Nat → Int32) (n Z C : Nat) : Prop := ∃ (P J : Nat → Nat) (V : Nat → Nat) (dS dT : Nat → DN), P 0 = 0 ∧ ∀ c, c < C → P (c + 1) = J c + 1 ∧ J c ≤ n ∧ LCl cd vl cs vb bd Z c (P c) (J c) (V c) (dS c) (dT c) ∧ (c + 1 < C → J c < n ∧ cd (J c) = iN 159) ∧ (c + 1 = C → J c = n)
def RdLw (n : Nat) (S T : ST) (rc rr : Option (Int32 × ST)) : Prop := (∃ S' T' k, rc = some (0, S') ∧ rr = some (0, T') ∧ S'.1 24 1 = iN k ∧ T'.1 130 14 = iN k ∧ k ≤ 400 ∧ Agr wCl S S' ∧ Agr wRd T T') ∨ (∃ S' T' C Z, rc = some (1, S') ∧ rr = some (1, T') ∧ S'.1 24 1 = -1 ∧ T'.1 130 14 = -1 ∧ 1 ≤ C ∧ C ≤ 12 ∧ Z ≤ 400 ∧ S'.1 25 0 = iN C ∧ S'.1 25 1 = iN Z ∧ LwT (T.2.1 139) (T.2.1 140) (S'.2.1 29) (S'.2.1 26) (S'.2.1 28) n Z C ∧ Agr wCl S S' ∧ Agr wRd T T')
theorem Lw_step (x : XT) (n : Nat) (tk pl vv : Nat → Nat) (S0 T0 : ST) (d : Nat) (IH : ∀ (c i l a f1 f2 : Nat) (S T : ST), c + d = 12 → d + 1 < f1 → d + 1 < f2 → c < 12 → PQ S T n false tk pl vv i l a → S.1 25 0 = iN c → LwP (T0.2.1 139) (T0.2.1 140) (S.2.1 29) (S.2.1 26) (S.2.1 28) n a c i → Agr wCl S0 S → Agr wPr T0 T → RdLw n S0 T0 (lfX4_read_24_18_37 x f1 S 1 (iN c)) (match gfX11_readOne_130 x T with
    | none => none
    | some (_, T1) => lfX11_reads_130_34 x f2 T1 (iN (c + 1)))) : ∀ (c i l a f1 f2 : Nat) (S T : ST), c + d = 11 → d + 2 < f1 → d + 2 < f2 → PQ S T n false tk pl vv i l a → S.1 25 0 = iN c → LwP (T0.2.1 139) (T0.2.1 140) (S.2.1 29) (S.2.1 26) (S.2.1 28) n a c i → Agr wCl S0 S → Agr wPr T0 T → RdLw n S0 T0 (lfX4_read_24_18_37 x f1 S 1 (iN c)) (match gfX11_readOne_130 x T with
    | none => none
    | some (_, T1) => lfX11_reads_130_34 x f2 T1 (iN (c + 1))) := by
  intro c i l a f1 f2 S T hcd l1 l2 h h0 hP a1 a2
  have hn := h.1.1
  obtain ⟨f1, rfl⟩ : ∃ z, f1 = z + 2 := ⟨f1 - 2, by omega⟩
  obtain ⟨f2, rfl⟩ : ∃ z, f2 = z + 2 := ⟨f2 - 2, by omega⟩
  rw [lfX4_read_24_18_37, bfX4_read_24_18_37, if_neg (show ¬ (12 : Int32) < iN c from fun z => by have := (iN_lt (m := 12) (by omega) (by omega)).mp z; omega), if_neg (show ¬ (1 : Int32) = 0 by decide)]
  rcases clause_law x h (show c < 12 by omega) h0 with ⟨S1, T1, k, q1, q2, q3, q4, q5, q6, q7⟩ | ⟨S1, T1, j, l', b, v, eS, eT, q1, q2, q3, q4, q5, q6, q7, q8, q9, q10, q11, q12, q13⟩
  · rw [q1, q2]
    dsimp only
    rw [if_neg (show ¬ ¬ (0 : Int32) = 0 from fun z => z rfl), rd_nf x T1 (nf_of q4 q5)]
    exact Or.inl ⟨S1, rdT T1, k, rfl, rfl, q3, (u2_s T1.1 130 14 _).trans q4, q5, a1.tr q6, (a2.tr q7).rd⟩
  · have hj := q3.2.2.2.2.2.2.2.1
    have tj := q3.t
    have b1 := a1.tr q12
    have b2 := a2.tr q13
    rw [a2.2.1 139 (by decide), a2.2.1 140 (by decide)] at q8
    obtain ⟨P, J, V, dS, dT, p0, pc, pa⟩ := hP
    have old : ∀ c', c' < c → LCl (T0.2.1 139) (T0.2.1 140) (S.2.1 29) (S.2.1 26) (S.2.1 28) a c' (P c') (J c') (V c') (dS c') (dT c') → LCl (T0.2.1 139) (T0.2.1 140) (S1.2.1 29) (S1.2.1 26) (S1.2.1 28) b c' (P c') (J c') (V c') (dS c') (dT c') := (fun c' hc' h => h.cgz q7 (fun z hz => q9 z hz) (q10 c' hc') (fun r hr => q11 _ (by omega)))
    rw [q1, q2]
    dsimp only
    rw [if_pos (show ¬ (1 : Int32) = 0 by decide), here_eq x q3, lfX11_reads_130_34, bfX11_reads_130_34, show (59 : Int32) = iN 59 from rfl, signz_eq x T1 59 (by omega)]
    dsimp only
    rw [takez_eq x q3 59 (by omega) (by decide)]
    unfold bfX4_read_24_18_71 bfX4_read_24_18_86
    rw [iN_succ c]
    by_cases s0 : tk j = 59
    · have hjn := q3.lt (by omega)
      have ha := q3.adv hjn
      rw [if_neg (show ¬ ¬ iN (tk j) = iN 59 from fun z => z (by rw [s0])), if_neg (show ¬ (1 : Int32) = 0 by decide), q3.2.1, iN_succ j, if_pos s0]
      dsimp only
      rw [if_neg (show ¬ (1 : Int32) = 0 by decide)]
      have hP' : LwP (T0.2.1 139) (T0.2.1 140) ((nwS S1 (j + 1)).2.1 29) ((nwS S1 (j + 1)).2.1 26) ((nwS S1 (j + 1)).2.1 28) n b (c + 1) (j + 1) := by
        refine ⟨u1 P (c + 1) (j + 1), u1 J c j, u1 V c v, u1 dS c eS, u1 dT c eT, by rw [u1_n _ _ (by omega)]; exact p0, u1_s _ _ _, fun c' hc' => ?_⟩
        by_cases e : c' = c
        · subst e
          rw [u1_s P, u1_n P _ (by omega), u1_s, u1_s, u1_s, u1_s, pc]
          exact ⟨rfl, hjn, by rw [← b2.2.1 139 (by decide), tj.2.2.2.1, s0]; rfl, q8⟩
        · obtain ⟨w1, w2, w3, w4⟩ := pa c' (by omega)
          rw [u1_n P _ (by omega), u1_n P _ (by omega), u1_n J _ (by omega), u1_n V _ (by omega), u1_n dS _ (by omega), u1_n dT _ (by omega)]
          exact ⟨w1, w2, w3, old c' (by omega) w4⟩
      by_cases c12 : c + 1 = 12
      · rw [c12, if_neg (show ¬ ¬ iN 12 = 12 from fun z => z rfl), faults_eq x ha]
        dsimp only
        unfold bfX11_reads_130_56 bfX11_reads_130_67
        have nf := nf_of (T := flTk (nwT T1 (j + 1)) (pl (j + 1))) (u2_s (nwT T1 (j + 1)).1 130 21 (iN (pl (j + 1)))) ha.t.2.2.2.2.2.1
        rw [fine_nf x _ nf]
        dsimp only
        rw [if_pos (show (0 : Int32) = 0 from rfl), rd_nf x _ nf, lfX4_read_24_18_37, bfX4_read_24_18_37, if_neg (show ¬ (12 : Int32) < iN 12 by decide), if_neg (show ¬ (1 : Int32) = 0 by decide)]
        have ec : gfX4_clause_24 x (nwS S1 (j + 1)) = some (0, flS (nwS S1 (j + 1)) (pl (j + 1))) := by
          unfold gfX4_clause_24 bfX4_clause_24_0 bfX4_clause_24_57
          rw [here_eq x ha]
          dsimp only
          rw [show (nwS S1 (j + 1)).1 25 0 = iN 12 from (show u2 S1.1 24 6 (iN (j + 1)) 25 0 = iN 12 by rw [u2_n _ _ _ _ (by decide), q4, c12]), if_pos (show (12 : Int32) ≤ iN 12 by decide), faulty_eq x ha]
          rfl
        rw [show gfX4_clause_24 x (u2 S1.1 24 6 (iN (j + 1)), S1.2.1, S1.2.2.1, S1.2.2.2) = some (0, flS (nwS S1 (j + 1)) (pl (j + 1))) from ec]
        dsimp only
        rw [if_neg (show ¬ ¬ (0 : Int32) = 0 from fun z => z rfl)]
        exact Or.inl ⟨_, _, pl (j + 1), rfl, rfl, u2_s (nwS S1 (j + 1)).1 24 1 _, (u2_s (flTk (nwT T1 (j + 1)) (pl (j + 1))).1 130 14 _).trans (u2_s (nwT T1 (j + 1)).1 130 21 _), ha.t.2.2.2.2.2.1, b1.tr (((nwS_agr _ _).tr (flS_agr _ _)).sub (by decide)), (b2.tr ((nwT_agr _ _).tr (flT_agr _ _))).rd⟩
      · rw [if_pos (show ¬ iN (c + 1) = 12 from fun z => c12 ((iN_eq (n := 12) (by omega) (by omega)).mp z))]
        unfold bfX11_reads_130_56 bfX11_reads_130_67
        rw [fine_ok x _ ha.2.2.2.2.2.2.1]
        dsimp only
        rw [if_neg (show ¬ (1 : Int32) = 0 by decide), iN_succ (c + 1)]
        have g0 : (nwS S1 (j + 1)).1 25 0 = iN (c + 1) := by
          show u2 S1.1 24 6 (iN (j + 1)) 25 0 = _
          rw [u2_n _ _ _ _ (by decide)]; exact q4
        have r := IH (c + 1) (j + 1) l' b (f1 + 1) (f2 + 1) (nwS S1 (j + 1)) (nwT T1 (j + 1)) (by omega) (by omega) (by omega) (by omega) ha g0 hP' (b1.tr ((nwS_agr _ _).sub (by decide))) (b2.tr (nwT_agr _ _))
        revert r
        cases gfX11_readOne_130 x (nwT T1 (j + 1)) with
        | none => exact fun r => r
        | some z => exact fun r => r
    · rw [if_pos (show ¬ iN (tk j) = iN 59 from fun z => s0 ((iN_eq (by omega) (by omega)).mp z)), if_pos (show (0 : Int32) = 0 from rfl), if_neg s0]
      dsimp only
      rw [if_pos (show (0 : Int32) = 0 from rfl), fine_ok x T1 q3.2.2.2.2.2.2.1]
      dsimp only
      rw [if_neg (show ¬ (1 : Int32) = 0 by decide), q3.1.2.2.1, q3.2.2.2.2.1, lfX4_read_24_18_37, bfX4_read_24_18_37, if_pos (show (0 : Int32) = 0 from rfl), ite_self]
      unfold bfX4_read_24_18_92 bfX4_read_24_18_109 bfX4_read_24_18_114
      rw [here_eq x q3]
      dsimp only
      by_cases e : j = n
      · have t257 := tj.2.2.2.2.1.mpr e
        rw [if_pos (show iN (tk j) = 257 by rw [t257]; rfl), if_pos ((iN_le (by omega) (by omega)).mpr (by omega)), show bbz 1 = true from rfl, cond_true, rd_ok x T1 q3.2.2.2.2.2.2.1]
        have hb4 := q3.2.2.2.2.2.2.2.2.2
        refine Or.inr ⟨S1, rdT T1, c + 1, b, rfl, rfl, q3.2.2.2.2.2.2.2.2.1.2, (u2_s T1.1 130 14 _).trans q3.2.2.2.2.2.2.1, by omega, by omega, by omega, q4, q3.2.2.2.1, ?_, b1, b2.rd⟩
        refine ⟨u1 P (c + 1) (j + 1), u1 J c j, u1 V c v, u1 dS c eS, u1 dT c eT, by rw [u1_n _ _ (by omega)]; exact p0, fun c' hc' => ?_⟩
        by_cases ee : c' = c
        · subst ee
          rw [u1_s P, u1_n P _ (by omega), u1_s, u1_s, u1_s, u1_s, pc]
          exact ⟨rfl, by omega, q8, fun z => by omega, fun _ => e⟩
        · obtain ⟨w1, w2, w3, w4⟩ := pa c' (by omega)
          rw [u1_n P _ (by omega), u1_n P _ (by omega), u1_n J _ (by omega), u1_n V _ (by omega), u1_n dS _ (by omega), u1_n dT _ (by omega)]
          exact ⟨w1, by omega, old c' (by omega) w4, fun _ => ⟨w2, w3⟩, fun z => by omega⟩
      · have t257 : tk j ≠ 257 := fun z => e (tj.2.2.2.2.1.mp z)
        rw [if_neg (show ¬ iN (tk j) = 257 from fun z => t257 ((iN_eq (n := 257) (by omega) (by omega)).mp z)), if_neg (fun z => by have := (iN_le (by omega) (by omega)).mp z; omega), faulty_eq x q3, faults_eq x q3]
        dsimp only
        rw [if_pos (show (0 : Int32) = 0 from rfl), show bbz 0 = true from rfl, cond_true, rd_bad x _ (nf_of (T := flTk T1 (pl j)) (u2_s T1.1 130 21 _) tj.2.2.2.2.2.1)]
        exact Or.inl ⟨_, _, pl j, rfl, rfl, u2_s S1.1 24 1 _, (u2_s (flTk T1 (pl j)).1 130 14 _).trans (u2_s T1.1 130 21 _), tj.2.2.2.2.2.1, b1.tr ((flS_agr _ _).sub (by decide)), (b2.tr (flT_agr _ _)).rd⟩
theorem Lw_loop (x : XT) (n : Nat) (tk pl vv : Nat → Nat) (S0 T0 : ST) : ∀ (d c i l a f1 f2 : Nat) (S T : ST), c + d = 11 → d + 2 < f1 → d + 2 < f2 → PQ S T n false tk pl vv i l a → S.1 25 0 = iN c → LwP (T0.2.1 139) (T0.2.1 140) (S.2.1 29) (S.2.1 26) (S.2.1 28) n a c i → Agr wCl S0 S → Agr wPr T0 T → RdLw n S0 T0 (lfX4_read_24_18_37 x f1 S 1 (iN c)) (match gfX11_readOne_130 x T with
    | none => none
    | some (_, T1) => lfX11_reads_130_34 x f2 T1 (iN (c + 1)))
  | 0 => Lw_step x n tk pl vv S0 T0 0 (fun c i l a f1 f2 S T h1 _ _ h2 => by omega)
  | d + 1 => Lw_step x n tk pl vv S0 T0 (d + 1) (fun c i l a f1 f2 S T h1 h2 h3 _ => Lw_loop x n tk pl vv S0 T0 d c i l a f1 f2 S T (by omega) (by omega) (by omega))
/-- c CLAUSES were read, each with its ";" -/
def OwP (cd vl cs vb tm bd : Nat → Int32) (n Z c i : Nat) : Prop := ∃ (P J : Nat → Nat) (V M : Nat → Nat) (dA dB dT : Nat → DN), P 0 = 0 ∧ P c = i ∧ ∀ c', c' < c → P (c' + 1) = J c' + 1 ∧ J c' < n ∧ cd (J c') = iN 159 ∧ OCl cd vl cs vb tm bd Z c' (P c') (J c') (V c') (M c') (dA c') (dB c') (dT c')
/-- a whole TEXT of C CLAUSES, n TOKENS -/
def OwT (cd vl cs vb tm bd : Nat → Int32) (n Z C : Nat) : Prop := ∃ (P J : Nat → Nat) (V M : Nat → Nat) (dA dB dT : Nat → DN), P 0 = 0 ∧ ∀ c, c < C → P (c + 1) = J c + 1 ∧ J c ≤ n ∧ OCl cd vl cs vb tm bd Z c (P c) (J c) (V c) (M c) (dA c) (dB c) (dT c) ∧ (c + 1 < C → J c < n ∧ cd (J c) = iN 159) ∧ (c + 1 = C → J c = n)
def RdOw (n : Nat) (S T : ST) (rc rr : Option (Int32 × ST)) : Prop := (∃ S' T' k, rc = some (0, S') ∧ rr = some (0, T') ∧ S'.1 24 1 = iN k ∧ T'.1 130 14 = iN k ∧ k ≤ 400 ∧ Agr wCl S S' ∧ Agr wRd T T') ∨ (∃ S' T' C Z, rc = some (1, S') ∧ rr = some (1, T') ∧ S'.1 24 1 = -1 ∧ T'.1 130 14 = -1 ∧ 1 ≤ C ∧ C ≤ 12 ∧ Z ≤ 400 ∧ S'.1 25 0 = iN C ∧ S'.1 25 1 = iN Z ∧ OwT (T.2.1 139) (T.2.1 140) (S'.2.1 29) (S'.2.1 26) (S'.2.1 27) (S'.2.1 28) n Z C ∧ Agr wCl S S' ∧ Agr wRd T T')
theorem Ow_step (x : XT) (n : Nat) (tk pl vv : Nat → Nat) (S0 T0 : ST) (d : Nat) (IH : ∀ (c i l a f1 f2 : Nat) (S T : ST), c + d = 12 → d + 1 < f1 → d + 1 < f2 → c < 12 → PQ S T n true tk pl vv i l a → S.1 25 0 = iN c → OwP (T0.2.1 139) (T0.2.1 140) (S.2.1 29) (S.2.1 26) (S.2.1 27) (S.2.1 28) n a c i → Agr wCl S0 S → Agr wPr T0 T → RdOw n S0 T0 (lfX4_read_24_18_37 x f1 S 1 (iN c)) (match gfX11_readOne_130 x T with
    | none => none
    | some (_, T1) => lfX11_reads_130_34 x f2 T1 (iN (c + 1)))) : ∀ (c i l a f1 f2 : Nat) (S T : ST), c + d = 11 → d + 2 < f1 → d + 2 < f2 → PQ S T n true tk pl vv i l a → S.1 25 0 = iN c → OwP (T0.2.1 139) (T0.2.1 140) (S.2.1 29) (S.2.1 26) (S.2.1 27) (S.2.1 28) n a c i → Agr wCl S0 S → Agr wPr T0 T → RdOw n S0 T0 (lfX4_read_24_18_37 x f1 S 1 (iN c)) (match gfX11_readOne_130 x T with
    | none => none
    | some (_, T1) => lfX11_reads_130_34 x f2 T1 (iN (c + 1))) := by
  intro c i l a f1 f2 S T hcd l1 l2 h h0 hP a1 a2
  have hn := h.1.1
  obtain ⟨f1, rfl⟩ : ∃ z, f1 = z + 2 := ⟨f1 - 2, by omega⟩
  obtain ⟨f2, rfl⟩ : ∃ z, f2 = z + 2 := ⟨f2 - 2, by omega⟩
  rw [lfX4_read_24_18_37, bfX4_read_24_18_37, if_neg (show ¬ (12 : Int32) < iN c from fun z => by have := (iN_lt (m := 12) (by omega) (by omega)).mp z; omega), if_neg (show ¬ (1 : Int32) = 0 by decide)]
  rcases clause_ord x h (show c < 12 by omega) h0 with ⟨S1, T1, k, q1, q2, q3, q4, q5, q6, q7⟩ | ⟨S1, T1, j, l', b, u, t, eA, eB, eT, q1, q2, q3, q4, q5, q6, q7, q8, q9, q10, q11, q11b, q12, q13⟩
  · rw [q1, q2]
    dsimp only
    rw [if_neg (show ¬ ¬ (0 : Int32) = 0 from fun z => z rfl), rd_nf x T1 (nf_of q4 q5)]
    exact Or.inl ⟨S1, rdT T1, k, rfl, rfl, q3, (u2_s T1.1 130 14 _).trans q4, q5, a1.tr q6, (a2.tr q7).rd⟩
  · have hj := q3.2.2.2.2.2.2.2.1
    have tj := q3.t
    have b1 := a1.tr q12
    have b2 := a2.tr q13
    rw [a2.2.1 139 (by decide), a2.2.1 140 (by decide)] at q8
    obtain ⟨P, J, V, M, dA, dB, dT, p0, pc, pa⟩ := hP
    have old : ∀ c', c' < c → OCl (T0.2.1 139) (T0.2.1 140) (S.2.1 29) (S.2.1 26) (S.2.1 27) (S.2.1 28) a c' (P c') (J c') (V c') (M c') (dA c') (dB c') (dT c') → OCl (T0.2.1 139) (T0.2.1 140) (S1.2.1 29) (S1.2.1 26) (S1.2.1 27) (S1.2.1 28) b c' (P c') (J c') (V c') (M c') (dA c') (dB c') (dT c') := (fun c' hc' h => h.cgz q7 (fun z hz => q9 z hz) (q10 c' hc') (q11 c' hc') (fun r hr => q11b _ (by omega)))
    rw [q1, q2]
    dsimp only
    rw [if_pos (show ¬ (1 : Int32) = 0 by decide), here_eq x q3, lfX11_reads_130_34, bfX11_reads_130_34, show (59 : Int32) = iN 59 from rfl, signz_eq x T1 59 (by omega)]
    dsimp only
    rw [takez_eq x q3 59 (by omega) (by decide)]
    unfold bfX4_read_24_18_71 bfX4_read_24_18_86
    rw [iN_succ c]
    by_cases s0 : tk j = 59
    · have hjn := q3.lt (by omega)
      have ha := q3.adv hjn
      rw [if_neg (show ¬ ¬ iN (tk j) = iN 59 from fun z => z (by rw [s0])), if_neg (show ¬ (1 : Int32) = 0 by decide), q3.2.1, iN_succ j, if_pos s0]
      dsimp only
      rw [if_neg (show ¬ (1 : Int32) = 0 by decide)]
      have hP' : OwP (T0.2.1 139) (T0.2.1 140) ((nwS S1 (j + 1)).2.1 29) ((nwS S1 (j + 1)).2.1 26) ((nwS S1 (j + 1)).2.1 27) ((nwS S1 (j + 1)).2.1 28) n b (c + 1) (j + 1) := by
        refine ⟨u1 P (c + 1) (j + 1), u1 J c j, u1 V c u, u1 M c t, u1 dA c eA, u1 dB c eB, u1 dT c eT, by rw [u1_n _ _ (by omega)]; exact p0, u1_s _ _ _, fun c' hc' => ?_⟩
        by_cases e : c' = c
        · subst e
          rw [u1_s P, u1_n P _ (by omega), u1_s, u1_s, u1_s, u1_s, u1_s, u1_s, pc]
          exact ⟨rfl, hjn, by rw [← b2.2.1 139 (by decide), tj.2.2.2.1, s0]; rfl, q8⟩
        · obtain ⟨w1, w2, w3, w4⟩ := pa c' (by omega)
          rw [u1_n P _ (by omega), u1_n P _ (by omega), u1_n J _ (by omega), u1_n V _ (by omega), u1_n M _ (by omega), u1_n dA _ (by omega), u1_n dB _ (by omega), u1_n dT _ (by omega)]
          exact ⟨w1, w2, w3, old c' (by omega) w4⟩
      by_cases c12 : c + 1 = 12
      · rw [c12, if_neg (show ¬ ¬ iN 12 = 12 from fun z => z rfl), faults_eq x ha]
        dsimp only
        unfold bfX11_reads_130_56 bfX11_reads_130_67
        have nf := nf_of (T := flTk (nwT T1 (j + 1)) (pl (j + 1))) (u2_s (nwT T1 (j + 1)).1 130 21 (iN (pl (j + 1)))) ha.t.2.2.2.2.2.1
        rw [fine_nf x _ nf]
        dsimp only
        rw [if_pos (show (0 : Int32) = 0 from rfl), rd_nf x _ nf, lfX4_read_24_18_37, bfX4_read_24_18_37, if_neg (show ¬ (12 : Int32) < iN 12 by decide), if_neg (show ¬ (1 : Int32) = 0 by decide)]
        have ec : gfX4_clause_24 x (nwS S1 (j + 1)) = some (0, flS (nwS S1 (j + 1)) (pl (j + 1))) := by
          unfold gfX4_clause_24 bfX4_clause_24_0 bfX4_clause_24_57
          rw [here_eq x ha]
          dsimp only
          rw [show (nwS S1 (j + 1)).1 25 0 = iN 12 from (show u2 S1.1 24 6 (iN (j + 1)) 25 0 = iN 12 by rw [u2_n _ _ _ _ (by decide), q4, c12]), if_pos (show (12 : Int32) ≤ iN 12 by decide), faulty_eq x ha]
          rfl
        rw [show gfX4_clause_24 x (u2 S1.1 24 6 (iN (j + 1)), S1.2.1, S1.2.2.1, S1.2.2.2) = some (0, flS (nwS S1 (j + 1)) (pl (j + 1))) from ec]
        dsimp only
        rw [if_neg (show ¬ ¬ (0 : Int32) = 0 from fun z => z rfl)]
        exact Or.inl ⟨_, _, pl (j + 1), rfl, rfl, u2_s (nwS S1 (j + 1)).1 24 1 _, (u2_s (flTk (nwT T1 (j + 1)) (pl (j + 1))).1 130 14 _).trans (u2_s (nwT T1 (j + 1)).1 130 21 _), ha.t.2.2.2.2.2.1, b1.tr (((nwS_agr _ _).tr (flS_agr _ _)).sub (by decide)), (b2.tr ((nwT_agr _ _).tr (flT_agr _ _))).rd⟩
      · rw [if_pos (show ¬ iN (c + 1) = 12 from fun z => c12 ((iN_eq (n := 12) (by omega) (by omega)).mp z))]
        unfold bfX11_reads_130_56 bfX11_reads_130_67
        rw [fine_ok x _ ha.2.2.2.2.2.2.1]
        dsimp only
        rw [if_neg (show ¬ (1 : Int32) = 0 by decide), iN_succ (c + 1)]
        have g0 : (nwS S1 (j + 1)).1 25 0 = iN (c + 1) := by
          show u2 S1.1 24 6 (iN (j + 1)) 25 0 = _
          rw [u2_n _ _ _ _ (by decide)]; exact q4
        have r := IH (c + 1) (j + 1) l' b (f1 + 1) (f2 + 1) (nwS S1 (j + 1)) (nwT T1 (j + 1)) (by omega) (by omega) (by omega) (by omega) ha g0 hP' (b1.tr ((nwS_agr _ _).sub (by decide))) (b2.tr (nwT_agr _ _))
        revert r
        cases gfX11_readOne_130 x (nwT T1 (j + 1)) with
        | none => exact fun r => r
        | some z => exact fun r => r
    · rw [if_pos (show ¬ iN (tk j) = iN 59 from fun z => s0 ((iN_eq (by omega) (by omega)).mp z)), if_pos (show (0 : Int32) = 0 from rfl), if_neg s0]
      dsimp only
      rw [if_pos (show (0 : Int32) = 0 from rfl), fine_ok x T1 q3.2.2.2.2.2.2.1]
      dsimp only
      rw [if_neg (show ¬ (1 : Int32) = 0 by decide), q3.1.2.2.1, q3.2.2.2.2.1, lfX4_read_24_18_37, bfX4_read_24_18_37, if_pos (show (0 : Int32) = 0 from rfl), ite_self]
      unfold bfX4_read_24_18_92 bfX4_read_24_18_109 bfX4_read_24_18_114
      rw [here_eq x q3]
      dsimp only
      by_cases e : j = n
      · have t257 := tj.2.2.2.2.1.mpr e
        rw [if_pos (show iN (tk j) = 257 by rw [t257]; rfl), if_pos ((iN_le (by omega) (by omega)).mpr (by omega)), show bbz 1 = true from rfl, cond_true, rd_ok x T1 q3.2.2.2.2.2.2.1]
        have hb4 := q3.2.2.2.2.2.2.2.2.2
        refine Or.inr ⟨S1, rdT T1, c + 1, b, rfl, rfl, q3.2.2.2.2.2.2.2.2.1.2, (u2_s T1.1 130 14 _).trans q3.2.2.2.2.2.2.1, by omega, by omega, by omega, q4, q3.2.2.2.1, ?_, b1, b2.rd⟩
        refine ⟨u1 P (c + 1) (j + 1), u1 J c j, u1 V c u, u1 M c t, u1 dA c eA, u1 dB c eB, u1 dT c eT, by rw [u1_n _ _ (by omega)]; exact p0, fun c' hc' => ?_⟩
        by_cases ee : c' = c
        · subst ee
          rw [u1_s P, u1_n P _ (by omega), u1_s, u1_s, u1_s, u1_s, u1_s, u1_s, pc]
          exact ⟨rfl, by omega, q8, fun z => by omega, fun _ => e⟩
        · obtain ⟨w1, w2, w3, w4⟩ := pa c' (by omega)
          rw [u1_n P _ (by omega), u1_n P _ (by omega), u1_n J _ (by omega), u1_n V _ (by omega), u1_n M _ (by omega), u1_n dA _ (by omega), u1_n dB _ (by omega), u1_n dT _ (by omega)]
          exact ⟨w1, by omega, old c' (by omega) w4, fun _ => ⟨w2, w3⟩, fun z => by omega⟩
      · have t257 : tk j ≠ 257 := fun z => e (tj.2.2.2.2.1.mp z)
        rw [if_neg (show ¬ iN (tk j) = 257 from fun z => t257 ((iN_eq (n := 257) (by omega) (by omega)).mp z)), if_neg (fun z => by have := (iN_le (by omega) (by omega)).mp z; omega), faulty_eq x q3, faults_eq x q3]
        dsimp only
        rw [if_pos (show (0 : Int32) = 0 from rfl), show bbz 0 = true from rfl, cond_true, rd_bad x _ (nf_of (T := flTk T1 (pl j)) (u2_s T1.1 130 21 _) tj.2.2.2.2.2.1)]
        exact Or.inl ⟨_, _, pl j, rfl, rfl, u2_s S1.1 24 1 _, (u2_s (flTk T1 (pl j)).1 130 14 _).trans (u2_s T1.1 130 21 _), tj.2.2.2.2.2.1, b1.tr ((flS_agr _ _).sub (by decide)), (b2.tr (flT_agr _ _)).rd⟩
theorem Ow_loop (x : XT) (n : Nat) (tk pl vv : Nat → Nat) (S0 T0 : ST) : ∀ (d c i l a f1 f2 : Nat) (S T : ST), c + d = 11 → d + 2 < f1 → d + 2 < f2 → PQ S T n true tk pl vv i l a → S.1 25 0 = iN c → OwP (T0.2.1 139) (T0.2.1 140) (S.2.1 29) (S.2.1 26) (S.2.1 27) (S.2.1 28) n a c i → Agr wCl S0 S → Agr wPr T0 T → RdOw n S0 T0 (lfX4_read_24_18_37 x f1 S 1 (iN c)) (match gfX11_readOne_130 x T with
    | none => none
    | some (_, T1) => lfX11_reads_130_34 x f2 T1 (iN (c + 1)))
  | 0 => Ow_step x n tk pl vv S0 T0 0 (fun c i l a f1 f2 S T h1 _ _ h2 => by omega)
  | d + 1 => Ow_step x n tk pl vv S0 T0 (d + 1) (fun c i l a f1 f2 S T h1 h2 h3 _ => Ow_loop x n tk pl vv S0 T0 d c i l a f1 f2 S T (by omega) (by omega) (by omega))
end READ
