section GOES
theorem tail_code {cd vl cs : Nat → Int32} {i j a b t n : Nat} {dT : DN} (h : OTail cd vl cs i j a b t dT) (he : cd j = iN 159 ∨ j = n) (h0 : cd n = iN 0) : ∃ c, cd i = iN c ∧ (c = 26 ∨ c = 4 ∨ c = 159 ∨ c = 0) := by
  obtain ⟨j3, N, k3, t1, t2, h1, h2⟩ := h
  rcases h1 with ⟨z1, z2, z3⟩ | ⟨z1, z2, z3⟩
  · subst z1
    rcases h2 with ⟨y1, y2, y3, y4⟩ | ⟨y1, y2, y3⟩
    · subst y1
      rcases he with he | he
      · exact ⟨159, he, by omega⟩
      · exact ⟨0, by rw [he]; exact h0, by omega⟩
    · exact ⟨4, y1, by omega⟩
  · exact ⟨26, z1, by omega⟩
theorem tail_le {cd vl cs : Nat → Int32} {i j a b t : Nat} {dT : DN} (h : OTail cd vl cs i j a b t dT) : i ≤ j ∧ a ≤ b := by
  obtain ⟨j3, N, k3, t1, t2, h1, h2⟩ := h
  have : j3 ≤ j ∧ a ≤ b := by
    rcases h2 with ⟨y1, y2, y3, y4⟩ | ⟨y1, y2, y3⟩
    · omega
    · have := y3.lt; omega
  rcases h1 with ⟨z1, z2, z3⟩ | ⟨z1, z2, z3⟩ <;> omega
theorem fol_T {T X : ST} {E j : Nat} (h : fol X E j) (e : X.2.1 = T.2.1) : fol T E j := by
  unfold fol nomul noadd ec at h ⊢
  rw [← e]; exact h
set_option maxRecDepth 4000 in
theorem along_tail (x : XT) (T : ST) (cd vl cs : Nat → Int32) (n : Nat) (hL : Ld (T.2.1 132) cd vl n) (G P : Nat) (hG : G ≤ 10) (hP : P ≤ 5) (e1 : T.2.1 132 91 = iN G) (e2 : T.2.1 132 92 = iN P) (cq : Int32) (X : ST) (i j a b t : Nat) (dT : DN) (hX : GK T (2400 + n) cq X (i + 2400)) (hj : j ≤ n) (he : cd j = iN 159 ∨ j = n) (lv : Int32) (hlv : lv = 0 ∨ lv = 1) (h : OTail cd vl cs i j a b t dT) (K : ST → Int32 → Int32 → Int32 → Option (Unit × ST)) (v3 v4 : Int32) (hv : v3 ≤ v4) :
    ∃ X', bfX11_goesAlong_130_76 x K X lv v3 v4 = some ((), X') ∧ GK T (2400 + n) cq X' (j + 2401) ∧ TailR lv (dT (oW (T.2.1 132) (T.1 130 27) (T.1 130 28) G P)) t X X' := by
  have hn := hL.1
  have hij := (tail_le h).1
  obtain ⟨j3, N, k3, t1, t2, h1, h2⟩ := h
  have h2' : (j = j3 ∧ b = a ∧ (dT = fun _ => some 1) ∧ ¬ cd j3 = iN 4) ∨ ∃ N k3, cd j3 = iN 4 ∧ k3 ≤ 50 ∧ Gr true cd vl cs N 8 6 (j3 + 1) j a b k3 dT := by
    rcases h2 with z | z
    · exact Or.inl z
    · exact Or.inr ⟨N, k3, z⟩
  have j3j : j3 ≤ j := by
    rcases h2 with ⟨y1, -⟩ | ⟨-, -, y3⟩
    · omega
    · have := y3.lt; omega
  have hY : GK T (2400 + n) cq (u2 X.1 130 45 1, X.2.1, X.2.2.1, X.2.2.2) (i + 2400) := hX.f 45 1 _ (by omega)
  have y45 : (u2 X.1 130 45 1) 130 45 = 1 := u2_s _ _ _ _
  have y47 : (u2 X.1 130 45 1) 130 47 = X.1 130 47 := u2_k _ _ _ (by decide)
  unfold bfX11_goesAlong_130_76
  rw [if_pos hv]
  have yJ : ((u2 X.1 130 45 1, X.2.1, X.2.2.1, X.2.2.2) : ST).2.2.1 = X.2.2.1 := rfl
  generalize hYd : ((u2 X.1 130 45 1, X.2.1, X.2.2.1, X.2.2.2) : ST) = Y at hY yJ
  have y45 : Y.1 130 45 = 1 := by rw [← hYd]; exact y45
  have y47 : Y.1 130 47 = X.1 130 47 := by rw [← hYd]; exact y47
  have hY7 := hY.2.2.2.2.2.2
  have hLY : Ld (Y.2.1 132) cd vl n := by rw [hY7]; exact hL
  have ps := passes_eq x Y (2400 + n) hY.2.1 (by omega) (i + 2400) (Y.1 130 24) (by omega) 26
  rw [ge_self hY.1 rfl, hLY.at' (by omega)] at ps
  rw [ps]
  rcases h1 with ⟨z1, z2, z3⟩ | ⟨z1, z2, z3⟩
  · rw [if_neg (show ¬ cd i = 26 from z3)]
    dsimp only
    rw [if_pos (show (0 : Int32) = 0 from rfl)]
    subst z1
    obtain ⟨X', r1, r2, r3, r4, r5, r6⟩ := along_test x T cd vl cs n hL G P hG hP e1 e2 cq Y j3 j a b dT hY hj he lv hlv h2'
    refine ⟨X', r1, r2, ?_, r4.trans y47, r5.trans yJ, r6⟩
    rw [r3, y45, z2]
    rfl
  · rw [if_pos (show cd i = 26 from z1)]
    dsimp only
    rw [if_neg (show ¬ (1 : Int32) = 0 by decide)]
    have hZ := hY.gm (i + 2400 + 1) (Y.1 130 24)
    have z47 : (ge Y (i + 2400 + 1) (Y.1 130 24)).1 130 47 = X.1 130 47 := (ge_o Y _ _ (by decide) (by decide)).trans y47
    have zJ : (ge Y (i + 2400 + 1) (Y.1 130 24)).2.2.1 = X.2.2.1 := yJ
    generalize ge Y (i + 2400 + 1) (Y.1 130 24) = Z at hZ z47 zJ
    have zv : Z.2.1 132 (2903 + (i + 2400 + 1)) = iN t := by
      rw [hZ.2.2.2.2.2.2, show 2903 + (i + 2400 + 1) = 5303 + (i + 1) by omega, (hL.2.2 (i + 1) (by omega)).2]
      exact z2
    rw [hZ.1, show (2903 : Int32) + iN (i + 2400 + 1) = iN (2903 + (i + 2400 + 1)) from iN_add 2903 _, inb_t (show 2903 + (i + 2400 + 1) < 5703 by omega) (by omega), cond_true, iN_nat (by omega), zv, iN_succ]
    have hQ : GK T (2400 + n) cq (u2 (u2 Z.1 130 45 (iN t)) 130 22 (iN (i + 2400 + 1 + 1)), Z.2.1, Z.2.2.1, Z.2.2.2) (j3 + 2400) := by
      have := (hZ.f 45 (iN t) Z.2.2.1 (by omega)).go (i + 2400 + 1 + 1)
      rw [show j3 + 2400 = i + 2400 + 1 + 1 by omega]
      exact this
    have q45 : ((u2 (u2 Z.1 130 45 (iN t)) 130 22 (iN (i + 2400 + 1 + 1)), Z.2.1, Z.2.2.1, Z.2.2.2) : ST).1 130 45 = iN t := by
      show u2 (u2 Z.1 130 45 (iN t)) 130 22 (iN (i + 2400 + 1 + 1)) 130 45 = _
      rw [u2_k _ _ _ (by decide), u2_s]
    have q47 : ((u2 (u2 Z.1 130 45 (iN t)) 130 22 (iN (i + 2400 + 1 + 1)), Z.2.1, Z.2.2.1, Z.2.2.2) : ST).1 130 47 = X.1 130 47 := by
      show u2 (u2 Z.1 130 45 (iN t)) 130 22 (iN (i + 2400 + 1 + 1)) 130 47 = _
      rw [u2_k _ _ _ (by decide), u2_k _ _ _ (by decide), z47]
    obtain ⟨X', r1, r2, r3, r4, r5, r6⟩ := along_test x T cd vl cs n hL G P hG hP e1 e2 cq _ j3 j a b dT hQ hj he lv hlv h2'
    exact ⟨X', r1, r2, r3.trans q45, r4.trans q47, r5.trans zJ, r6⟩
/-- the SUMS of a CLAUSE, as the reference has them -/
def SumsO (u : Nat) (A B : Option Int32) (X : ST) : Prop := (∃ a b : Int32, (u ≤ 2 → A = some a ∧ X.2.2.1 156 0 = a.toInt64) ∧ (u = 0 ∨ u = 2 → B = some b ∧ X.2.2.1 156 1 = b.toInt64) ∧ X.1 130 47 = 1) ∨ (((u ≤ 2 ∧ A = none) ∨ ((u = 0 ∨ u = 2) ∧ B = none)) ∧ X.1 130 47 = 0)
def GoesO (x : XT) (T : ST) (n : Nat) (W : Nat → Int32) (j u t : Nat) (dA dB dT : DN) (lv : Int32) (r : Option (Unit × ST)) : Prop := ∃ X', r = some ((), X') ∧ GK T (2400 + n) (iN (oc u)) X' (j + 2401) ∧ X'.1 130 45 = iN t ∧ (lv = 1 → X'.1 130 48 = (if dT W = some 1 then 1 else 0) ∧ SumsO u (dA W) (dB W) X')
theorem goesl (x : XT) (f : Nat) (S : ST) (a b c : Int32) : lfX11_goesAlong_130_76 x (f + 1) S a b c = bfX11_goesAlong_130_76 x (lfX11_goesAlong_130_76 x f) S a b c := rfl
set_option maxRecDepth 4000 in
theorem goes (x : XT) (T : ST) (cd vl cs vb tm bd : Nat → Int32) (n : Nat) (hL : Ld (T.2.1 132) cd vl n) (G P : Nat) (hG : G ≤ 10) (hP : P ≤ 5) (e1 : T.2.1 132 91 = iN G) (e2 : T.2.1 132 92 = iN P) (Z c i j u t : Nat) (dA dB dT : DN) (h : OCl cd vl cs vb tm bd Z c i j u t dA dB dT) (hj : j ≤ n) (he : cd j = iN 159 ∨ j = n) (e44 : T.1 130 44 = iN (i + 2400)) (lv : Int32) (hlv : lv = 0 ∨ lv = 1) :
    GoesO x T n (oW (T.2.1 132) (T.1 130 27) (T.1 130 28) G P) j u t dA dB dT lv (gfX11_goesAlong_130 x T (iN (2400 + n)) lv) := by
  have hn := hL.1
  obtain ⟨j1, j2, a0, a1, a2, a3, N, k1, k2, hu, hci, -, -, -, -, -, -, -, hA, hB, hT⟩ := h
  have lT := tail_le hT
  have lB : j1 ≤ j2 := by
    rcases hB with ⟨-, y, -⟩ | ⟨-, -, y⟩
    · omega
    · have := y.lt; omega
  have lA : i < j1 := by
    rcases hA with ⟨-, y, -⟩ | ⟨-, -, y⟩
    · omega
    · have := y.lt; omega
  obtain ⟨tc, tc1, tc2⟩ := tail_code hT he hL.2.1
  have fT : fol T (2400 + n) (j2 + 2400) := hL.fl (by omega) tc1 (by omega) (by omega) (by omega) (by omega) (by omega) (by omega)
  have start : gfX11_goesAlong_130 x T (iN (2400 + n)) lv = lfX11_goesAlong_130_76 x 20000 (u2 (u2 (u2 (u2 (u2 (u2 T.1 130 25 1) 130 23 (iN (2400 + n))) 130 22 (iN (i + 2400))) 130 46 (iN (oc u))) 130 22 (iN (i + 1 + 2400))) 130 47 1, T.2.1, T.2.2.1, T.2.2.2) lv (if u = 3 then 0 else if u = 1 then 1 else 2) 0 := by
    have c23 : (u2 (u2 (u2 T.1 130 25 1) 130 23 (iN (2400 + n))) 130 22 (iN (i + 2400))) 130 23 = iN (2400 + n) := by rw [u2_k _ _ _ (by decide), u2_s]
    have v : T.2.1 132 (103 + (i + 2400)) = iN (oc u) := by rw [show 103 + (i + 2400) = 2503 + i by omega, (hL.2.2 i (by omega)).1, hci]
    have cA : gfX11_codeAt_130 x (u2 (u2 (u2 T.1 130 25 1) 130 23 (iN (2400 + n))) 130 22 (iN (i + 2400)), T.2.1, T.2.2.1, T.2.2.2) (iN (i + 2400)) = some (iN (oc u), (u2 (u2 (u2 T.1 130 25 1) 130 23 (iN (2400 + n))) 130 22 (iN (i + 2400)), T.2.1, T.2.2.1, T.2.2.2)) := by
      unfold gfX11_codeAt_130 bfX11_codeAt_130_0 bfX11_codeAt_130_21
      dsimp only
      rw [if_neg (show ¬ (u2 (u2 (u2 T.1 130 25 1) 130 23 (iN (2400 + n))) 130 22 (iN (i + 2400))) 130 23 ≤ iN (i + 2400) from fun z => by rw [c23] at z; have := (iN_le (by omega) (by omega)).mp z; omega), show (103 : Int32) + iN (i + 2400) = iN (103 + (i + 2400)) from iN_add 103 _, inb_t (show 103 + (i + 2400) < 5703 by omega) (by omega), cond_true, iN_nat (by omega), v]
    unfold gfX11_goesAlong_130 bfX11_goesAlong_130_0 bfX11_goesAlong_130_72
    rw [e44, cA]
    dsimp only
    rw [u2_s (u2 (u2 T.1 130 25 1) 130 23 (iN (2400 + n))) 130 22, iN_succ, show i + 2400 + 1 = i + 1 + 2400 by omega]
    have hu' : u = 0 ∨ u = 1 ∨ u = 2 ∨ u = 3 := by omega
    rcases hu' with rfl | rfl | rfl | rfl
    · rw [if_pos (show ¬ iN (oc 0) = 25 by decide), if_pos (show ¬ iN (oc 0) = 22 by decide)]; rfl
    · rw [if_pos (show ¬ iN (oc 1) = 25 by decide), if_neg (show ¬ ¬ iN (oc 1) = 22 from fun z => z rfl)]; rfl
    · rw [if_pos (show ¬ iN (oc 2) = 25 by decide), if_pos (show ¬ iN (oc 2) = 22 by decide)]; rfl
    · rw [if_neg (show ¬ ¬ iN (oc 3) = 25 from fun z => z rfl)]; rfl
  rw [start]
  have hX : GK T (2400 + n) (iN (oc u)) (u2 (u2 (u2 (u2 (u2 (u2 T.1 130 25 1) 130 23 (iN (2400 + n))) 130 22 (iN (i + 2400))) 130 46 (iN (oc u))) 130 22 (iN (i + 1 + 2400))) 130 47 1, T.2.1, T.2.2.1, T.2.2.2) (i + 1 + 2400) := by
    refine ⟨?_, ?_, ?_, ?_, ?_, ?_, rfl⟩
    · show u2 (u2 (u2 (u2 (u2 (u2 T.1 130 25 1) 130 23 (iN (2400 + n))) 130 22 (iN (i + 2400))) 130 46 (iN (oc u))) 130 22 (iN (i + 1 + 2400))) 130 47 1 130 22 = _
      rw [u2_k _ _ _ (by decide), u2_s]
    · show u2 (u2 (u2 (u2 (u2 (u2 T.1 130 25 1) 130 23 (iN (2400 + n))) 130 22 (iN (i + 2400))) 130 46 (iN (oc u))) 130 22 (iN (i + 1 + 2400))) 130 47 1 130 23 = _
      rw [u2_k _ _ _ (by decide), u2_k _ _ _ (by decide), u2_k _ _ _ (by decide), u2_k _ _ _ (by decide), u2_s]
    · show u2 (u2 (u2 (u2 (u2 (u2 T.1 130 25 1) 130 23 (iN (2400 + n))) 130 22 (iN (i + 2400))) 130 46 (iN (oc u))) 130 22 (iN (i + 1 + 2400))) 130 47 1 130 25 = _
      rw [u2_k _ _ _ (by decide), u2_k _ _ _ (by decide), u2_k _ _ _ (by decide), u2_k _ _ _ (by decide), u2_k _ _ _ (by decide), u2_s]
    · show u2 (u2 (u2 (u2 (u2 (u2 T.1 130 25 1) 130 23 (iN (2400 + n))) 130 22 (iN (i + 2400))) 130 46 (iN (oc u))) 130 22 (iN (i + 1 + 2400))) 130 47 1 130 27 = _
      rw [u2_k _ _ _ (by decide), u2_k _ _ _ (by decide), u2_k _ _ _ (by decide), u2_k _ _ _ (by decide), u2_k _ _ _ (by decide), u2_k _ _ _ (by decide)]
    · show u2 (u2 (u2 (u2 (u2 (u2 T.1 130 25 1) 130 23 (iN (2400 + n))) 130 22 (iN (i + 2400))) 130 46 (iN (oc u))) 130 22 (iN (i + 1 + 2400))) 130 47 1 130 28 = _
      rw [u2_k _ _ _ (by decide), u2_k _ _ _ (by decide), u2_k _ _ _ (by decide), u2_k _ _ _ (by decide), u2_k _ _ _ (by decide), u2_k _ _ _ (by decide)]
    · show u2 (u2 (u2 (u2 (u2 (u2 T.1 130 25 1) 130 23 (iN (2400 + n))) 130 22 (iN (i + 2400))) 130 46 (iN (oc u))) 130 22 (iN (i + 1 + 2400))) 130 47 1 130 46 = _
      rw [u2_k _ _ _ (by decide), u2_k _ _ _ (by decide), u2_s]
  have x47 : ((u2 (u2 (u2 (u2 (u2 (u2 T.1 130 25 1) 130 23 (iN (2400 + n))) 130 22 (iN (i + 2400))) 130 46 (iN (oc u))) 130 22 (iN (i + 1 + 2400))) 130 47 1, T.2.1, T.2.2.1, T.2.2.2) : ST).1 130 47 = 1 := u2_s (u2 (u2 (u2 (u2 (u2 T.1 130 25 1) 130 23 (iN (2400 + n))) 130 22 (iN (i + 2400))) 130 46 (iN (oc u))) 130 22 (iN (i + 1 + 2400))) 130 47 1
  generalize ((u2 (u2 (u2 (u2 (u2 (u2 T.1 130 25 1) 130 23 (iN (2400 + n))) 130 22 (iN (i + 2400))) 130 46 (iN (oc u))) 130 22 (iN (i + 1 + 2400))) 130 47 1, T.2.1, T.2.2.1, T.2.2.2) : ST) = X at hX x47
  clear start
  have one : ¬ (1 : Int32) = 0 := by decide
  rw [show (20000 : Nat) = 19997 + 3 from rfl, show 19997 + 3 = (19997 + 2) + 1 from rfl, goesl]
  rcases hA with ⟨u3, y1, y2⟩ | ⟨u2', y1, gA⟩
  · -- pass
    subst u3
    subst y1
    rcases hB with ⟨-, z1, z2⟩ | ⟨z, -⟩
    · subst z1
      rw [if_pos rfl]
      obtain ⟨X', r1, r2, r3, r4, r5, r6⟩ := along_tail x T cd vl cs n hL G P hG hP e1 e2 _ X (i + 1) j a2 a3 t dT hX hj he lv hlv hT (lfX11_goesAlong_130_76 x (19997 + 2)) 0 0 (by decide)
      exact ⟨X', r1, r2, r3, fun hl => ⟨r6 hl, Or.inl ⟨0, 0, fun z => by omega, fun z => by omega, r4.trans x47⟩⟩⟩
    · rcases z with ⟨z, -⟩ | ⟨z, -⟩ <;> omega
  · have n3 : ¬ u = 3 := by omega
    rw [if_neg n3]
    have cj : ∃ cc, cd j1 = iN cc ∧ (cc = 21 ∨ cc = 24 ∨ cc = 26 ∨ cc = 4 ∨ cc = 159 ∨ cc = 0) := by
      rcases hB with ⟨-, z1, z2⟩ | ⟨⟨-, z⟩ | ⟨-, z⟩, -⟩
      · rw [← z1]; exact ⟨tc, tc1, by omega⟩
      · exact ⟨21, z, by omega⟩
      · exact ⟨24, z, by omega⟩
    obtain ⟨cc, cc1, cc2⟩ := cj
    have fA : fol T (2400 + n) (j1 + 2400) := hL.fl (by omega) cc1 (by omega) (by omega) (by omega) (by omega) (by omega) (by omega)
    have m1 : ¬ (if u = 1 then (1 : Int32) else 2) ≤ 0 := by
      by_cases c1 : u = 1
      · rw [if_pos c1]; decide
      · rw [if_neg c1]; decide
    obtain ⟨X1, r1, r2, r3, r4, r5, r6⟩ := along_sum x T cd vl cs n hL G P hG hP e1 e2 _ X (i + 1) j1 hX gA (by omega) fA lv hlv 0 (by omega) (lfX11_goesAlong_130_76 x (19997 + 2)) (if u = 1 then 1 else 2)
    have s1 : bfX11_goesAlong_130_76 x (lfX11_goesAlong_130_76 x (19997 + 2)) X lv (if u = 1 then 1 else 2) 0 = bfX11_goesAlong_130_97 x (lfX11_goesAlong_130_76 x (19997 + 2)) X lv (if u = 1 then 1 else 2) 0 := by
      rw [bfX11_goesAlong_130_76, if_neg m1, if_pos (show (0 : Int32) ≤ 0 by decide)]
    rw [s1, show (0 : Int32) = iN 0 from rfl, r1, show 19997 + 2 = (19997 + 1) + 1 from rfl, goesl]
    rcases hB with ⟨y, z1, z2⟩ | ⟨y, z1, gB⟩
    · have u1 : u = 1 := by omega
      subst u1
      subst z1
      rw [if_pos rfl]
      obtain ⟨X', q1, q2, q3, q4, q5, q6⟩ := along_tail x T cd vl cs n hL G P hG hP e1 e2 _ X1 j2 j a2 a3 t dT r2 hj he lv hlv hT (lfX11_goesAlong_130_76 x (19997 + 1)) 1 (iN (0 + 1)) (by decide)
      refine ⟨X', q1, q2, q3, fun hl => ⟨q6 hl, ?_⟩⟩
      have r7 := r6 hl
      cases hd : dA (oW (T.2.1 132) (T.1 130 27) (T.1 130 28) G P) with
      | none =>
        rw [hd] at r7
        exact Or.inr ⟨Or.inl ⟨by omega, rfl⟩, q4.trans r7⟩
      | some w =>
        rw [hd] at r7
        exact Or.inl ⟨w, 0, fun _ => ⟨rfl, by rw [q5]; exact r7.2⟩, fun z => by omega, q4.trans (r7.1 (by rw [x47]; exact one))⟩
    · have nu1 : ¬ u = 1 := by omega
      rw [if_neg nu1]
      have hX2 := r2.go (j1 + 1 + 2400)
      have s2 : bfX11_goesAlong_130_76 x (lfX11_goesAlong_130_76 x (19997 + 1)) X1 lv 2 (iN (0 + 1)) = bfX11_goesAlong_130_97 x (lfX11_goesAlong_130_76 x (19997 + 1)) (u2 X1.1 130 22 (iN (j1 + 1 + 2400)), X1.2.1, X1.2.2.1, X1.2.2.2) lv 2 (iN 1) := by
        rw [bfX11_goesAlong_130_76, if_neg (show ¬ (2 : Int32) ≤ iN (0 + 1) by decide), if_neg (show ¬ iN (0 + 1) ≤ 0 by decide), r2.1, iN_succ, show j1 + 2400 + 1 = j1 + 1 + 2400 by omega]
      rw [s2]
      have x2 : ((u2 X1.1 130 22 (iN (j1 + 1 + 2400)), X1.2.1, X1.2.2.1, X1.2.2.2) : ST).1 130 47 = X1.1 130 47 := u2_k X1.1 130 (k := 22) (j := 47) (iN (j1 + 1 + 2400)) (by decide)
      have x3 : ((u2 X1.1 130 22 (iN (j1 + 1 + 2400)), X1.2.1, X1.2.2.1, X1.2.2.2) : ST).2.2.1 = X1.2.2.1 := rfl
      generalize ((u2 X1.1 130 22 (iN (j1 + 1 + 2400)), X1.2.1, X1.2.2.1, X1.2.2.2) : ST) = X2 at hX2 x2 x3
      obtain ⟨X3, w1, w2, w3, w4, w5, w6⟩ := along_sum x T cd vl cs n hL G P hG hP e1 e2 _ X2 (j1 + 1) j2 hX2 gB (by omega) fT lv hlv 1 (by omega) (lfX11_goesAlong_130_76 x (19997 + 1)) 2
      rw [w1, goesl]
      obtain ⟨X', q1, q2, q3, q4, q5, q6⟩ := along_tail x T cd vl cs n hL G P hG hP e1 e2 _ X3 j2 j a2 a3 t dT w2 hj he lv hlv hT (lfX11_goesAlong_130_76 x 19997) 2 (iN (1 + 1)) (by decide)
      refine ⟨X', q1, q2, q3, fun hl => ⟨q6 hl, ?_⟩⟩
      have r7 := r6 hl
      have w7 := w6 hl
      rw [x2] at w4 w7
      cases hd : dA (oW (T.2.1 132) (T.1 130 27) (T.1 130 28) G P) with
      | none =>
        rw [hd] at r7
        exact Or.inr ⟨Or.inl ⟨by omega, rfl⟩, q4.trans (w4 r7)⟩
      | some w =>
        rw [hd] at r7
        have o1 : X1.1 130 47 = 1 := r7.1 (by rw [x47]; exact one)
        cases hd2 : dB (oW (T.2.1 132) (T.1 130 27) (T.1 130 28) G P) with
        | none =>
          rw [hd2] at w7
          exact Or.inr ⟨Or.inr ⟨by omega, rfl⟩, q4.trans w7⟩
        | some w' =>
          rw [hd2] at w7
          refine Or.inl ⟨w, w', fun _ => ⟨rfl, ?_⟩, fun _ => ⟨rfl, by rw [q5]; exact w7.2⟩, q4.trans (w7.1 (by rw [o1]; exact one))⟩
          rw [q5, w5 0 (by decide), x3]
          exact r7.2
end GOES
