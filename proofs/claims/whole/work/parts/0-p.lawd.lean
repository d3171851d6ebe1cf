section LAWD
/-- a CLAUSE of a LAW: tokens from i to j; its verb, its SUM, its TEST -/
def LCl (cd vl cs vb bd : Nat → Int32) (Z c i j v : Nat) (dS dT : DN) : Prop :=
  ∃ j1 a0 a1 a2 n k1 k2, v ≤ 2 ∧ cd i = iN (v + 1) ∧ vb c = iN (260 + v) ∧ bd (4 * c) = iN a0 ∧ bd (4 * c + 1) = iN a1 ∧ bd (4 * c + 2) = iN a1 ∧ bd (4 * c + 3) = iN a2 ∧ a2 ≤ Z ∧ a1 ≤ a2 ∧
    ((v = 2 ∧ j1 = i + 1 ∧ dS = fun _ => some 1) ∨ (v ≤ 1 ∧ k1 ≤ 50 ∧ Gr false cd vl cs n 8 2 (i + 1) j1 a0 a1 k1 dS)) ∧
    ((j = j1 ∧ a2 = a1 ∧ dT = fun _ => some 1) ∨ (cd j1 = iN 4 ∧ k2 ≤ 50 ∧ Gr false cd vl cs n 8 6 (j1 + 1) j a1 a2 k2 dT))
/-- the TEXT at t is this LAW: C clauses; N tokens -/
def LawD (x : XT) (S : ST) (t : Nat) (cd vl : Nat → Int32) (N C : Nat) (V : Nat → Nat) (dS dT : Nat → DN) : Prop :=
  tx x t = true ∧ 158 ≤ t ∧ N ≤ 400 ∧ 1 ≤ C ∧ C ≤ 12 ∧ ∃ Z, Z ≤ 400 ∧ mL x (t + 1) = C ∧ mL x (t + 3) = 4 * C ∧ mL x (t + 4) = Z ∧ S.1 t 0 = iN C ∧ S.1 t 1 = iN Z ∧
    ∃ P J : Nat → Nat, P 0 = 0 ∧ (∀ c, c < C → P (c + 1) = J c + 1 ∧ J c ≤ N ∧ LCl cd vl (S.2.1 (t + 4)) (S.2.1 (t + 1)) (S.2.1 (t + 3)) Z c (P c) (J c) (V c) (dS c) (dT c) ∧ (c + 1 < C → J c < N ∧ cd (J c) = iN 159) ∧ (c + 1 = C → J c = N))
/-- what the last CLAUSE of this verb that HOLDS tells -/
def tl (V : Nat → Nat) (dS dT : Nat → DN) (v : Nat) (W : Nat → Int32) : Nat → Option Int32
  | 0 => none
  | c + 1 => if V c = v ∧ dT c W = some 1 then (match dS c W with
    | none => tl V dS dT v W c
    | some r => some r) else tl V dS dT v W c
def cl (hi r : Int32) : Int32 := if 0 < (if hi < r then hi else r) then (if hi < r then hi else r) else 0
def tv (v : Nat) (m : Int32) (r : Option Int32) : Int32 := match v with
  | 0 => (match r with
    | none => if m - 1 < 0 then 0 else m - 1
    | some r => cl 19 r)
  | 1 => (match r with
    | none => 1
    | some r => cl 9 r)
  | _ => (match r with
    | none => 0
    | some _ => 1)
/-- the LAW in FORCE of a State and of a row, as a function -/
def LR (x : XT) (S : ST) (o : Nat) (f : Nat → Int32) (R : Nat → (Nat → Int32) → Option Int32) : Prop :=
  (f 95 = -1 ∧ S.1 o 18 = -1 ∧ R = fun _ _ => none) ∨
  ∃ l t L N C V dS dT, l < L ∧ L ≤ 6 ∧ f 95 = iN l ∧ S.1 o 18 = iN l ∧ S.1 o 16 = iN L ∧ S.2.2.2 (o + 14) l = some t ∧ f (96 + l) = iN N ∧ LawD x S t (fun k => f (103 + 400 * l + k)) (fun k => f (2903 + 400 * l + k)) N C V dS dT ∧ R = fun v W => tl V dS dT v W C
theorem Gr.nb {cd vl cs W : Nat → Int32} {o : Bool} (hW : ∀ w, w < (if o then 24 else 8) → ¬ W w = -2000000000) : ∀ {n dp kd i j a b k : Nat} {d : DN}, Gr o cd vl cs n dp kd i j a b k d → kd ≤ 2 → ∀ r, d W = some r → ¬ r = -2000000000 := by
  have jnb : ∀ op d1 d2 r, jD op d1 d2 W = some r → ¬ r = -2000000000 := by
    intro op d1 d2 r h
    unfold jD at h
    cases h1 : d1 W with
    | none => simp only [h1] at h; cases h
    | some v1 =>
      simp only [h1] at h
      cases h2 : d2 W with
      | none => simp only [h2] at h; cases h
      | some v2 => simp only [h2] at h; exact jn_nb h
  intro n
  induction n with
  | zero => intro dp kd i j a b k d h; exact h.elim
  | succ n ih =>
    intro dp kd i j a b k d h hk r hr
    rcases h with ⟨rfl, h⟩ | ⟨rfl, h⟩ | ⟨rfl, h⟩ | ⟨rfl, h⟩ | ⟨rfl, h⟩ | ⟨rfl, h⟩ | ⟨rfl, h⟩
    · rcases h with ⟨h1, rfl, rfl, rfl, v, h2, h3, h4, rfl⟩ | ⟨w, h1, rfl, rfl, h4, rfl⟩ | ⟨dp', j', h1, rfl, h3, h4, h5⟩
      · cases hr
        intro e
        have := congrArg Int32.toInt e
        rw [iN_int (by omega)] at this
        have h1 : (-2000000000 : Int32).toInt = -2000000000 := by decide
        omega
      · cases hr
        exact hW w (WD_lt h1).1
      · exact ih h5 (by omega) r hr
    · rcases h with h | ⟨m, p, b', k1, k2, d1, d2, op, h1, h2, h3, h4, rfl, h6, rfl, rfl⟩
      · exact ih h (by omega) r hr
      · exact jnb _ _ _ r hr
    · rcases h with h | ⟨m, p, b', k1, k2, d1, d2, op, h1, h2, h3, h4, rfl, h6, rfl, rfl⟩
      · exact ih h (by omega) r hr
      · exact jnb _ _ _ r hr
    · omega
    · omega
    · omega
    · omega
theorem wkT_self (S : ST) : wkT S (S.2.1 22) = S := by
  have e : u1 S.2.1 22 (S.2.1 22) = S.2.1 := by
    funext a
    by_cases h : a = 22
    · subst h; rw [u1_s]
    · rw [u1_n _ _ h]
  unfold wkT
  rw [e]
theorem wkT_wkT (S : ST) (a b : Nat → Int32) : wkT (wkT S a) b = wkT S b := by
  unfold wkT
  dsimp only
  congr 2
  funext c
  by_cases h : c = 22
  · subst h; rw [u1_s, u1_s]
  · rw [u1_n _ _ h, u1_n _ _ h, u1_n _ _ h]
theorem wkT_n (S : ST) (st : Nat → Int32) {a : Nat} (h : a ≠ 22) : (wkT S st).2.1 a = S.2.1 a := u1_n _ _ h
set_option maxRecDepth 4000 in
theorem reckT (x : XT) (S : ST) (t : Nat) (hx : tx x t = true) (ht : 158 ≤ t) (Z B : Nat) (hZ : mL x (t + 4) = Z) (hB : mL x (t + 3) = B) (hB2 : B ≤ 48) (hZ2 : Z ≤ 400) (hsz : S.1 t 1 = iN Z) (c w a b : Nat) (hc : 4 * c + w + 1 < B) (hb1 : S.2.1 (t + 3) (4 * c + w) = iN a) (hb2 : S.2.1 (t + 3) (4 * c + w + 1) = iN b) (hbZ : b ≤ Z) {cd vl : Nat → Int32} {n dp kd i j k : Nat} {d : DN} (h : Gr false cd vl (S.2.1 (t + 4)) n dp kd i j a b k d) (hk : k ≤ 50) :
    ∃ st', gfX9_reckon_T_21_22 x S t (iN c) (iN w) = some ((d (S.2.1 21)).getD (-2000000000), wkT S st') := by
  have M := smT x S t hx ht Z hZ b hbZ hZ2
  obtain ⟨g1, g2, g3, g4⟩ := Gr.ok (o := false) M (by omega) h
  obtain ⟨f', st', e1, e2, e3⟩ := g4 (Nat.le_refl _) 20000 (S.2.1 22) 0 (by omega) (by omega)
  have e4 : (4 * iN c + iN w : Int32) = iN (4 * c + w) := by
    rw [show (4 : Int32) = iN 4 from rfl, iN_mul, iN_add]
  have e5 : (if S.1 t 1 < S.2.1 (t + 3) (4 * c + w + 1) then S.1 t 1 else S.2.1 (t + 3) (4 * c + w + 1)) = iN b := by
    rw [hsz, hb2]
    exact if_neg (fun h => by have := (iN_lt (by omega) (by omega)).mp h; omega)
  have start : gfX9_reckon_T_21_22 x S t (iN c) (iN w) = lfX9_reckon_T_21_22_36 x 20000 S t (iN b) (tI 0) (iN a) := by
    unfold gfX9_reckon_T_21_22 bfX9_reckon_T_21_22_0
    rw [hx, cond_true, hB, e4, iN_succ, inb_t hc (by omega), cond_true, inb_t (show 4 * c + w < B by omega) (by omega), cond_true, iN_nat (by omega), iN_nat (by omega), e5, hb1]
    rfl
  rw [start]
  cases hd : d (S.2.1 21) with
  | none =>
    rw [hd] at e3
    have e3 : lfX9_reckon_T_21_22_36 x 20000 (wkT S (S.2.1 22)) t (iN b) (tI 0) (iN a) = some (-2000000000, wkT S st') := e3
    rw [wkT_self] at e3
    exact ⟨st', e3⟩
  | some v =>
    rw [hd] at e3
    obtain ⟨e6, e7⟩ := e3
    have e7 : lfX9_reckon_T_21_22_36 x 20000 (wkT S (S.2.1 22)) t (iN b) (tI 0) (iN a) = lfX9_reckon_T_21_22_36 x f' (wkT S st') t (iN b) (tI (0 + 1)) (iN b) := e7
    rw [wkT_self] at e7
    refine ⟨st', ?_⟩
    rw [e7]
    obtain ⟨f', rfl⟩ : ∃ z, f' = z + 1 := ⟨f' - 1, by omega⟩
    show bfX9_reckon_T_21_22_36 x (lfX9_reckon_T_21_22_36 x f') (wkT S st') t (iN b) (tI (0 + 1)) (iN b) = _
    unfold bfX9_reckon_T_21_22_36 bfX9_reckon_T_21_22_298
    rw [hx, cond_true, if_pos (Int32.le_refl _), tI_p, if_neg (fun h => h (show iN 0 = 0 from rfl))]
    rw [show (wkT S st').2.1 22 0 = st' 0 by unfold wkT; dsimp only; rw [u1_s], e6]
    rfl
end LAWD
