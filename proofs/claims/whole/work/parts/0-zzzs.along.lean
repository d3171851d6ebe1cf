section ALONG
/-- where the reference stands along its ORDERS -/
def GK (T : ST) (E : Nat) (cq : Int32) (X : ST) (g : Nat) : Prop := X.1 130 22 = iN g ∧ X.1 130 23 = iN E ∧ X.1 130 25 = 1 ∧ X.1 130 27 = T.1 130 27 ∧ X.1 130 28 = T.1 130 28 ∧ X.1 130 46 = cq ∧ X.2.1 = T.2.1
theorem GK.gm {T : ST} {E : Nat} {cq : Int32} {X : ST} {g : Nat} (h : GK T E cq X g) (g' : Nat) (b : Int32) : GK T E cq (ge X g' b) g' := by
  obtain ⟨h1, h2, h3, h4, h5, h6, h7⟩ := h
  exact ⟨ge_22 X g' b, (ge_o X g' b (by decide) (by decide)).trans h2, (ge_o X g' b (by decide) (by decide)).trans h3, (ge_o X g' b (by decide) (by decide)).trans h4, (ge_o X g' b (by decide) (by decide)).trans h5, (ge_o X g' b (by decide) (by decide)).trans h6, h7⟩
theorem GK.f {T : ST} {E : Nat} {cq : Int32} {X : ST} {g : Nat} (h : GK T E cq X g) (k : Nat) (v : Int32) (J : Nat → Nat → Int64) (hk : k = 24 ∨ k = 45 ∨ k = 47 ∨ k = 48) : GK T E cq (u2 X.1 130 k v, X.2.1, J, X.2.2.2) g := by
  obtain ⟨h1, h2, h3, h4, h5, h6, h7⟩ := h
  exact ⟨(u2_k X.1 130 v (by omega)).trans h1, (u2_k X.1 130 v (by omega)).trans h2, (u2_k X.1 130 v (by omega)).trans h3, (u2_k X.1 130 v (by omega)).trans h4, (u2_k X.1 130 v (by omega)).trans h5, (u2_k X.1 130 v (by omega)).trans h6, h7⟩
theorem GK.go {T : ST} {E : Nat} {cq : Int32} {X : ST} {g : Nat} (h : GK T E cq X g) (g' : Nat) : GK T E cq (u2 X.1 130 22 (iN g'), X.2.1, X.2.2.1, X.2.2.2) g' := by
  obtain ⟨h1, h2, h3, h4, h5, h6, h7⟩ := h
  exact ⟨u2_s X.1 130 22 (iN g'), (u2_k X.1 130 (k := 22) (iN g') (by decide)).trans h2, (u2_k X.1 130 (k := 22) (iN g') (by decide)).trans h3, (u2_k X.1 130 (k := 22) (iN g') (by decide)).trans h4, (u2_k X.1 130 (k := 22) (iN g') (by decide)).trans h5, (u2_k X.1 130 (k := 22) (iN g') (by decide)).trans h6, h7⟩
theorem GK.hw {T : ST} {E : Nat} {cq : Int32} {X : ST} {g : Nat} (h : GK T E cq X g) (x : XT) (G P : Nat) (hG : G ≤ 10) (hP : P ≤ 5) (e1 : T.2.1 132 91 = iN G) (e2 : T.2.1 132 92 = iN P) : HW x true X (oW (T.2.1 132) (T.1 130 27) (T.1 130 28) G P) := by
  obtain ⟨h1, h2, h3, h4, h5, h6, h7⟩ := h
  have := HW_of x X G P hG hP (by rw [h7]; exact e1) (by rw [h7]; exact e2) h3
  rw [h4, h5, h7] at this
  exact this
/-- the ORDERS that lie in the reference's row -/
def Ld (f cd vl : Nat → Int32) (n : Nat) : Prop := n ≤ 400 ∧ cd n = iN 0 ∧ ∀ z, z < n → f (2503 + z) = cd z ∧ f (5303 + z) = vl z
theorem Ld.at' {X : ST} {cd vl : Nat → Int32} {n : Nat} (h : Ld (X.2.1 132) cd vl n) {z : Nat} (hz : z ≤ n) : ec X (2400 + n) (z + 2400) = cd z := by
  unfold ec
  by_cases c : z < n
  · rw [if_pos (by omega), show 103 + (z + 2400) = 2503 + z by omega]
    exact (h.2.2 z c).1
  · have : z = n := by omega
    rw [if_neg (by omega), this, h.2.1]
    rfl
theorem Ld.gr {X : ST} {cd vl cs : Nat → Int32} {n : Nat} (h : Ld (X.2.1 132) cd vl n) {N dp kd i j a b k : Nat} {d : DN} (g : Gr true cd vl cs N dp kd i j a b k d) (hj : j ≤ n) : Gr true (cdT X) (vlT X) cs N dp kd (i + 2400) (j + 2400) a b k d := by
  refine g.mv 2400 (fun z z1 z2 => ?_) (fun z _ _ => rfl)
  show X.2.1 132 (103 + (z + 2400)) = cd z ∧ X.2.1 132 (2903 + (z + 2400)) = vl z
  rw [show 103 + (z + 2400) = 2503 + z by omega, show 2903 + (z + 2400) = 5303 + z by omega]
  exact h.2.2 z (by omega)
theorem Ld.fl {X : ST} {cd vl : Nat → Int32} {n : Nat} (h : Ld (X.2.1 132) cd vl n) {z c : Nat} (hz : z ≤ n) (hc : cd z = iN c) (c0 : c < 1000) (h1 : c ≠ 142) (h2 : c ≠ 147) (h3 : c ≠ 137) (h4 : c ≠ 143) (h5 : c ≠ 145) : fol X (2400 + n) (z + 2400) := fol_of ((h.at' hz).trans hc) c0 h1 h2 h3 h4 h5
/-- what a walk along the SUMS left -/
def SumO (lv : Int32) (d : Option Int32) (v : Nat) (X X' : ST) : Prop := (X'.1 130 47 = 0 ∨ X'.1 130 47 = 1) ∧ (X.1 130 47 = 0 → X'.1 130 47 = 0) ∧ (∀ z, z ≠ v → X'.2.2.1 156 z = X.2.2.1 156 z) ∧ (lv = 1 → match d with
    | none => X'.1 130 47 = 0
    | some w => (¬ X.1 130 47 = 0 → X'.1 130 47 = 1) ∧ X'.2.2.1 156 v = w.toInt64)
set_option maxRecDepth 4000 in
theorem along_sum (x : XT) (T : ST) (cd vl cs : Nat → Int32) (n : Nat) (hL : Ld (T.2.1 132) cd vl n) (G P : Nat) (hG : G ≤ 10) (hP : P ≤ 5) (e1 : T.2.1 132 91 = iN G) (e2 : T.2.1 132 92 = iN P) (cq : Int32) (X : ST) (i j : Nat) (hX : GK T (2400 + n) cq X (i + 2400)) {N a b k : Nat} {d : DN} (g : Gr true cd vl cs N 8 2 i j a b k d) (hj : j ≤ n) (hf : fol T (2400 + n) (j + 2400)) (lv : Int32) (hlv : lv = 0 ∨ lv = 1) (v : Nat) (hv : v < 2) (K : ST → Int32 → Int32 → Int32 → Option (Unit × ST)) (m : Int32) :
    ∃ X', bfX11_goesAlong_130_97 x K X lv m (iN v) = K X' lv m (iN (v + 1)) ∧ GK T (2400 + n) cq X' (j + 2400) ∧ SumO lv (d (oW (T.2.1 132) (T.1 130 27) (T.1 130 28) G P)) v X X' := by
  have hn := hL.1
  have hij := g.lt.1
  have hY : GK T (2400 + n) cq (u2 X.1 130 24 0, X.2.1, X.2.2.1, X.2.2.2) (i + 2400) := hX.f 24 0 _ (Or.inl rfl)
  have y24 : (u2 X.1 130 24 0) 130 24 = 0 := u2_s _ _ _ _
  have y47 : (u2 X.1 130 24 0) 130 47 = X.1 130 47 := u2_k _ _ _ (by decide)
  unfold bfX11_goesAlong_130_97 bfX11_goesAlong_130_133 bfX11_goesAlong_130_134
  have yJ : ((u2 X.1 130 24 0, X.2.1, X.2.2.1, X.2.2.2) : ST).2.2.1 = X.2.2.1 := rfl
  generalize hYd : ((u2 X.1 130 24 0, X.2.1, X.2.2.1, X.2.2.2) : ST) = Y at hY yJ
  have y24 : Y.1 130 24 = 0 := by rw [← hYd]; exact y24
  have y47 : Y.1 130 47 = X.1 130 47 := by rw [← hYd]; exact y47
  have hY7 := hY.2.2.2.2.2.2
  have hLY : Ld (Y.2.1 132) cd vl n := by rw [hY7]; exact hL
  have hfY : fol Y (2400 + n) (j + 2400) := by
    unfold fol nomul noadd ec at hf ⊢
    rw [hY7]; exact hf
  obtain ⟨r, br, q1, q2⟩ := refSum x true Y _ (hY.hw x G P hG hP e1 e2) (2400 + n) hY.2.1 (by omega) cs lv hlv (hLY.gr g hj) (by omega) (by omega) (by omega) hfY.1 hfY.2 0 (Or.inl rfl)
  rw [ge_self hY.1 y24] at q1
  rw [q1]
  have hZ := hY.gm (j + 2400) br
  have z24 := ge_24 Y (j + 2400) br
  have z47 : (ge Y (j + 2400) br).1 130 47 = X.1 130 47 := (ge_o Y _ br (by decide) (by decide)).trans y47
  have zJ : (ge Y (j + 2400) br).2.2.1 = X.2.2.1 := yJ
  generalize ge Y (j + 2400) br = Z at hZ z24 z47 zJ
  dsimp only
  rw [inb_t hv (by omega), cond_true, iN_nat (by omega), z47, z24, iN_succ]
  have fin : ∀ t : Int32, (t = 0 ∨ t = 1) → (X.1 130 47 = 0 → t = 0) → (lv = 1 → br = 1 → t = 0) → (br = 0 → ¬ X.1 130 47 = 0 → t = 1) → GK T (2400 + n) cq (u2 Z.1 130 47 t, Z.2.1, u2 Z.2.2.1 156 v r, Z.2.2.2) (j + 2400) ∧ SumO lv (d (oW (T.2.1 132) (T.1 130 27) (T.1 130 28) G P)) v X (u2 Z.1 130 47 t, Z.2.1, u2 Z.2.2.1 156 v r, Z.2.2.2) := by
    intro t t1 t2 t3 t4
    have s47 : ((u2 Z.1 130 47 t, Z.2.1, u2 Z.2.2.1 156 v r, Z.2.2.2) : ST).1 130 47 = t := u2_s Z.1 130 47 t
    have s156 : ((u2 Z.1 130 47 t, Z.2.1, u2 Z.2.2.1 156 v r, Z.2.2.2) : ST).2.2.1 156 v = r := u2_s Z.2.2.1 156 v r
    refine ⟨hZ.f 47 t _ (Or.inr (Or.inr (Or.inl rfl))), ?_, ?_, fun z hz => ?_, fun hl => ?_⟩
    · rw [s47]; exact t1
    · rw [s47]; exact t2
    · show u2 Z.2.2.1 156 v r 156 z = _
      rw [u2_k _ _ _ hz, zJ]
    · have q3 := q2.2.1 hl rfl
      rw [s47, s156]
      cases hd : d (oW (T.2.1 132) (T.1 130 27) (T.1 130 28) G P) with
      | none =>
        rw [hd] at q3
        exact t3 hl q3
      | some w =>
        rw [hd] at q3
        exact ⟨t4 q3.1, q3.2⟩
  by_cases c1 : X.1 130 47 = 0
  · rw [if_pos c1, show bbz 0 = true from rfl, cond_true]
    exact ⟨_, rfl, fin 0 (Or.inl rfl) (fun _ => rfl) (fun _ _ => rfl) (fun _ z => absurd c1 z)⟩
  · rw [if_neg c1]
    by_cases c2 : br = 0
    · rw [if_neg (fun z => z c2), show bbz 1 = true from rfl, cond_true]
      exact ⟨_, rfl, fin 1 (Or.inr rfl) (fun z => absurd z c1) (fun _ z => by rw [c2] at z; exact absurd z (by decide)) (fun _ _ => rfl)⟩
    · rw [if_pos c2, show bbz 0 = true from rfl, cond_true]
      exact ⟨_, rfl, fin 0 (Or.inl rfl) (fun _ => rfl) (fun _ _ => rfl) (fun z => absurd z c2)⟩
/-- what a walk along the rest left -/
def TailR (lv : Int32) (d : Option Int32) (t : Nat) (X X' : ST) : Prop := X'.1 130 45 = iN t ∧ X'.1 130 47 = X.1 130 47 ∧ X'.2.2.1 = X.2.2.1 ∧ (lv = 1 → X'.1 130 48 = if d = some 1 then 1 else 0)
theorem along_end (x : XT) (T : ST) (E : Nat) (cq : Int32) (X : ST) (g : Nat) (hX : GK T E cq X g) (t : Int32) (ht : t = 0 ∨ t = 1) : ∃ X', bfX11_goesAlong_130_211 x X t = some ((), X') ∧ GK T E cq X' (g + 1) ∧ X'.1 130 45 = X.1 130 45 ∧ X'.1 130 47 = X.1 130 47 ∧ X'.2.2.1 = X.2.2.1 ∧ X'.1 130 48 = (if t = 0 then 0 else if ¬ X.1 130 24 = 0 then 0 else 1) := by
  have fin : ∀ t' : Int32, ∃ X', ((u2 (u2 (u2 X.1 130 48 t) 130 48 t') 130 22 ((u2 X.1 130 48 t) 130 22 + 1), X.2.1, X.2.2.1, X.2.2.2) : ST) = X' ∧ GK T E cq X' (g + 1) ∧ X'.1 130 45 = X.1 130 45 ∧ X'.1 130 47 = X.1 130 47 ∧ X'.2.2.1 = X.2.2.1 ∧ X'.1 130 48 = t' := by
    intro t'
    refine ⟨_, rfl, ?_, ?_, ?_, rfl, ?_⟩
    · rw [u2_k X.1 130 t (show 22 ≠ 48 by decide), hX.1, iN_succ]
      exact ((hX.f 48 t _ (by omega)).f 48 t' _ (by omega)).go (g + 1)
    · show u2 (u2 (u2 X.1 130 48 t) 130 48 t') 130 22 ((u2 X.1 130 48 t) 130 22 + 1) 130 45 = _
      rw [u2_k _ _ _ (by decide), u2_k _ _ _ (by decide), u2_k _ _ _ (by decide)]
    · show u2 (u2 (u2 X.1 130 48 t) 130 48 t') 130 22 ((u2 X.1 130 48 t) 130 22 + 1) 130 47 = _
      rw [u2_k _ _ _ (by decide), u2_k _ _ _ (by decide), u2_k _ _ _ (by decide)]
    · show u2 (u2 (u2 X.1 130 48 t) 130 48 t') 130 22 ((u2 X.1 130 48 t) 130 22 + 1) 130 48 = _
      rw [u2_k _ _ _ (by decide), u2_s]
  unfold bfX11_goesAlong_130_211 bfX11_goesAlong_130_233 bfX11_goesAlong_130_234
  rcases ht with rfl | rfl
  · rw [show bbz 0 = true from rfl, cond_true, if_pos rfl, cond_true, if_pos rfl]
    obtain ⟨X', r1, r2⟩ := fin 0
    exact ⟨X', by rw [← r1], r2⟩
  · rw [show bbz 1 = true from rfl, show bbz 0 = true from rfl, cond_true, if_neg (show ¬ (1 : Int32) = 0 by decide), cond_true, cond_true, if_neg (show ¬ (1 : Int32) = 0 by decide)]
    by_cases c : X.1 130 24 = 0
    · rw [if_neg (fun z => z c), if_neg (fun z => z c)]
      obtain ⟨X', r1, r2⟩ := fin 1
      exact ⟨X', by rw [← r1], r2⟩
    · rw [if_pos c, if_pos c]
      obtain ⟨X', r1, r2⟩ := fin 0
      exact ⟨X', by rw [← r1], r2⟩
set_option maxRecDepth 4000 in
theorem along_test (x : XT) (T : ST) (cd vl cs : Nat → Int32) (n : Nat) (hL : Ld (T.2.1 132) cd vl n) (G P : Nat) (hG : G ≤ 10) (hP : P ≤ 5) (e1 : T.2.1 132 91 = iN G) (e2 : T.2.1 132 92 = iN P) (cq : Int32) (X : ST) (j3 j a b : Nat) (dT : DN) (hX : GK T (2400 + n) cq X (j3 + 2400)) (hj : j ≤ n) (he : cd j = iN 159 ∨ j = n) (lv : Int32) (hlv : lv = 0 ∨ lv = 1)
    (h : (j = j3 ∧ b = a ∧ (dT = fun _ => some 1) ∧ ¬ cd j3 = iN 4) ∨ ∃ N k3, cd j3 = iN 4 ∧ k3 ≤ 50 ∧ Gr true cd vl cs N 8 6 (j3 + 1) j a b k3 dT) :
    ∃ X', bfX11_goesAlong_130_184 x X lv = some ((), X') ∧ GK T (2400 + n) cq X' (j + 2401) ∧ X'.1 130 45 = X.1 130 45 ∧ X'.1 130 47 = X.1 130 47 ∧ X'.2.2.1 = X.2.2.1 ∧ (lv = 1 → X'.1 130 48 = if dT (oW (T.2.1 132) (T.1 130 27) (T.1 130 28) G P) = some 1 then 1 else 0) := by
  have hn := hL.1
  have hY : GK T (2400 + n) cq (u2 X.1 130 24 0, X.2.1, X.2.2.1, X.2.2.2) (j3 + 2400) := hX.f 24 0 _ (Or.inl rfl)
  have y24 : (u2 X.1 130 24 0) 130 24 = 0 := u2_s _ _ _ _
  have y45 : (u2 X.1 130 24 0) 130 45 = X.1 130 45 := u2_k _ _ _ (by decide)
  have y47 : (u2 X.1 130 24 0) 130 47 = X.1 130 47 := u2_k _ _ _ (by decide)
  unfold bfX11_goesAlong_130_184 bfX11_goesAlong_130_206
  have yJ : ((u2 X.1 130 24 0, X.2.1, X.2.2.1, X.2.2.2) : ST).2.2.1 = X.2.2.1 := rfl
  generalize hYd : ((u2 X.1 130 24 0, X.2.1, X.2.2.1, X.2.2.2) : ST) = Y at hY yJ
  have y24 : Y.1 130 24 = 0 := by rw [← hYd]; exact y24
  have y45 : Y.1 130 45 = X.1 130 45 := by rw [← hYd]; exact y45
  have y47 : Y.1 130 47 = X.1 130 47 := by rw [← hYd]; exact y47
  have hY7 := hY.2.2.2.2.2.2
  have hLY : Ld (Y.2.1 132) cd vl n := by rw [hY7]; exact hL
  have j3n : j3 ≤ n := by
    rcases h with ⟨z, -⟩ | ⟨N, k3, -, -, g⟩
    · omega
    · have := g.lt.1; omega
  have ps := passes_eq x Y (2400 + n) hY.2.1 (by omega) (j3 + 2400) 0 (by omega) 4
  rw [ge_self hY.1 y24, hLY.at' j3n] at ps
  rw [ps]
  rcases h with ⟨z1, z2, z3, z4⟩ | ⟨N, k3, z1, z2, g⟩
  · rw [if_neg (show ¬ cd j3 = 4 from z4)]
    dsimp only
    rw [if_pos (show (0 : Int32) = 0 from rfl)]
    obtain ⟨X', r1, r2, r3, r4, r5, r6⟩ := along_end x T _ cq Y _ hY 1 (Or.inr rfl)
    refine ⟨X', r1, by rw [z1]; exact r2, r3.trans y45, r4.trans y47, r5.trans yJ, fun _ => ?_⟩
    rw [r6, z3, if_neg (show ¬ (1 : Int32) = 0 by decide), if_neg (fun z => z y24)]
    rfl
  · rw [if_pos (show cd j3 = 4 from z1)]
    dsimp only
    rw [if_neg (show ¬ (1 : Int32) = 0 by decide)]
    have fo : fol Y (2400 + n) (j + 2400) ∧ ¬ ec Y (2400 + n) (j + 2400) = iN 6 ∧ ¬ ec Y (2400 + n) (j + 2400) = iN 5 := by
      rcases he with he | he
      · refine ⟨hLY.fl hj he (by omega) (by omega) (by omega) (by omega) (by omega) (by omega), ?_, ?_⟩
        · rw [hLY.at' hj, he]; decide
        · rw [hLY.at' hj, he]; decide
      · have he : cd j = iN 0 := by rw [he]; exact hL.2.1
        refine ⟨hLY.fl hj he (by omega) (by omega) (by omega) (by omega) (by omega) (by omega), ?_, ?_⟩
        · rw [hLY.at' hj, he]; decide
        · rw [hLY.at' hj, he]; decide
    have hg := hLY.gr g hj
    rw [show j3 + 1 + 2400 = j3 + 2400 + 1 by omega] at hg
    have hjl := g.lt.1
    obtain ⟨r, br, q1, q2⟩ := refTest x true Y _ (hY.hw x G P hG hP e1 e2) (2400 + n) hY.2.1 (by omega) cs lv hlv hg (by omega) (by omega) (by omega) fo.1 fo.2.1 fo.2.2 0 (Or.inl rfl)
    rw [q1]
    dsimp only
    have hZ := hY.gm (j + 2400) br
    have z24 := ge_24 Y (j + 2400) br
    have z45 : (ge Y (j + 2400) br).1 130 45 = X.1 130 45 := (ge_o Y _ br (by decide) (by decide)).trans y45
    have z47 : (ge Y (j + 2400) br).1 130 47 = X.1 130 47 := (ge_o Y _ br (by decide) (by decide)).trans y47
    have zJ : (ge Y (j + 2400) br).2.2.1 = X.2.2.1 := yJ
    generalize ge Y (j + 2400) br = Z at hZ z24 z45 z47 zJ
    have fin : ∀ t : Int32, t = r → ∃ X', bfX11_goesAlong_130_211 x Z t = some ((), X') ∧ GK T (2400 + n) cq X' (j + 2401) ∧ X'.1 130 45 = X.1 130 45 ∧ X'.1 130 47 = X.1 130 47 ∧ X'.2.2.1 = X.2.2.1 ∧ (lv = 1 → X'.1 130 48 = if dT (oW (T.2.1 132) (T.1 130 27) (T.1 130 28) G P) = some 1 then 1 else 0) := by
      intro t ht
      obtain ⟨X', r1, r2, r3, r4, r5, r6⟩ := along_end x T _ cq Z _ hZ t (by rw [ht]; exact q2.1)
      refine ⟨X', r1, r2, r3.trans z45, r4.trans z47, r5.trans zJ, fun hl => ?_⟩
      have q3 := q2.2.2.1 hl rfl
      rw [r6, z24, ht]
      cases hd : dT (oW (T.2.1 132) (T.1 130 27) (T.1 130 28) G P) with
      | none =>
        rw [hd] at q3
        have q3 : br = 1 := q3
        rw [q3, if_pos (show ¬ (1 : Int32) = 0 by decide), if_neg (show ¬ (none : Option Int32) = some 1 by simp)]
        by_cases c : r = 0
        · rw [if_pos c]
        · rw [if_neg c]
      | some w =>
        rw [hd] at q3
        have q3 : br = 0 ∧ r = w := q3
        rw [q3.1, if_neg (show ¬ ¬ (0 : Int32) = 0 from fun z => z rfl), ← q3.2]
        rcases q2.1 with c | c
        · rw [c]; rfl
        · rw [c]; rfl
    rcases q2.1 with c | c
    · rw [if_pos c]; exact fin 0 c.symm
    · rw [if_neg (by rw [c]; decide)]; exact fin 1 c.symm
end ALONG
