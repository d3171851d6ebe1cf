section REL
/-! what holds between the class's cells (in S) and the reference's cells (in T) -/
def KA (S : ST) (o : Nat) (f : Nat → Int32) : Prop :=
  S.1 o 0 = f 91 ∧ S.1 o 6 = f 92 ∧ S.1 o 11 = f 93 ∧ S.1 o 16 = f 94 ∧ S.1 o 18 = f 95 ∧
  (∀ g, g < 10 → S.2.1 (o + 1) g = f (36 + g) ∧ S.2.1 (o + 2) g = f (46 + g) ∧ S.2.1 (o + 3) g = f (56 + g) ∧ S.2.1 (o + 4) g = f (15 + g) ∧ S.2.1 (o + 5) g = f (25 + g)) ∧
  (∀ p, p < 5 → S.2.1 (o + 6) p = f p ∧ S.2.1 (o + 7) p = f (5 + p) ∧ S.2.1 (o + 8) p = f (66 + p) ∧ S.2.1 (o + 9) p = f (10 + p)) ∧
  (∀ s, s < 6 → S.2.1 (o + 10) s = f (71 + 3 * s) ∧ S.2.1 (o + 11) s = f (72 + 3 * s) ∧ S.2.1 (o + 12) s = f (73 + 3 * s)) ∧
  S.2.1 (o + 13) 0 = f 35 ∧ S.2.1 (o + 13) 1 = f 89 ∧ S.2.1 (o + 13) 2 = f 90
/-- what hands move, within its bounds -/
def MW (f : Nat → Int32) : Prop :=
  (∀ p, p < 5 → inb (f p) 6 = true ∧ inb (f (5 + p)) 20 = true ∧ inb (f (10 + p)) 10000 = true) ∧
  (∀ g, g < 10 → inb (f (15 + g)) 10 = true ∧ inb (f (25 + g)) 2 = true) ∧ inb (f 35) 1000 = true
def WF (f : Nat → Int32) : Prop :=
  MW f ∧ inb (f 91) 11 = true ∧ inb (f 92) 6 = true ∧ inb (f 93) 7 = true ∧ inb (f 94) 7 = true ∧ (f 95 = -1 ∨ ∃ l L, f 95 = iN l ∧ f 94 = iN L ∧ l < L ∧ L ≤ 6) ∧
  (∀ g, g < 10 → inb (f (36 + g)) 6 = true ∧ inb (f (46 + g)) 6 = true ∧ inb (f (56 + g)) 8 = true) ∧
  (∀ p, p < 5 → inb (f (66 + p)) 4 = true) ∧
  (∀ s, s < 6 → inb (f (71 + 3 * s)) 10 = true ∧ inb (f (72 + 3 * s)) 20 = true ∧ inb (f (73 + 3 * s)) 20 = true) ∧
  inb (f 89) 11 = true ∧ inb (f 90) 10 = true
def KT (x : XT) (S : ST) (o : Nat) (f : Nat → Int32) : Prop :=
  (∀ l, l < 6 → qk x (S.2.2.2 (o + 14) l) = true) ∧
  ∀ l L, f 94 = iN L → L ≤ 6 → l < L → ∃ t N C V dS dT, S.2.2.2 (o + 14) l = some t ∧ f (96 + l) = iN N ∧ LawD x S t (fun k => f (103 + 400 * l + k)) (fun k => f (2903 + 400 * l + k)) N C V dS dT
def RK (x : XT) (S : ST) (o : Nat) (f : Nat → Int32) : Prop := KA S o f ∧ WF f ∧ KT x S o f
theorem RK.lr {x : XT} {S : ST} {o : Nat} {f : Nat → Int32} (h : RK x S o f) : ∃ R, LR x S o f R := by
  obtain ⟨hA, hW, hT⟩ := h
  rcases hW.2.2.2.2.2.1 with e | ⟨l, L, e1, e2, e3, e4⟩
  · exact ⟨_, Or.inl ⟨e, hA.2.2.2.2.1.trans e, rfl⟩⟩
  · obtain ⟨t, N, C, V, dS, dT, q1, q2, q3⟩ := hT.2 l L e2 e4 e3
    exact ⟨_, Or.inr ⟨l, t, L, N, C, V, dS, dT, e3, e4, e1, hA.2.2.2.2.1.trans e1, hA.2.2.2.1.trans e2, q1, q2, q3, rfl⟩⟩
/-- a step that can be undone: r the class's row, w the reference's word, A what was ahead, B what was behind -/
def UStep (r : Nat → Int32) (w : Int32) (G P : Nat) (A B : Nat → Int32) : Prop :=
  (∃ p, p < P ∧ w = 0 ∧ r 0 = 263 ∧ r 1 = iN p ∧ A p = r 2 ∧ A (5 + p) = r 3 ∧ A (10 + p) = r 4 ∧ ∀ i, i < 36 → i ≠ p → i ≠ 5 + p → i ≠ 10 + p → A i = B i) ∨
  (∃ g, g < G ∧ w = 1 ∧ r 0 = 264 ∧ r 1 = iN g ∧ A (25 + g) = 1 - B (25 + g) ∧ ∀ i, i < 36 → i ≠ 25 + g → A i = B i) ∨
  (∃ g, g < G ∧ w = 2 ∧ r 0 = 265 ∧ r 1 = iN g ∧ A (15 + g) = r 2 ∧ ∀ i, i < 36 → i ≠ 15 + g → A i = B i) ∨
  (w = 3 ∧ r 0 = 266 ∧ A 35 = B 35 - 1 ∧ ∀ i, i < 36 → i ≠ 35 → A i = B i)
/-- the rows of the class (u) and of the reference (v) for n steps, the latest of which came to f -/
def UR (u v f : Nat → Int32) (n : Nat) : Prop :=
  ∀ k, k < n → MW (fun i => v (37 * k + i)) ∧ ∀ G P, f 91 = iN G → G ≤ 10 → f 92 = iN P → P ≤ 5 → UStep (fun i => u (5 * k + i)) (v (37 * k + 36)) G P (fun i => v (37 * k + i)) (fun i => if k + 1 < n then v (37 * (k + 1) + i) else f i)
def rwB : List Int32 := [116, 117, 114, 110, 115, 32, 112, 97, 121, 115, 32, 98, 97, 114, 115, 32, 105, 102, 32, 111, 114, 32, 97, 110, 100, 32, 110, 111, 116, 32, 107, 105, 110, 100, 32, 104, 117, 114, 114, 121, 32, 103, 97, 116, 101, 32, 103, 111, 101, 114, 32, 109, 111, 111, 100, 32, 97, 114, 109, 32, 109, 97, 110, 121, 32, 100, 97, 121, 32, 100, 111, 110, 101, 32, 108, 97, 116, 101, 115, 116, 32, 119, 104, 111, 108, 101, 32, 112, 97, 114, 107, 32, 103, 111, 32, 98, 121, 32, 108, 97, 116, 99, 104, 32, 115, 101, 116, 32, 97, 115, 32, 112, 97, 115, 115, 32, 116, 105, 109, 101, 115, 32]
def RelI (x : XT) (S T : ST) : Prop := ∀ k, k < 2 → S.2.1 17 k = T.2.1 134 k ∧ S.2.2.2 16 k = some (100 + 15 * k) ∧ (T.2.1 134 k = 0 ∨ T.2.1 134 k = 1) ∧ (T.2.1 134 k = 1 → RK x S (100 + 15 * k) (fun i => T.2.1 133 (5703 * k + i)))
def RelT (S T : ST) : Prop := (∃ n, n ≤ 400 ∧ S.1 18 1 = iN n ∧ T.1 130 13 = iN n) ∧ ∀ i, i < 400 → inb (S.2.1 19 i) 256 = true ∧ T.2.1 137 i = (S.2.1 19 i).toInt8.toInt32
def RelS (S T : ST) : Prop := (∀ k, k < 7 → S.2.1 99 k = T.2.1 131 k) ∧ S.1 0 12 = T.1 130 0
def RelM (S T : ST) : Prop := S.1 0 13 = T.1 130 14 ∧ S.1 0 14 = T.1 130 43 ∧ S.1 0 15 = T.1 130 6
def RelU (S T : ST) : Prop := ∃ n, n ≤ 16 ∧ S.1 33 0 = iN n ∧ T.1 130 31 = iN n ∧ UR (S.2.1 34) (T.2.1 143) (T.2.1 132) n
def RelD (S T : ST) : Prop := (S.1 84 6 = 0 ∧ T.1 130 51 = -1) ∨ (∃ n, n ≤ 5 ∧ S.1 84 6 = iN n ∧ T.1 130 51 = iN n ∧ ∀ p, p < 5 → S.2.1 90 p = T.2.1 157 p ∧ S.2.1 91 p = T.2.1 157 (5 + p) ∧ S.2.1 93 p = T.2.1 157 (10 + p))
def RelC (T : ST) : Prop := ∀ k, k < 122 → T.2.1 136 k = rwB.getD k 0
def Rel (x : XT) (S T : ST) : Prop := RK x S 1 (T.2.1 132) ∧ RelI x S T ∧ RelT S T ∧ RelS S T ∧ RelM S T ∧ RelU S T ∧ RelD S T ∧ RelC T
/-! the same in the cells of a list, and in all that came later -/
def Sm (L : WS) (S S' : ST) : Prop := (∀ q ∈ L.1, S'.1 q.1 q.2 = S.1 q.1 q.2) ∧ (∀ a ∈ L.2.1, S'.2.1 a = S.2.1 a) ∧ (∀ a ∈ L.2.2.2, S'.2.2.2 a = S.2.2.2 a) ∧ ∀ a, 158 ≤ a → S'.1 a = S.1 a ∧ S'.2.1 a = S.2.1 a
def dj (W L : WS) : Bool := W.1.all (fun q => decide (q.1 < 158) && !(L.1.contains q)) && (W.2.1.all (fun a => decide (a < 158) && !(L.2.1.contains a)) && W.2.2.2.all (fun a => !(L.2.2.2.contains a)))
theorem Agr.sm {W L : WS} {S S' : ST} (h : Agr W S S') (hd : dj W L = true) : Sm L S S' := by
  unfold dj at hd
  simp only [Bool.and_eq_true, List.all_eq_true, decide_eq_true_eq, Bool.not_eq_true', List.contains_eq_mem, decide_eq_false_iff_not] at hd
  obtain ⟨h1, h2, h3⟩ := hd
  refine ⟨fun q hq => h.1 q.1 q.2 (fun hw => (h1 q hw).2 hq), fun a ha => h.2.1 a (fun hw => (h2 a hw).2 ha), fun a ha => h.2.2.2 a (fun hw => (h3 a hw) ha), fun a ha => ⟨?_, h.2.1 a (fun hw => by have := (h2 a hw).1; omega)⟩⟩
  funext k
  exact h.1 a k (fun hw => by have := (h1 _ hw).1; simp at this; omega)
def lK (o : Nat) : WS := ([(o, 0), (o, 6), (o, 11), (o, 16), (o, 18)], [o + 1, o + 2, o + 3, o + 4, o + 5, o + 6, o + 7, o + 8, o + 9, o + 10, o + 11, o + 12, o + 13], [], [o + 14])
theorem KA.cg {S S' : ST} {o : Nat} {f : Nat → Int32} (h : KA S o f) (hs : Sm (lK o) S S') : KA S' o f := by
  obtain ⟨h1, h2, -, -⟩ := hs
  have f0 := h1 (o, 0) (by simp [lK])
  have f6 := h1 (o, 6) (by simp [lK])
  have f11 := h1 (o, 11) (by simp [lK])
  have f16 := h1 (o, 16) (by simp [lK])
  have f18 := h1 (o, 18) (by simp [lK])
  have a1 := h2 (o + 1) (by simp [lK])
  have a2 := h2 (o + 2) (by simp [lK])
  have a3 := h2 (o + 3) (by simp [lK])
  have a4 := h2 (o + 4) (by simp [lK])
  have a5 := h2 (o + 5) (by simp [lK])
  have a6 := h2 (o + 6) (by simp [lK])
  have a7 := h2 (o + 7) (by simp [lK])
  have a8 := h2 (o + 8) (by simp [lK])
  have a9 := h2 (o + 9) (by simp [lK])
  have a10 := h2 (o + 10) (by simp [lK])
  have a11 := h2 (o + 11) (by simp [lK])
  have a12 := h2 (o + 12) (by simp [lK])
  have a13 := h2 (o + 13) (by simp [lK])
  dsimp only at f0 f6 f11 f16 f18
  unfold KA
  rw [f0, f6, f11, f16, f18, a1, a2, a3, a4, a5, a6, a7, a8, a9, a10, a11, a12, a13]
  exact h
theorem KT.cg {x : XT} {S S' : ST} {o : Nat} {f : Nat → Int32} (h : KT x S o f) (hs : Sm (lK o) S S') : KT x S' o f := by
  have q := hs.2.2.1 (o + 14) (by simp [lK])
  unfold KT
  rw [q]
  refine ⟨h.1, fun l L h1 h2 h3 => ?_⟩
  obtain ⟨t, N, C, V, dS, dT, q1, q2, q3⟩ := h.2 l L h1 h2 h3
  exact ⟨t, N, C, V, dS, dT, q1, q2, q3.cg hs.2.2.2 (fun _ _ => ⟨rfl, rfl⟩)⟩
theorem RK.cg {x : XT} {S S' : ST} {o : Nat} {f : Nat → Int32} (h : RK x S o f) (hs : Sm (lK o) S S') : RK x S' o f := ⟨h.1.cg hs, h.2.1, h.2.2.cg hs⟩
theorem LR.sm {x : XT} {S S' : ST} {o : Nat} {f : Nat → Int32} {R : RF} (h : LR x S o f R) (hs : Sm (lK o) S S') : LR x S' o f R :=
  h.cg (hs.1 (o, 18) (by simp [lK])) (hs.1 (o, 16) (by simp [lK])) (hs.2.2.1 (o + 14) (by simp [lK])) hs.2.2.2 (fun _ _ => rfl)
/-- all of the class's cells that the relation speaks of -/
def lC : WS := ((lK 1).1 ++ (lK 100).1 ++ (lK 115).1 ++ [(18, 1), (0, 12), (0, 13), (0, 14), (0, 15), (33, 0), (84, 6)], (lK 1).2.1 ++ (lK 100).2.1 ++ (lK 115).2.1 ++ [17, 19, 99, 34, 90, 91, 93], [], [15, 114, 129, 16])
def lR : WS := ([(130, 13), (130, 0), (130, 14), (130, 43), (130, 6), (130, 31), (130, 51)], [132, 133, 134, 137, 131, 143, 157, 136], [], [])
theorem Sm.sub {L L' : WS} {S S' : ST} (h : Sm L S S') (h1 : ∀ q ∈ L'.1, q ∈ L.1) (h2 : ∀ q ∈ L'.2.1, q ∈ L.2.1) (h3 : ∀ q ∈ L'.2.2.2, q ∈ L.2.2.2) : Sm L' S S' :=
  ⟨fun q hq => h.1 q (h1 q hq), fun q hq => h.2.1 q (h2 q hq), fun q hq => h.2.2.1 q (h3 q hq), h.2.2.2⟩
theorem RelI.cg {x : XT} {S S' T T' : ST} (h : RelI x S T) (h1 : Sm (lK 100) S S') (h2 : Sm (lK 115) S S') (h3 : S'.2.1 17 = S.2.1 17) (h4 : T'.2.1 133 = T.2.1 133) (h5 : T'.2.1 134 = T.2.1 134) (h6 : S'.2.2.2 16 = S.2.2.2 16) : RelI x S' T' := by
  unfold RelI
  rw [h3, h4, h5, h6]
  intro k hk
  obtain ⟨q1, q0, q2, q3⟩ := h k hk
  refine ⟨q1, q0, q2, fun hh => (q3 hh).cg ?_⟩
  rcases (show k = 0 ∨ k = 1 by omega) with rfl | rfl
  · exact h1
  · exact h2
theorem Rel.cg {x : XT} {S S' T T' : ST} (h : Rel x S T) (hS : Sm lC S S') (hT : Sm lR T T') : Rel x S' T' := by
  obtain ⟨h1, h2, h3, h4, h5, h6, h7, h8⟩ := h
  have e131 := hT.2.1 131 (by decide)
  have e132 := hT.2.1 132 (by decide)
  have e133 := hT.2.1 133 (by decide)
  have e134 := hT.2.1 134 (by decide)
  have e136 := hT.2.1 136 (by decide)
  have e137 := hT.2.1 137 (by decide)
  have e143 := hT.2.1 143 (by decide)
  have e157 := hT.2.1 157 (by decide)
  have t0 := hT.1 (130, 0) (by decide)
  have t6 := hT.1 (130, 6) (by decide)
  have t13 := hT.1 (130, 13) (by decide)
  have t14 := hT.1 (130, 14) (by decide)
  have t31 := hT.1 (130, 31) (by decide)
  have t43 := hT.1 (130, 43) (by decide)
  have t51 := hT.1 (130, 51) (by decide)
  have s1 := hS.1 (18, 1) (by decide)
  have s12 := hS.1 (0, 12) (by decide)
  have s13 := hS.1 (0, 13) (by decide)
  have s14 := hS.1 (0, 14) (by decide)
  have s15 := hS.1 (0, 15) (by decide)
  have s33 := hS.1 (33, 0) (by decide)
  have s84 := hS.1 (84, 6) (by decide)
  have a17 := hS.2.1 17 (by decide)
  have a19 := hS.2.1 19 (by decide)
  have a99 := hS.2.1 99 (by decide)
  have a34 := hS.2.1 34 (by decide)
  have a90 := hS.2.1 90 (by decide)
  have a91 := hS.2.1 91 (by decide)
  have a93 := hS.2.1 93 (by decide)
  dsimp only at t0 t6 t13 t14 t31 t43 t51 s1 s12 s13 s14 s15 s33 s84
  refine ⟨?_, h2.cg (hS.sub (by decide) (by decide) (by decide)) (hS.sub (by decide) (by decide) (by decide)) a17 e133 e134 (hS.2.2.1 16 (by decide)), ?_, ?_, ?_, ?_, ?_, ?_⟩
  · rw [e132]; exact h1.cg (hS.sub (by decide) (by decide) (by decide))
  · unfold RelT; rw [s1, t13, a19, e137]; exact h3
  · unfold RelS; rw [a99, e131, s12, t0]; exact h4
  · unfold RelM; rw [s13, s14, s15, t14, t43, t6]; exact h5
  · unfold RelU; rw [s33, t31, a34, e143, e132]; exact h6
  · unfold RelD; rw [s84, t51, a90, a91, a93, e157]; exact h7
  · unfold RelC; rw [e136]; exact h8
/-- a call that neither side remembers -/
theorem Rel.scr {x : XT} {S S' T T' : ST} {W V : WS} (h : Rel x S T) (hS : Agr W S S') (hW : dj W lC = true) (hT : Agr V T T') (hV : dj V lR = true) : Rel x S' T' := h.cg (hS.sm hW) (hT.sm hV)
theorem Rel.scrC {x : XT} {S S' T : ST} {W : WS} (h : Rel x S T) (hS : Agr W S S') (hW : dj W lC = true) : Rel x S' T := h.cg (hS.sm hW) (Agr.sm (W := ([], [], [], [])) Agr.rf (by decide))
end REL
