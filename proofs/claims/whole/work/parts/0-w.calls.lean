section CALLS2
theorem u1_if {α : Type} (f : Nat → α) (k : Nat) (v : α) (j : Nat) : u1 f k v j = if j = k then v else f j := by
  by_cases h : j = k
  · subst h; rw [u1_s, if_pos rfl]
  · rw [u1_n _ _ h, if_neg h]
theorem u2_row {α : Type} (f : Nat → Nat → α) (a k : Nat) (v : α) : u2 f a k v a = u1 (f a) k v := by rw [u2, u1_s]
theorem u2_ro {α : Type} (f : Nat → Nat → α) {a b : Nat} (k : Nat) (v : α) (h : b ≠ a) : u2 f a k v b = f b := by rw [u2, u1_n _ _ h]
/-- what a call that changes the State and what can be undone leaves as it was -/
def lC2 : WS := ((lK 100).1 ++ (lK 115).1 ++ [(18, 1), (0, 12), (0, 13), (0, 14), (0, 15), (84, 6)], (lK 100).2.1 ++ (lK 115).2.1 ++ [17, 19, 99, 90, 91, 93], [], [114, 129, 16])
def lR2 : WS := ([(130, 13), (130, 0), (130, 14), (130, 43), (130, 6), (130, 51)], [133, 134, 137, 131, 157, 136], [], [])
theorem Rel.mk2 {x : XT} {S S' T T' : ST} (h : Rel x S T) (hS : Sm lC2 S S') (hT : Sm lR2 T T') (hK : RK x S' 1 (T'.2.1 132)) (hU : RelU S' T') : Rel x S' T' := by
  obtain ⟨h1, h2, h3, h4, h5, h6, h7, h8⟩ := h
  have e131 := hT.2.1 131 (by decide)
  have e133 := hT.2.1 133 (by decide)
  have e134 := hT.2.1 134 (by decide)
  have e136 := hT.2.1 136 (by decide)
  have e137 := hT.2.1 137 (by decide)
  have e157 := hT.2.1 157 (by decide)
  have t0 := hT.1 (130, 0) (by decide)
  have t6 := hT.1 (130, 6) (by decide)
  have t13 := hT.1 (130, 13) (by decide)
  have t14 := hT.1 (130, 14) (by decide)
  have t43 := hT.1 (130, 43) (by decide)
  have t51 := hT.1 (130, 51) (by decide)
  have s1 := hS.1 (18, 1) (by decide)
  have s12 := hS.1 (0, 12) (by decide)
  have s13 := hS.1 (0, 13) (by decide)
  have s14 := hS.1 (0, 14) (by decide)
  have s15 := hS.1 (0, 15) (by decide)
  have s84 := hS.1 (84, 6) (by decide)
  have a17 := hS.2.1 17 (by decide)
  have a19 := hS.2.1 19 (by decide)
  have a99 := hS.2.1 99 (by decide)
  have a90 := hS.2.1 90 (by decide)
  have a91 := hS.2.1 91 (by decide)
  have a93 := hS.2.1 93 (by decide)
  dsimp only at t0 t6 t13 t14 t43 t51 s1 s12 s13 s14 s15 s84
  refine ⟨hK, h2.cg (hS.sub (by decide) (by decide) (by decide)) (hS.sub (by decide) (by decide) (by decide)) a17 e133 e134 (hS.2.2.1 16 (by decide)), ?_, ?_, ?_, hU, ?_, ?_⟩
  · unfold RelT; rw [s1, t13, a19, e137]; exact h3
  · unfold RelS; rw [a99, e131, s12, t0]; exact h4
  · unfold RelM; rw [s13, s14, s15, t14, t43, t6]; exact h5
  · unfold RelD; rw [s84, t51, a90, a91, a93, e157]; exact h7
  · unfold RelC; rw [e136]; exact h8
theorem UStep.cgB {r : Nat → Int32} {w : Int32} {G P : Nat} {A B B' : Nat → Int32} (h : UStep r w G P A B) (hG : G ≤ 10) (hB : ∀ i, i < 36 → B' i = B i) : UStep r w G P A B' := by
  rcases h with ⟨p, p1, p2, p3, p4, p5, p6, p7, p8⟩ | ⟨p, p1, p2, p3, p4, p5, p6⟩ | ⟨p, p1, p2, p3, p4, p5, p6⟩ | ⟨p2, p3, p4, p5⟩
  · exact Or.inl ⟨p, p1, p2, p3, p4, p5, p6, p7, fun i hi a1 a2 a3 => (p8 i hi a1 a2 a3).trans (hB i hi).symm⟩
  · exact Or.inr (Or.inl ⟨p, p1, p2, p3, p4, by rw [p5, hB _ (by omega)], fun i hi a1 => (p6 i hi a1).trans (hB i hi).symm⟩)
  · exact Or.inr (Or.inr (Or.inl ⟨p, p1, p2, p3, p4, p5, fun i hi a1 => (p6 i hi a1).trans (hB i hi).symm⟩))
  · exact Or.inr (Or.inr (Or.inr ⟨p2, p3, by rw [p4, hB _ (by omega)], fun i hi a1 => (p5 i hi a1).trans (hB i hi).symm⟩))
theorem RelU.cg {S S' T T' : ST} (h : RelU S T) (h1 : S'.1 33 0 = S.1 33 0) (h2 : S'.2.1 34 = S.2.1 34) (h3 : T'.1 130 31 = T.1 130 31) (h4 : T'.2.1 143 = T.2.1 143) (h5 : ∀ i, i < 36 → T'.2.1 132 i = T.2.1 132 i) (h6 : T'.2.1 132 91 = T.2.1 132 91) (h7 : T'.2.1 132 92 = T.2.1 132 92) : RelU S' T' := by
  obtain ⟨n, hn, e1, e2, e3⟩ := h
  refine ⟨n, hn, h1.trans e1, h3.trans e2, fun k hk => ?_⟩
  obtain ⟨q1, q2⟩ := e3 k hk
  rw [h2, h4]
  refine ⟨q1, fun G P a b c d => (q2 G P (h6.symm.trans a) b (h7.symm.trans c) d).cgB b (fun i hi => ?_)⟩
  by_cases hh : k + 1 < n
  · rw [if_pos hh, if_pos hh]
  · rw [if_neg hh, if_neg hh, h5 i hi]
theorem KT.cgf {x : XT} {S S' : ST} {o : Nat} {f f' : Nat → Int32} (h : KT x S o f) (hq : S'.2.2.2 (o + 14) = S.2.2.2 (o + 14)) (hs : ∀ a, 158 ≤ a → S'.1 a = S.1 a ∧ S'.2.1 a = S.2.1 a) (h94 : f' 94 = f 94) (hf : ∀ k, 96 ≤ k → f' k = f k) : KT x S' o f' := by
  unfold KT
  rw [hq]
  refine ⟨h.1, fun l L h1 h2 h3 => ?_⟩
  obtain ⟨t, N, C, V, dS, dT, q1, q2, q3⟩ := h.2 l L (h94.symm.trans h1) h2 h3
  exact ⟨t, N, C, V, dS, dT, q1, (hf _ (by omega)).trans q2, q3.cg hs (fun _ _ => ⟨hf _ (by omega), hf _ (by omega)⟩)⟩
/-! the TAPE's length -/
theorem Rel.tape {x : XT} {S T : ST} (h : Rel x S T) (n : Nat) (hn : n ≤ 400) : Rel x (u2 S.1 18 1 (iN n), S.2.1, S.2.2.1, S.2.2.2) (u2 T.1 130 13 (iN n), T.2.1, T.2.2.1, T.2.2.2) := by
  obtain ⟨h1, h2, h3, h4, h5, h6, h7, h8⟩ := h
  have aS : Agr ([(18, 1)], [], [], []) S (u2 S.1 18 1 (iN n), S.2.1, S.2.2.1, S.2.2.2) := Agr.f Agr.rf 18 1 _ (by decide)
  have n1 : ∀ a k, a ≠ 18 → u2 S.1 18 1 (iN n) a k = S.1 a k := fun a k hh => u2_n _ _ _ _ hh
  have n2 : ∀ k, k ≠ 13 → u2 T.1 130 13 (iN n) 130 k = T.1 130 k := fun k hh => u2_k _ _ _ hh
  refine ⟨h1.cg (aS.sm (by decide)), h2.cg (aS.sm (by decide)) (aS.sm (by decide)) rfl rfl rfl rfl, ⟨⟨n, hn, u2_s S.1 18 1 (iN n), u2_s T.1 130 13 (iN n)⟩, h3.2⟩, ?_, ?_, ?_, ?_, h8⟩
  · unfold RelS; dsimp only; rw [n1 0 12 (by decide), n2 0 (by decide)]; exact h4
  · unfold RelM; dsimp only; rw [n1 0 13 (by decide), n1 0 14 (by decide), n1 0 15 (by decide), n2 14 (by decide), n2 43 (by decide), n2 6 (by decide)]; exact h5
  · unfold RelU; dsimp only; rw [n1 33 0 (by decide), n2 31 (by decide)]; exact h6
  · unfold RelD; dsimp only; rw [n1 84 6 (by decide), n2 51 (by decide)]; exact h7
theorem c_end (x : XT) (S T : ST) (h : Rel x S T) (a : Int32) : Call x S T (gfX10_end_0 x S a) (gfX11_end_130 x T a) := by
  obtain ⟨⟨n, hn, t1, t2⟩, -⟩ := h.2.2.1
  have hl := lies_eq x T a (n + 1) (by omega)
  rw [show iN (n + 1) - 1 = iN (n + 1 - 1) from iN_sub (n := 1) (by omega), Nat.add_sub_cancel] at hl
  unfold gfX10_end_0 bfX10_end_0_0 gfX8_shorten_18 bfX8_shorten_18_0 bfX8_shorten_18_12 gfX11_end_130 bfX11_end_130_0
  rw [t1, t2, hl]
  dsimp only
  cases hb : inb a (n + 1) with
  | true =>
    obtain ⟨g, hg, rfl⟩ := inb_ex hb
    rw [if_neg (iN_nn (by omega)), if_pos ((iN_le (by omega) (by omega)).mpr (by omega)), if_pos (by decide)]
    exact ⟨_, _, _, rfl, rfl, h.tape g (by omega)⟩
  | false =>
    rw [if_neg (show ¬ ¬ bz false = 0 by decide)]
    refine ⟨-1, S, T, ?_, rfl, h⟩
    rcases inb_f (v := a) (n := n + 1) (by omega) (by rw [hb]; decide) with h1 | h1
    · rw [if_pos h1]
    · by_cases h2 : a < 0
      · rw [if_pos h2]
      · rw [if_neg h2, if_neg (fun h3 => by
          have h4 : iN (n + 1) ≤ iN n := Int32.le_trans h1 h3
          have := (iN_le (by omega) (by omega)).mp h4
          omega)]
/-! a row changed in one place that is no hand's -/
theorem MW.cg {f f' : Nat → Int32} (h : MW f) (hf : ∀ i, i < 36 → f' i = f i) : MW f' := by
  refine ⟨fun p hp => ?_, fun g hg => ?_, ?_⟩
  · rw [hf p (by omega), hf (5 + p) (by omega), hf (10 + p) (by omega)]; exact h.1 p hp
  · rw [hf (15 + g) (by omega), hf (25 + g) (by omega)]; exact h.2.1 g hg
  · rw [hf 35 (by omega)]; exact h.2.2
theorem c_forget (x : XT) (S T : ST) (h : Rel x S T) : Call x S T (gfX10_forget_0 x S) (gfX11_forget_130 x T) := by
  have h1 := h.1
  obtain ⟨ka, kw, kt⟩ := h1
  obtain ⟨k0, k1, k2, k3, k4, k5, k6, k7, k8, k9, k10⟩ := ka
  obtain ⟨w0, w1, w2, w3, w4, w5, w6, w7, w8, w9, w10⟩ := kw
  refine ⟨_, _, _, rfl, by unfold gfX11_forget_130 bfX11_forget_130_0; rw [← k2], ?_⟩
  have aS : Agr ([(1, 11)], [], [], []) S (u2 S.1 1 11 0, S.2.1, S.2.2.1, S.2.2.2) := Agr.f Agr.rf 1 11 0 (by decide)
  have aT : Agr ([], [132], [], []) T (T.1, u2 T.2.1 132 93 0, T.2.2.1, T.2.2.2) := Agr.i Agr.rf 132 93 0 (by decide)
  have n1 : ∀ k, k ≠ 11 → u2 S.1 1 11 0 1 k = S.1 1 k := fun k hh => u2_k _ _ _ hh
  have n2 : ∀ k, k ≠ 93 → u1 (T.2.1 132) 93 0 k = T.2.1 132 k := fun k hh => u1_n _ _ hh
  have s93 : u1 (T.2.1 132) 93 0 93 = 0 := u1_s _ _ _
  refine h.mk2 (aS.sm (by decide)) (aT.sm (by decide)) ?_ (h.2.2.2.2.2.1.cg (show u2 S.1 1 11 0 33 0 = S.1 33 0 from u2_n _ _ _ _ (by decide)) rfl rfl (show u2 T.2.1 132 93 0 143 = T.2.1 143 from u2_ro _ _ _ (by decide)) ?_ ?_ ?_)
  · show RK x _ 1 (u2 T.2.1 132 93 0 132)
    rw [u2_row]
    refine ⟨?_, ?_, ?_⟩
    · unfold KA
      dsimp only
      rw [n1 0 (by decide), n1 6 (by decide), u2_s, n1 16 (by decide), n1 18 (by decide), n2 91 (by decide), n2 92 (by decide), s93, n2 94 (by decide), n2 95 (by decide), n2 35 (by decide), n2 89 (by decide), n2 90 (by decide)]
      refine ⟨k0, k1, rfl, k3, k4, fun g hg => ?_, fun p hp => ?_, fun s hs => ?_, k8, k9, k10⟩
      · rw [n2 _ (by omega), n2 _ (by omega), n2 _ (by omega), n2 _ (by omega), n2 _ (by omega)]; exact k5 g hg
      · rw [n2 _ (by omega), n2 _ (by omega), n2 _ (by omega), n2 _ (by omega)]; exact k6 p hp
      · rw [n2 _ (by omega), n2 _ (by omega), n2 _ (by omega)]; exact k7 s hs
    · unfold WF
      rw [n2 91 (by decide), n2 92 (by decide), s93, n2 94 (by decide), n2 95 (by decide), n2 89 (by decide), n2 90 (by decide)]
      refine ⟨w0.cg (fun i hi => n2 i (by omega)), w1, w2, rfl, w4, w5, fun g hg => ?_, fun p hp => ?_, fun s hs => ?_, w9, w10⟩
      · rw [n2 _ (by omega), n2 _ (by omega), n2 _ (by omega)]; exact w6 g hg
      · rw [n2 _ (by omega)]; exact w7 p hp
      · rw [n2 _ (by omega), n2 _ (by omega), n2 _ (by omega)]; exact w8 s hs
    · exact kt.cgf rfl (aS.sm (L := ([], [], [], [])) (by decide)).2.2.2 (n2 94 (by decide)) (fun k hk => n2 k (by omega))
  · intro i hi
    show u2 T.2.1 132 93 0 132 i = _
    rw [u2_row]; exact n2 i (by omega)
  · show u2 T.2.1 132 93 0 132 91 = _
    rw [u2_row]; exact n2 91 (by decide)
  · show u2 T.2.1 132 93 0 132 92 = _
    rw [u2_row]; exact n2 92 (by decide)
end CALLS2
