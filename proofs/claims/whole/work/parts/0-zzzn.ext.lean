section EXT
/-- no text among the cells that are not there yet -/
def XW (x : XT) : Prop := ∀ a, 158 + x.1 ≤ a → x.2.1 a = 99
def Xe (x x' : XT) : Prop := ∀ a, a < 158 + x.1 → mK x' a = mK x a ∧ mL x' a = mL x a ∧ ∀ k, mRr x' a k = mRr x a k
def Se (n : Nat) (S S' : ST) : Prop := ∀ a, a < n → S'.1 a = S.1 a ∧ S'.2.1 a = S.2.1 a ∧ S'.2.2.2 a = S.2.2.2 a
theorem XW.k {x : XT} (h : XW x) {a c : Nat} (hc : c ≠ 99) (e : mK x a = c) : a < 158 + x.1 := by
  rcases Nat.lt_or_ge a (158 + x.1) with z | z
  · exact z
  · have e2 : mK x a = x.2.1 a := by
      show (bif Nat.blt a 158 then K0 a else x.2.1 a) = _
      rw [show Nat.blt a 158 = false from by
        cases hb : Nat.blt a 158 with
        | false => rfl
        | true => have := Nat.le_of_ble_eq_true hb; omega]
      rfl
    rw [e2, h a z] at e
    exact absurd e.symm hc
theorem qk_ext {x x' : XT} (hx : XW x) (he : Xe x x') {r : Option Nat} (h : qk x r = true) : qk x' r = true := by
  cases r with
  | none => rfl
  | some b =>
    have e : mK x b = 9 := Nat.eq_of_beq_eq_true h
    have := (he b (hx.k (by decide) e)).1
    show Nat.beq (mK x' b) 9 = true
    rw [this, e]
    rfl
theorem tx_lt {x : XT} (hx : XW x) {t : Nat} (h : tx x t = true) : t + 4 < 158 + x.1 := hx.k (by decide) (tx_ok h).2.2.2.2.2.2.2.2
theorem tx_ext {x x' : XT} (hx : XW x) (he : Xe x x') {t : Nat} (h : tx x t = true) : tx x' t = true := by
  have lt := tx_lt hx h
  obtain ⟨q1, q2, q3, q4, q5, q6, q7, q8, q9⟩ := tx_ok h
  unfold tx
  rw [(he t (by omega)).1, (he (t + 1) (by omega)).1, (he (t + 2) (by omega)).1, (he (t + 3) (by omega)).1, (he (t + 4) (by omega)).1, (he t (by omega)).2.2 2, (he t (by omega)).2.2 3, (he t (by omega)).2.2 4, (he t (by omega)).2.2 5, q1, q2, q3, q4, q5, q6, q7, q8, q9]
  simp
theorem LawD.ext {x x' : XT} {S S' : ST} {t N C : Nat} {cd vl : Nat → Int32} {V : Nat → Nat} {dS dT : Nat → DN} (hx : XW x) (he : Xe x x') (hs : Se (158 + x.1) S S') (h : LawD x S t cd vl N C V dS dT) : LawD x' S' t cd vl N C V dS dT := by
  obtain ⟨h1, ht, hN, hC1, hC2, Z, hZ, m1, m3, m4, s0, s1, P, J, hP, hcl⟩ := h
  have lt := tx_lt hx h1
  refine ⟨tx_ext hx he h1, ht, hN, hC1, hC2, Z, hZ, (he _ (by omega)).2.1.trans m1, (he _ (by omega)).2.1.trans m3, (he _ (by omega)).2.1.trans m4, by rw [(hs t (by omega)).1]; exact s0, by rw [(hs t (by omega)).1]; exact s1, P, J, hP, fun c hc => ?_⟩
  rw [(hs (t + 4) (by omega)).2.1, (hs (t + 1) (by omega)).2.1, (hs (t + 3) (by omega)).2.1]
  exact hcl c hc
theorem KA.se {S S' : ST} {o n : Nat} {f : Nat → Int32} (hs : Se n S S') (ho : o + 14 < n) (h : KA S o f) : KA S' o f := by
  unfold KA
  rw [(hs o (by omega)).1, (hs (o + 1) (by omega)).2.1, (hs (o + 2) (by omega)).2.1, (hs (o + 3) (by omega)).2.1, (hs (o + 4) (by omega)).2.1, (hs (o + 5) (by omega)).2.1, (hs (o + 6) (by omega)).2.1, (hs (o + 7) (by omega)).2.1, (hs (o + 8) (by omega)).2.1, (hs (o + 9) (by omega)).2.1, (hs (o + 10) (by omega)).2.1, (hs (o + 11) (by omega)).2.1, (hs (o + 12) (by omega)).2.1, (hs (o + 13) (by omega)).2.1]
  exact h
theorem RK.ext {x x' : XT} {S S' : ST} {o : Nat} {f : Nat → Int32} (hx : XW x) (he : Xe x x') (hs : Se (158 + x.1) S S') (ho : o + 14 < 158) (h : RK x S o f) : RK x' S' o f := by
  refine ⟨h.1.se hs (by omega), h.2.1, ?_, ?_⟩
  · rw [(hs (o + 14) (by omega)).2.2]
    exact fun l hl => qk_ext hx he (h.2.2.1 l hl)
  · rw [(hs (o + 14) (by omega)).2.2]
    intro l L q1 q2 q3
    obtain ⟨t, N, C, V, dS, dT, w1, w2, w3⟩ := h.2.2.2 l L q1 q2 q3
    exact ⟨t, N, C, V, dS, dT, w1, w2, w3.ext hx he hs⟩
theorem Rel.ext {x x' : XT} {S S' T : ST} (hx : XW x) (he : Xe x x') (hs : Se (158 + x.1) S S') (h : Rel x S T) : Rel x' S' T := by
  obtain ⟨h1, h2, h3, h4, h5, h6, h7, h8⟩ := h
  have f : ∀ a, a < 158 → S'.1 a = S.1 a ∧ S'.2.1 a = S.2.1 a ∧ S'.2.2.2 a = S.2.2.2 a := fun a ha => hs a (by omega)
  refine ⟨h1.ext hx he hs (by omega), fun k hk => ?_, ?_, ?_, ?_, ?_, ?_, h8⟩
  · rw [(f 17 (by omega)).2.1, (f 16 (by omega)).2.2]
    obtain ⟨q1, q2, q3, q4⟩ := h2 k hk
    exact ⟨q1, q2, q3, fun z => (q4 z).ext hx he hs (by omega)⟩
  · unfold RelT; rw [(f 18 (by omega)).1, (f 19 (by omega)).2.1]; exact h3
  · unfold RelS; rw [(f 99 (by omega)).2.1, (f 0 (by omega)).1]; exact h4
  · unfold RelM; rw [(f 0 (by omega)).1]; exact h5
  · unfold RelU; rw [(f 33 (by omega)).1, (f 34 (by omega)).2.1]; exact h6
  · unfold RelD; rw [(f 84 (by omega)).1, (f 90 (by omega)).2.1, (f 91 (by omega)).2.1, (f 93 (by omega)).2.1]; exact h7
/-- the tape was read -/
def lCr : WS := ((lK 1).1 ++ (lK 100).1 ++ (lK 115).1 ++ [(0, 12), (0, 14), (0, 15), (33, 0), (84, 6)], (lK 1).2.1 ++ (lK 100).2.1 ++ (lK 115).2.1 ++ [17, 19, 99, 34, 90, 91, 93], [], [15, 114, 129, 16])
def lRr : WS := ([(130, 0), (130, 43), (130, 6), (130, 31), (130, 51)], [132, 133, 134, 137, 131, 143, 157, 136], [], [])
theorem Rel.rd {x : XT} {S S' T T' : ST} (h : Rel x S T) (hS : Sm lCr S S') (hT : Sm lRr T T') (e1 : S'.1 18 1 = 0) (e2 : T'.1 130 13 = 0) (e3 : S'.1 0 13 = T'.1 130 14) : Rel x S' T' := by
  obtain ⟨h1, h2, h3, h4, h5, h6, h7, h8⟩ := h
  have e131 := hT.2.1 131 (by decide)
  have e132 := hT.2.1 132 (by decide)
  have e133 := hT.2.1 133 (by decide)
  have e134 := hT.2.1 134 (by decide)
  have e136 := hT.2.1 136 (by decide)
  have e137 := hT.2.1 137 (by decide)
  have e143 := hT.2.1 143 (by decide)
  have e157 := hT.2.1 157 (by decide)
  have t0 := hT.1 (130, 0) (by decide)
  have t6 := hT.1 (130, 6) (by decide)
  have t31 := hT.1 (130, 31) (by decide)
  have t43 := hT.1 (130, 43) (by decide)
  have t51 := hT.1 (130, 51) (by decide)
  have s12 := hS.1 (0, 12) (by decide)
  have s14 := hS.1 (0, 14) (by decide)
  have s15 := hS.1 (0, 15) (by decide)
  have s33 := hS.1 (33, 0) (by decide)
  have s84 := hS.1 (84, 6) (by decide)
  have a17 := hS.2.1 17 (by decide)
  have a19 := hS.2.1 19 (by decide)
  have a99 := hS.2.1 99 (by decide)
  have a34 := hS.2.1 34 (by decide)
  have a90 := hS.2.1 90 (by decide)
  have a91 := hS.2.1 91 (by decide)
  have a93 := hS.2.1 93 (by decide)
  dsimp only at t0 t6 t31 t43 t51 s12 s14 s15 s33 s84
  refine ⟨?_, h2.cg (hS.sub (by decide) (by decide) (by decide)) (hS.sub (by decide) (by decide) (by decide)) a17 e133 e134 (hS.2.2.1 16 (by decide)), ?_, ?_, ?_, ?_, ?_, ?_⟩
  · rw [e132]; exact h1.cg (hS.sub (by decide) (by decide) (by decide))
  · unfold RelT; rw [a19, e137]; exact ⟨⟨0, by omega, e1, e2⟩, h3.2⟩
  · unfold RelS; rw [a99, e131, s12, t0]; exact h4
  · unfold RelM; rw [s14, s15, t43, t6]; exact ⟨e3, h5.2⟩
  · unfold RelU; rw [s33, t31, a34, e143, e132]; exact h6
  · unfold RelD; rw [s84, t51, a90, a91, a93, e157]; exact h7
  · unfold RelC; rw [e136]; exact h8
def rtS (S : ST) : ST := (u2 (u2 S.1 0 13 (S.1 24 1)) 18 1 0, S.2.1, S.2.2.1, S.2.2.2)
theorem readTape_of (x : XT) (S S4 : ST) (o : Int32) (r : Int32) (hr : r = 0 ∨ r = 1) (h : gfX4_read_24_18 x S o = some (r, S4)) : gfX10_readTape_0 x S o = some (r, rtS S4) := by
  unfold gfX10_readTape_0 bfX10_readTape_0_0
  rw [h]
  dsimp only
  rcases hr with rfl | rfl <;> rfl
theorem rtS_13 (S : ST) : (rtS S).1 0 13 = S.1 24 1 := by
  show u2 (u2 S.1 0 13 (S.1 24 1)) 18 1 0 0 13 = _
  rw [u2_n _ _ _ _ (by decide), u2_s]
theorem rtS_o (S : ST) (a k : Nat) (h1 : (a, k) ≠ (0, 13)) (h2 : (a, k) ≠ (18, 1)) : (rtS S).1 a k = S.1 a k := by
  show u2 (u2 S.1 0 13 (S.1 24 1)) 18 1 0 a k = _
  rw [u2_ne _ _ h2, u2_ne _ _ h1]
/-- both have read: the relation behind it -/
theorem Rel.taped {x : XT} {S S4 T T4 : ST} {o r : Int32} (h : Rel x S T) (h1 : gfX10_readTape_0 x S o = some (r, rtS S4)) (h2 : gfX11_readsAs_130 x T o = some (r, T4)) (e13 : T4.1 130 13 = 0) (e14 : S4.1 24 1 = T4.1 130 14) : Rel x (rtS S4) T4 :=
  h.rd ((frX10_readTape_0 x S _ _ _ h1).sm (by decide)) ((frX11_readsAs_130 x T _ _ _ h2).sm (by decide)) (u2_s (u2 S4.1 0 13 (S4.1 24 1)) 18 1 0) e13 ((rtS_13 S4).trans e14)
end EXT
