section CUT
/-- the class's flags while it shuts -/
def sF (f : Nat → Int32) (b b0 : Int32) (k j : Nat) : Int32 := if 25 ≤ j ∧ j < 25 + k then mF f b j else mF f b0 j
theorem sF_0 (f : Nat → Int32) (b b0 : Int32) : sF f b b0 0 = mF f b0 := by
  funext j
  unfold sF
  rw [if_neg (by omega)]
theorem sF_s (f : Nat → Int32) (b b0 : Int32) (k : Nat) : u1 (sF f b b0 k) (25 + k) (mF f b (25 + k)) = sF f b b0 (k + 1) := by
  funext j
  by_cases e : j = 25 + k
  · subst e
    rw [u1_s]
    unfold sF
    rw [if_pos (by omega)]
  · rw [u1_n _ _ e]
    unfold sF
    by_cases h : 25 ≤ j ∧ j < 25 + k
    · rw [if_pos h, if_pos (by omega)]
    · rw [if_neg h, if_neg (by omega)]
theorem BC.opn {x : XT} {S : ST} {f : Nat → Int32} {R : RF} {p g : Nat} (h : BC x S f R p) (hp : p < 5) (hg : g < 10) (v : Int32) : BC x (S.1, u2 S.2.1 60 g v, S.2.2.1, S.2.2.2) (u1 f (25 + g) v) R p := by
  have aS : Agr ([], [60], [], []) S (S.1, u2 S.2.1 60 g v, S.2.2.1, S.2.2.2) := Agr.i Agr.rf 60 g v (by decide)
  refine ⟨h.1.cg rfl rfl rfl (aS.sm (L := ([], [], [], [])) (by decide)).2.2.2 (fun k hk => u1_n _ _ (by omega)), h.2.1.a5 g hg v, h.2.2.1, fun g' m hg' hm => ?_⟩
  have e : qG (u1 f (25 + g) v) p g' (iN m) = qG f p g' (iN m) := by
    unfold qG
    rw [u1_n _ _ (by omega), u1_n _ _ (by omega), u1_n _ _ (by omega), u1_n _ _ (by omega), u1_n _ _ (by omega)]
  have e2 : gO R (u1 f (25 + g) v) p g' m = gO R f p g' m := by
    unfold gO
    rw [e]
  rw [e2, aS.2.1 70 (by decide)]
  exact h.2.2.2 g' m hg' hm
/-- a set of OPEN GATES -/
def Vs (f : Nat → Int32) (G b : Nat) : Prop := b ≤ opN f G ∧ b &&& opN f G = b
theorem Vs.lt {f : Nat → Int32} {G b : Nat} (hG : G ≤ 10) (h : b ≤ opN f G) : b < 1024 := by
  have := opN_lt f G
  have h2 : 2 ^ G ≤ 2 ^ 10 := Nat.pow_le_pow_right (by omega) hG
  have h3 : 2 ^ 10 = 1024 := by decide
  omega
theorem Vs.hi {f : Nat → Int32} {G b : Nat} (hG : G ≤ 10) (h : Vs f G b) (g : Nat) (hg : g < 10) (hh : G ≤ g) : mF f (iN b) (25 + g) = f (25 + g) := by
  rw [mF_g f _ hg, bitI_tb _ _ hg, tb_iN _ _ (by omega)]
  refine if_neg (fun z => ?_)
  have := (sub_bit b (opN f G) (Vs.lt hG h.1)).mp h.2 g hg z
  rw [opN_bit, decide_eq_false (show ¬ g < G by omega), Bool.false_and] at this
  cases this
theorem Vs.same {f : Nat → Int32} {G b b0 : Nat} (hG : G ≤ 10) (h : Vs f G b) (h0 : Vs f G b0) : sF f (iN b) (iN b0) G = mF f (iN b) := by
  funext j
  unfold sF
  by_cases c : 25 ≤ j ∧ j < 25 + G
  · rw [if_pos c]
  · rw [if_neg c]
    by_cases c2 : j < 25 ∨ 35 ≤ j
    · rw [mF_o f _ c2, mF_o f _ c2]
    · obtain ⟨g, rfl⟩ : ∃ g, j = 25 + g := ⟨j - 25, by omega⟩
      rw [h.hi hG g (by omega) (by omega), h0.hi hG g (by omega) (by omega)]
end CUT
