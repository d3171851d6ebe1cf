section ONCE
def bad : Int32 := -2000000000
def vA (u : Nat) (A : Option Int32) : Int32 := if u = 3 then 0 else A.getD bad
def vB (u : Nat) (B : Option Int32) : Int32 := if u = 0 ∨ u = 2 then B.getD bad else 0
def wO5 : WS := ([], [52, 53], [], [])
theorem wkO_agr (S : ST) (st : Nat → Int32) : Agr wO5 S (wkO S st) := Agr.ic (S1 := S) Agr.rf 53 st (by decide)
/-- a SUM or a TEST of a CLAUSE is reckoned, or is not there -/
theorem evO (x : XT) (S : ST) (Z : Nat) (hZ : Z ≤ 400) (hsz : S.1 25 1 = iN Z) (c w a b : Nat) (hc : 4 * c + w + 1 < 48) (hab : a ≤ b) (hbZ : b ≤ Z) (hb1 : S.2.1 28 (4 * c + w) = iN a) (hb2 : S.2.1 28 (4 * c + w + 1) = iN b) {cd vl W : Nat → Int32} {v : Int32} (hW : ∀ z, z < 24 → S.2.1 52 z = W z) (h : b = a ∨ ∃ N kd i j k d, Gr true cd vl (S.2.1 29) N 8 kd i j a b k d ∧ k ≤ 50 ∧ v = (d W).getD bad) :
    (b = a ∧ gfX9_has_25 x S (iN c) (iN w) = some (0, S)) ∨ (∃ S', gfX9_has_25 x S (iN c) (iN w) = some (1, S) ∧ gfX9_reckon_25_52_53 x S (iN c) (iN w) = some (v, S') ∧ Agr wO5 S S' ∧ S'.2.1 52 = S.2.1 52) := by
  have hh := hasO x S c w a b hc (by omega) (by omega) hb1 hb2
  rcases h with e | ⟨N, kd, i, j, k, d, g, hk, hv⟩
  · rw [if_pos (by omega)] at hh
    exact Or.inl ⟨e, hh⟩
  · have := g.lt
    rw [if_neg (by omega)] at hh
    obtain ⟨st, q⟩ := reckO x S Z hZ hsz c w a b hc hb1 hb2 hbZ g hk
    have e : d (S.2.1 52) = d W := Gr.ext (o := true) (fun z hz => hW z hz) g
    rw [e] at q
    exact Or.inr ⟨_, hh, by rw [hv]; exact q, wkO_agr S st, wkO_n S st (by decide)⟩
def OnceC (x : XT) (S : ST) (c u : Nat) (A B D : Option Int32) (r : Option (Int32 × ST)) : Prop := (D = some 1 ∧ ∃ S5, Agr wO5 S S5 ∧ r = bfX5_runOnce_51_25_88 x S5 (iN c) (vA u A) (vB u B)) ∨ (¬ D = some 1 ∧ ∃ S5, Agr wO5 S S5 ∧ r = some (1, S5))
set_option maxRecDepth 4000 in
theorem cls_once (x : XT) (S : ST) (f cd vl : Nat → Int32) (hK : KA S 1 f) (G P : Nat) (hG : G ≤ 10) (hP : P ≤ 5) (e1 : f 91 = iN G) (e2 : f 92 = iN P) (Z c i j u t : Nat) (hZ : Z ≤ 400) (hsz : S.1 25 1 = iN Z) (hc : c < 12) (dA dB dT : DN) (h : OCl cd vl (S.2.1 29) (S.2.1 26) (S.2.1 27) (S.2.1 28) Z c i j u t dA dB dT) (W : Nat → Int32) (hW : W = oW f (S.1 51 0) (S.1 51 1) G P) : OnceC x S c u (dA W) (dB W) (dT W) (gfX5_runOnce_51_25 x S (iN c)) := by
  obtain ⟨g, q1, q2⟩ := look_eq x S f hK G P hG hP e1 e2
  rw [← hW] at q2
  obtain ⟨j1, j2, a0, a1, a2, a3, N, k1, k2, hu, hci, -, -, b0, b1, b2, b3, haZ, hA, hB, hT⟩ := h
  have lT := (tail_le hT).2
  have lB : a1 ≤ a2 := by
    rcases hB with ⟨-, -, y⟩ | ⟨-, -, y⟩
    · omega
    · have := y.lt; omega
  have lA : a0 ≤ a1 := by
    rcases hA with ⟨-, -, y⟩ | ⟨-, -, y⟩
    · omega
    · have := y.lt; omega
  -- the SUMS, from a state that has looked round
  have sums : ∀ S5, Agr wO5 S S5 → (∀ z, z < 24 → S5.2.1 52 z = W z) → ∃ S6, Agr wO5 S S6 ∧ bfX5_runOnce_51_25_33 x S5 (iN c) = bfX5_runOnce_51_25_88 x S6 (iN c) (vA u (dA W)) (vB u (dB W)) := by
    intro S5 ag h52
    have p2 : ∀ S6 v, Agr wO5 S S6 → (∀ z, z < 24 → S6.2.1 52 z = W z) → ∃ S7, Agr wO5 S S7 ∧ bfX5_runOnce_51_25_60 x S6 (iN c) v = bfX5_runOnce_51_25_88 x S7 (iN c) v (vB u (dB W)) := by
      intro S6 v ag6 h526
      have a28 : S6.2.1 28 = S.2.1 28 := ag6.2.1 28 (by decide)
      have a29 : S6.2.1 29 = S.2.1 29 := ag6.2.1 29 (by decide)
      unfold bfX5_runOnce_51_25_60
      rcases evO (v := (dB W).getD bad) (cd := cd) (vl := vl) x S6 Z hZ ((ag6.1 25 1 (by decide)).trans hsz) c 1 a1 a2 (by omega) lB (by omega) (by rw [a28]; exact b1) (by rw [a28]; exact b2) h526 (by
        rcases hB with ⟨-, -, y⟩ | ⟨-, y2, y⟩
        · exact Or.inl y
        · exact Or.inr ⟨N, 2, _, _, k2, dB, by rw [a29]; exact y, y2, rfl⟩) with ⟨z1, z2⟩ | ⟨S7, z1, z2, z3, z4⟩
      · rw [show (1 : Int32) = iN 1 from rfl, z2]
        dsimp only
        rw [if_pos (show (0 : Int32) = 0 from rfl)]
        refine ⟨S6, ag6, ?_⟩
        have nu : ¬ (u = 0 ∨ u = 2) := by
          rcases hB with ⟨y, -⟩ | ⟨-, -, y⟩
          · omega
          · have := y.lt; omega
        rw [vB, if_neg nu]
      · rw [show (1 : Int32) = iN 1 from rfl, z1]
        dsimp only
        rw [if_neg (show ¬ (1 : Int32) = 0 by decide), z2]
        refine ⟨S7, ag6.tr z3, ?_⟩
        dsimp only
        have nu : u = 0 ∨ u = 2 := by
          rcases hB with ⟨-, -, y⟩ | ⟨y, -⟩
          · have := hasO x S6 c 1 a1 a2 (by omega) (by omega) (by omega) (by rw [a28]; exact b1) (by rw [a28]; exact b2)
            rw [z1, if_pos (by omega)] at this
            injection this with this
            injection this with this
            exact absurd this (by decide)
          · omega
        rw [vB, if_pos nu]
    have a28 : S5.2.1 28 = S.2.1 28 := ag.2.1 28 (by decide)
    have a29 : S5.2.1 29 = S.2.1 29 := ag.2.1 29 (by decide)
    unfold bfX5_runOnce_51_25_33
    rcases evO (v := (dA W).getD bad) (cd := cd) (vl := vl) x S5 Z hZ ((ag.1 25 1 (by decide)).trans hsz) c 0 a0 a1 (by omega) lA (by omega) (by rw [a28]; exact b0) (by rw [a28]; exact b1) h52 (by
      rcases hA with ⟨-, -, y⟩ | ⟨-, y2, y⟩
      · exact Or.inl y
      · exact Or.inr ⟨N, 2, _, _, k1, dA, by rw [a29]; exact y, y2, rfl⟩) with ⟨z1, z2⟩ | ⟨S7, z1, z2, z3, z4⟩
    · rw [show (0 : Int32) = iN 0 from rfl, z2]
      dsimp only
      rw [if_pos (show (0 : Int32) = iN 0 from rfl)]
      have nu : u = 3 := by
        rcases hA with ⟨y, -⟩ | ⟨-, -, y⟩
        · exact y
        · have := y.lt; omega
      rw [vA, if_pos nu]
      exact p2 S5 0 ag h52
    · rw [show (0 : Int32) = iN 0 from rfl, z1]
      dsimp only
      rw [if_neg (show ¬ (1 : Int32) = iN 0 by decide), z2]
      dsimp only
      have nu : ¬ u = 3 := by
        rcases hA with ⟨-, -, y⟩ | ⟨y, -⟩
        · have := hasO x S5 c 0 a0 a1 (by omega) (by omega) (by omega) (by rw [a28]; exact b0) (by rw [a28]; exact b1)
          rw [z1, if_pos (by omega)] at this
          injection this with this
          injection this with this
          exact absurd this (by decide)
        · omega
      rw [vA, if_neg nu]
      exact p2 S7 _ (ag.tr z3) (fun z hz => by rw [z4]; exact h52 z hz)
  have ag4 : Agr wO5 S (wA S 52 g) := Agr.ic (S1 := S) Agr.rf 52 g (by decide)
  have h524 : ∀ z, z < 24 → (wA S 52 g).2.1 52 z = W z := fun z hz => by rw [wA_s]; exact q2 z hz
  have a28 : (wA S 52 g).2.1 28 = S.2.1 28 := ag4.2.1 28 (by decide)
  have a29 : (wA S 52 g).2.1 29 = S.2.1 29 := ag4.2.1 29 (by decide)
  unfold gfX5_runOnce_51_25 bfX5_runOnce_51_25_0
  rw [q1]
  dsimp only
  have hT2 : (a3 = a2 ∧ (dT = fun _ => some 1)) ∨ ∃ N i j k, Gr true cd vl (S.2.1 29) N 8 6 i j a2 a3 k dT ∧ k ≤ 50 := by
    obtain ⟨j3, N3, k3, t1, t2, h1, h2⟩ := hT
    rcases h2 with ⟨y1, y2, y3, y4⟩ | ⟨y1, y2, y3⟩
    · exact Or.inl ⟨y2, y3⟩
    · exact Or.inr ⟨N3, _, _, k3, y3, y2⟩
  rcases evO (v := (dT W).getD bad) (cd := cd) (vl := vl) x (wA S 52 g) Z hZ hsz c 2 a2 a3 (by omega) lT (by omega) (by rw [a28]; exact b2) (by rw [a28]; exact b3) h524 (by
    rcases hT2 with ⟨y, -⟩ | ⟨N3, i3, j3, k3, y3, y2⟩
    · exact Or.inl y
    · exact Or.inr ⟨N3, 6, _, _, k3, dT, by rw [a29]; exact y3, y2, rfl⟩) with ⟨z1, z2⟩ | ⟨S7, z1, z2, z3, z4⟩
  · rw [show (2 : Int32) = iN 2 from rfl, z2]
    dsimp only
    rw [if_pos (show (0 : Int32) = 0 from rfl)]
    have d1 : dT W = some 1 := by
      rcases hT2 with ⟨-, y⟩ | ⟨N3, i3, j3, k3, y3, y2⟩
      · rw [y]
      · have := y3.lt; omega
    obtain ⟨S6, w1, w2⟩ := sums _ ag4 h524
    exact Or.inl ⟨d1, S6, w1, w2⟩
  · rw [show (2 : Int32) = iN 2 from rfl, z1]
    dsimp only
    rw [if_neg (show ¬ (1 : Int32) = 0 by decide), z2]
    dsimp only
    by_cases d1 : dT W = some 1
    · rw [d1, if_pos (show (some (1 : Int32)).getD bad = 1 from rfl)]
      obtain ⟨S6, w1, w2⟩ := sums S7 (ag4.tr z3) (fun z hz => by rw [z4]; exact h524 z hz)
      refine Or.inl ⟨rfl, S6, w1, w2⟩
    · rw [if_neg (show ¬ (dT W).getD bad = 1 from fun z => by
        cases hd : dT W with
        | none => rw [hd] at z; exact absurd z (by decide)
        | some w => rw [hd] at z d1; exact d1 (by rw [show w = 1 from z]))]
      exact Or.inr ⟨d1, S7, ag4.tr z3, rfl⟩
end ONCE
