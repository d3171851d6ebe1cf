section RUNS
/-- while ORDERS are run: k done -/
def OI (x : XT) (S0 T0 S T : ST) (k : Nat) : Prop := Rel x S T ∧ Agr wX5_run_51_25 S0 S ∧ Agr wX11_runs_130 T0 T ∧ Hi36 T0 T ∧ S.1 51 0 = iN k ∧ T.1 130 27 = iN k ∧ S.1 51 1 = T.1 130 28 ∧ ¬ S.1 51 1 = -2000000000
/-- ORDERS have stopped -/
def OF (x : XT) (S0 T0 S T : ST) : Prop := Rel x S T ∧ Agr wX5_run_51_25 S0 S ∧ Agr wX11_runs_130 T0 T ∧ Hi36 T0 T
theorem Ld.hi {T0 T : ST} {cd vl : Nat → Int32} {n : Nat} (h : Ld (T0.2.1 132) cd vl n) (hi : Hi36 T0 T) : Ld (T.2.1 132) cd vl n := ⟨h.1, h.2.1, fun z hz => by rw [hi _ (by omega), hi _ (by omega)]; exact h.2.2 z hz⟩
/-- a change that OI does not see -/
theorem OI.sc {x : XT} {S0 T0 S T S' T' : ST} {k : Nat} (h : OI x S0 T0 S T k) (a : Agr wO5 S S') (b : Agr wX11_goesAlong_130 T T') : OI x S0 T0 S' T' k := by
  obtain ⟨h1, h2, h3, h4, h5, h6, h7, h8⟩ := h
  refine ⟨h1.scr a (by decide) b (by decide), h2.tr (a.sub (by decide)), h3.tr (b.sub (by decide)), h4.tr (Hi36.of (b.2.1 132 (by decide))), ?_, ?_, ?_, ?_⟩
  · rw [a.1 51 0 (by decide)]; exact h5
  · rw [b.1 130 27 (by decide)]; exact h6
  · rw [a.1 51 1 (by decide), b.1 130 28 (by decide)]; exact h7
  · rw [a.1 51 1 (by decide)]; exact h8
theorem OI.of {x : XT} {S0 T0 S T : ST} {k : Nat} (h : OI x S0 T0 S T k) : OF x S0 T0 S T := ⟨h.1, h.2.1, h.2.2.1, h.2.2.2.1⟩
theorem OI.p44 {x : XT} {S0 T0 S T : ST} {k : Nat} (h : OI x S0 T0 S T k) (v : Int32) : OI x S0 T0 S (u2 T.1 130 44 v, T.2.1, T.2.2.1, T.2.2.2) k := by
  obtain ⟨h1, h2, h3, h4, h5, h6, h7, h8⟩ := h
  have b : Agr ([(130, 44)], [], [], []) T (u2 T.1 130 44 v, T.2.1, T.2.2.1, T.2.2.2) := Agr.f Agr.rf 130 44 v (by decide)
  refine ⟨h1.scr (W := ([], [], [], [])) Agr.rf (by decide) b (by decide), h2, h3.tr (b.sub (by decide)), h4, h5, ?_, ?_, h8⟩
  · rw [b.1 130 27 (by decide)]; exact h6
  · rw [b.1 130 28 (by decide)]; exact h7
def OnceO (x : XT) (S0 T0 : ST) (T : ST) (n k : Nat) (K : ST → Int32 → Int32 → Int32 → Int32 → Option (Int32 × ST)) (v2 v3 v4 : Int32) (rc rr : Option (Int32 × ST)) : Prop := (∃ S' T' k', rc = some (1, S') ∧ rr = K T' (iN (2400 + n)) v2 v3 (v4 + 1) ∧ OI x S0 T0 S' T' k' ∧ k' ≤ k + 1 ∧ T'.1 130 44 = T.1 130 44) ∨ (∃ S' T', rc = some (0, S') ∧ rr = some (0, T') ∧ OF x S0 T0 S' T')
set_option maxRecDepth 4000 in
theorem once (x : XT) {S0 T0 S T : ST} {k : Nat} (h : OI x S0 T0 S T k) (hk : k < 1000) {cd vl : Nat → Int32} {n Z c i j u t : Nat} {dA dB dT : DN} (hL : Ld (T0.2.1 132) cd vl n) (hsz : S0.1 25 1 = iN Z) (hZ : Z ≤ 400) (hc : c < 12) (hO : OCl cd vl (S0.2.1 29) (S0.2.1 26) (S0.2.1 27) (S0.2.1 28) Z c i j u t dA dB dT) (hj : j ≤ n) (he : cd j = iN 159 ∨ j = n) (e44 : T.1 130 44 = iN (i + 2400)) (K : ST → Int32 → Int32 → Int32 → Int32 → Option (Int32 × ST)) (v2 v3 v4 : Int32) (hv : ¬ v2 ≤ v4) : OnceO x S0 T0 T n k K v2 v3 v4 (gfX5_runOnce_51_25 x S (iN c)) (bfX11_runs_130_19 x K T (iN (2400 + n)) v2 v3 v4) := by
  have hI := h
  obtain ⟨h1, h2, h3, h4, h5, h6, h7, h8⟩ := h
  obtain ⟨G, hG, g1, g2⟩ := h1.gates
  obtain ⟨P, hP, p1, p2⟩ := h1.goers
  have s26 : S.2.1 26 = S0.2.1 26 := h2.2.1 26 (by decide)
  have s27 : S.2.1 27 = S0.2.1 27 := h2.2.1 27 (by decide)
  have s28 : S.2.1 28 = S0.2.1 28 := h2.2.1 28 (by decide)
  have s29 : S.2.1 29 = S0.2.1 29 := h2.2.1 29 (by decide)
  have hO' : OCl cd vl (S.2.1 29) (S.2.1 26) (S.2.1 27) (S.2.1 28) Z c i j u t dA dB dT := by rw [s26, s27, s28, s29]; exact hO
  obtain ⟨X, r1, r2, r3, r4⟩ := goes x T cd vl _ _ _ _ n (hL.hi h4) G P hG hP g2 p2 Z c i j u t dA dB dT hO hj he e44 1 (Or.inr rfl)
  obtain ⟨r5, r6⟩ := r4 rfl
  have fT := frX11_goesAlong_130 x T _ _ _ _ r1
  have hcl := cls_once x S (T.2.1 132) cd vl h1.1.1 G P hG hP g2 p2 Z c i j u t hZ ((h2.1 25 1 (by decide)).trans hsz) hc dA dB dT hO' (oW (T.2.1 132) (T.1 130 27) (T.1 130 28) G P) (by rw [h5, h6, h7])
  have wnb := oW_nb h1.1.2.1.1 (dn := T.1 130 27) (lt := T.1 130 28) (by rw [h6]; exact iN_nb (by omega)) (by rw [← h7]; exact h8) hG hP
  unfold bfX11_runs_130_19 bfX11_runs_130_55 bfX11_runs_130_67
  rw [if_neg hv, r1]
  dsimp only
  rw [r5]
  rcases hcl with ⟨d1, S5, a5, e5⟩ | ⟨d1, S5, a5, e5⟩
  · rw [e5, if_pos d1, if_pos (show ¬ (1 : Int32) = 0 by decide)]
    have hI5 := hI.sc a5 fT
    obtain ⟨j1, j2, a0, a1, a2, a3, N, k1, k2, hu, hci, hvb, -, -, -, -, -, -, hA, hB, hT⟩ := hO
    rcases r6 with ⟨a, b, y1, y2, y3⟩ | ⟨y1, y2⟩
    · rw [y3, if_neg (show ¬ (1 : Int32) = 0 by decide)]
      have na : ¬ vA u (dA (oW (T.2.1 132) (T.1 130 27) (T.1 130 28) G P)) = -2000000000 := by
        unfold vA
        by_cases u3 : u = 3
        · rw [if_pos u3]; decide
        · rw [if_neg u3, (y1 (by omega)).1]
          rcases hA with ⟨z, -⟩ | ⟨-, -, gA⟩
          · omega
          · exact Gr.nb (o := true) (fun w hw => wnb w hw) gA (by omega) a (y1 (by omega)).1
      have nb : ¬ vB u (dB (oW (T.2.1 132) (T.1 130 27) (T.1 130 28) G P)) = -2000000000 := by
        unfold vB
        by_cases u3 : u = 0 ∨ u = 2
        · rw [if_pos u3, (y2 u3).1]
          rcases hB with ⟨z, -⟩ | ⟨-, -, gB⟩
          · omega
          · exact Gr.nb (o := true) (fun w hw => wnb w hw) gB (by omega) b (y2 u3).1
        · rw [if_neg u3]; decide
      have v0 : u ≤ 2 → X.2.2.1 156 0 = (vA u (dA (oW (T.2.1 132) (T.1 130 27) (T.1 130 28) G P))).toInt64 := fun hu2 => by
        unfold vA
        rw [if_neg (by omega), (y1 hu2).1, (y1 hu2).2]
        rfl
      have v1 : u = 0 ∨ u = 2 → X.2.2.1 156 1 = (vB u (dB (oW (T.2.1 132) (T.1 130 27) (T.1 130 28) G P))).toInt64 := fun hu2 => by
        unfold vB
        rw [if_pos hu2, (y2 hu2).1, (y2 hu2).2]
        rfl
      obtain ⟨r, S', T', w1, w2, w3, w4, w5⟩ := obey x S5 X hI5.1 c u hc hu r2.2.2.2.2.2.1 (by rw [a5.2.1 26 (by decide), s26]; exact hvb) _ _ na nb v0 v1 hI5.2.2.2.2.2.2.1 hI5.2.2.2.2.2.2.2
      have fo := frX11_obeys_130 x X _ _ w2
      have fR := frX5_runOnce_51_25 x S (iN c) _ _ (e5.trans w1)
      rw [w1, w2]
      dsimp only
      have aS : Agr wX5_run_51_25 S0 S' := h2.tr (fR.sub (by decide))
      have aT : Agr wX11_runs_130 T0 T' := (h3.tr (fT.sub (by decide))).tr (fo.sub (by decide))
      have hi : Hi36 T0 T' := (h4.tr (Hi36.of (fT.2.1 132 (by decide)))).tr w4
      by_cases c0 : 0 ≤ r
      · rw [if_pos c0, if_pos c0]
        obtain ⟨o1, o2, o3⟩ := w5 c0
        have b : Agr ([(130, 27)], [], [], []) T' (u2 T'.1 130 27 (T'.1 130 27 + 1), T'.2.1, T'.2.2.1, T'.2.2.2) := Agr.f Agr.rf 130 27 _ (by decide)
        have t27 : T'.1 130 27 = iN k := by rw [fo.1 130 27 (by decide), fT.1 130 27 (by decide)]; exact h6
        refine Or.inl ⟨S', _, k + 1, rfl, rfl, ⟨w3.scr (W := ([], [], [], [])) Agr.rf (by decide) b (by decide), aS, aT.tr (b.sub (by decide)), hi, ?_, ?_, ?_, o3⟩, Nat.le_refl _, ?_⟩
        · rw [o1, a5.1 51 0 (by decide), h5, iN_succ]
        · show u2 T'.1 130 27 (T'.1 130 27 + 1) 130 27 = _
          rw [u2_s, t27, iN_succ]
        · rw [b.1 130 28 (by decide)]; exact o2
        · rw [b.1 130 44 (by decide), fo.1 130 44 (by decide), fT.1 130 44 (by decide)]
      · rw [if_neg c0, if_neg c0]
        exact Or.inr ⟨S', T', rfl, rfl, w3, aS, aT, hi⟩
    · rw [y2, if_pos (show (0 : Int32) = 0 from rfl)]
      refine Or.inr ⟨S5, X, ?_, rfl, hI5.of⟩
      unfold bfX5_runOnce_51_25_88 bfX5_runOnce_51_25_103
      rcases y1 with ⟨z1, z2⟩ | ⟨z1, z2⟩
      · rw [if_pos (show vA u _ = -2000000000 by unfold vA; rw [if_neg (by omega), z2]; rfl)]
      · by_cases cA : vA u (dA (oW (T.2.1 132) (T.1 130 27) (T.1 130 28) G P)) = -2000000000
        · rw [if_pos cA]
        · rw [if_neg cA, if_neg (fun z => z (show vB u _ = -2000000000 by unfold vB; rw [if_pos z1, z2]; rfl))]
  · rw [e5, if_neg d1, if_neg (show ¬ ¬ (0 : Int32) = 0 from fun z => z rfl)]
    exact Or.inl ⟨S5, X, k, rfl, rfl, hI.sc a5 fT, by omega, fT.1 130 44 (by decide)⟩
end RUNS
