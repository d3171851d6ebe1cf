section ASKD
theorem ask_loop (x : XT) (S0 : ST) (f : Nat → Int32) (R : RF) (hR : LR x S0 1 f R) (hW : WF f) (bits a w v3 : Int32) (hb : ¬ bits = 0) (ha : inb a 10 = true) (hw : (w = 0 ∧ v3 = 1) ∨ (w = 1 ∧ v3 = 0)) : ∀ (d m f1 f2 : Nat) (S T : ST) (b q q' : Int32), m + d = 20 → d < f1 → d < f2 → PC x S f R → T.2.1 132 = f → ((m = 0 ∧ b = -1 ∧ q = 9 ∧ q' = 1000000) ∨ (∃ b0 q0, b0 < 20 ∧ q0 ≤ 8 ∧ b = iN b0 ∧ q = iN q0 ∧ q' = iN q0)) → ∃ r S' T', lfX3_bestTrial_80_1_24 x f1 S a v3 bits b q (iN m) = some (r, S') ∧ lfX11_ask_130_33 x f2 T a w bits b q' (iN m) = some (r, T') ∧ Agr wTr S S' ∧ Agr wMo T T'
  | 0, m, f1, f2, S, T, b, q, q', hm, h1, h2, hP, hT, hq => by
    obtain ⟨f1, rfl⟩ : ∃ z, f1 = z + 1 := ⟨f1 - 1, by omega⟩
    obtain ⟨f2, rfl⟩ : ∃ z, f2 = z + 1 := ⟨f2 - 1, by omega⟩
    have e : m = 20 := by omega
    subst e
    rw [lfX3_bestTrial_80_1_24, bfX3_bestTrial_80_1_24, if_pos (show (20 : Int32) ≤ iN 20 by decide), lfX11_ask_130_33, bfX11_ask_130_33, if_pos (show (20 : Int32) ≤ iN 20 by decide)]
    unfold bfX3_bestTrial_80_1_118 bfX11_ask_130_78 bfX11_ask_130_88 bfX11_ask_130_95
    rcases hq with ⟨e, -⟩ | ⟨b0, q0, l1, l2, rfl, rfl, rfl⟩
    · omega
    · rw [if_neg (show ¬ iN b0 = -1 from fun z => by have := iN_nn (n := b0) (by omega); rw [z] at this; exact this (by decide))]
      rcases hw with ⟨rfl, rfl⟩ | ⟨rfl, rfl⟩
      · rw [if_neg (show ¬ (1 : Int32) = 0 by decide), if_neg (show ¬ ¬ (0 : Int32) = 0 from fun z => z rfl)]
        exact ⟨_, S, T, rfl, rfl, Agr.rf, Agr.rf⟩
      · rw [if_pos (show (0 : Int32) = 0 from rfl), if_pos (show ¬ (1 : Int32) = 0 by decide)]
        exact ⟨_, S, T, rfl, rfl, Agr.rf, Agr.rf⟩
  | d + 1, m, f1, f2, S, T, b, q, q', hm, h1, h2, hP, hT, hq => by
    obtain ⟨f1, rfl⟩ : ∃ z, f1 = z + 1 := ⟨f1 - 1, by omega⟩
    obtain ⟨f2, rfl⟩ : ∃ z, f2 = z + 1 := ⟨f2 - 1, by omega⟩
    have hm20 : inb (iN m) 20 = true := inb_t (by omega) (by omega)
    have n20 : ¬ (20 : Int32) ≤ iN m := fun q => by have := (iN_le (m := 20) (by omega) (by omega)).mp q; omega
    obtain ⟨A, S1, i1, i2, i3⟩ := trial_in x f R hW (lfX3_bestTrial_80_1_24 x f1) a v3 bits b q (iN m) ha hm20 8 0 20000 S (by omega) (by omega) hP (fun j hj => by omega)
    obtain ⟨A', T1, j1, j2, j3⟩ := alike_eq x S0 T f R hR hT bits a (iN m) hm20
    have eA : A' = A := j1.uniq i1
    subst eA
    have hA := i1.le
    rw [show iN 0 = 0 from rfl] at i2
    rw [lfX3_bestTrial_80_1_24, bfX3_bestTrial_80_1_24, if_neg n20, i2, lfX11_ask_130_33, bfX11_ask_130_33, if_neg n20, if_neg hb, j2]
    dsimp only
    unfold bfX11_ask_130_72
    rw [iN_succ]
    have hP1 : PC x S1 f R := hP.cg (i3.sm (by decide))
    have hT1 : T1.2.1 132 = f := (j3.2.1 132 (by decide)).trans hT
    have up : ∃ r S' T', lfX3_bestTrial_80_1_24 x f1 S1 a v3 bits (iN m) (iN A') (iN (m + 1)) = some (r, S') ∧ lfX11_ask_130_33 x f2 T1 a w bits (iN m) (iN A') (iN (m + 1)) = some (r, T') ∧ Agr wTr S S' ∧ Agr wMo T T' := by
      obtain ⟨r, S', T', r1, r2, r3, r4⟩ := ask_loop x S0 f R hR hW bits a w v3 hb ha hw d (m + 1) f1 f2 S1 T1 (iN m) (iN A') (iN A') (by omega) (by omega) (by omega) hP1 hT1 (Or.inr ⟨m, A', by omega, hA, rfl, rfl, rfl⟩)
      exact ⟨r, S', T', r1, r2, i3.tr r3, j3.tr r4⟩
    rcases hq with ⟨e, rfl, rfl, rfl⟩ | ⟨b0, q0, l1, l2, rfl, rfl, rfl⟩
    · rw [if_neg (show ¬ (9 : Int32) ≤ iN A' from fun z => by have := (iN_le (m := 9) (by omega) (by omega)).mp z; omega), if_pos (show iN A' < 1000000 from (iN_lt (n := 1000000) (by omega) (by omega)).mpr (by omega))]
      exact up
    · by_cases hc : q0 ≤ A'
      · rw [if_pos ((iN_le (by omega) (by omega)).mpr hc), if_neg (fun z => by have := (iN_lt (by omega) (by omega)).mp z; omega)]
        obtain ⟨r, S', T', r1, r2, r3, r4⟩ := ask_loop x S0 f R hR hW bits a w v3 hb ha hw d (m + 1) f1 f2 S1 T1 (iN b0) (iN q0) (iN q0) (by omega) (by omega) (by omega) hP1 hT1 (Or.inr ⟨b0, q0, l1, l2, rfl, rfl, rfl⟩)
        exact ⟨r, S', T', r1, r2, i3.tr r3, j3.tr r4⟩
      · rw [if_neg (fun z => hc ((iN_le (by omega) (by omega)).mp z)), if_pos ((iN_lt (by omega) (by omega)).mpr (by omega))]
        exact up
theorem c_ask (x : XT) (S T : ST) (h : Rel x S T) (a w : Int32) : Call x S T (gfX10_ask_0 x S a w) (gfX11_ask_130 x T a w) := by
  obtain ⟨R, hR⟩ := h.1.lr
  obtain ⟨n, S1, T1, hn, -, a1, b1, a2, b2⟩ := kinds_eq x S T h R hR
  have hl := lies_eq x T w 2 (by omega)
  rw [show iN 2 - 1 = 1 from rfl] at hl
  unfold gfX10_ask_0 bfX10_ask_0_0 bfX10_ask_0_17 gfX11_ask_130 bfX11_ask_130_0 bfX11_ask_130_16
  rw [show (10 : Int32) = iN 10 from rfl, show (2 : Int32) = iN 2 from rfl, within_eq x S a 10 (by omega), isArm_eq]
  dsimp only
  rw [within_eq x S w 2 (by omega), hl]
  cases ha : inb a 10 with
  | false =>
    rw [if_pos (show bz false = 0 from rfl), if_pos (show bz false = 0 from rfl)]
    exact ⟨_, S, T, rfl, rfl, h⟩
  | true =>
    rw [if_neg (show ¬ bz true = 0 by decide), if_neg (show ¬ bz true = 0 by decide)]
    dsimp only
    cases hw : inb w 2 with
    | false =>
      rw [if_neg (show ¬ ¬ bz false = 0 from fun z => z rfl), if_neg (show ¬ ¬ bz false = 0 from fun z => z rfl)]
      exact ⟨_, S, T, rfl, rfl, h⟩
    | true =>
      rw [if_pos (show ¬ bz true = 0 by decide), if_pos (show ¬ bz true = 0 by decide), b1]
      dsimp only
      have hP : PC x S1 (T.2.1 132) R := PC.cg ⟨hR, h.1.1⟩ (a2.sm (by decide))
      have hT1 : T1.2.1 132 = T.2.1 132 := b2.2.1 132 (by decide)
      have main : ∀ v3, ((w = 0 ∧ v3 = 1) ∨ (w = 1 ∧ v3 = 0)) → Call x S T (bfX10_ask_0_37 x S a v3) (lfX11_ask_130_33 x 20000 T1 a w (bitF R (T.2.1 132) n 8 0 0) (-1) 1000000 0) := by
        intro v3 hv
        unfold bfX10_ask_0_37 gfX3_bestTrial_80_1 bfX3_bestTrial_80_1_0
        rw [a1]
        dsimp only
        by_cases hb : bitF R (T.2.1 132) n 8 0 0 = 0
        · rw [if_neg (fun z => z hb), hb, lfX11_ask_130_33, bfX11_ask_130_33, if_neg (show ¬ (20 : Int32) ≤ 0 by decide), if_pos rfl]
          unfold bfX11_ask_130_78 bfX11_ask_130_88 bfX11_ask_130_95
          rw [if_pos rfl]
          exact ⟨_, S1, T1, rfl, rfl, h.scr a2 (by decide) b2 (by decide)⟩
        · rw [if_pos hb]
          obtain ⟨r, S', T', r1, r2, r3, r4⟩ := ask_loop x S (T.2.1 132) R hR h.1.2.1 (bitF R (T.2.1 132) n 8 0 0) a w v3 hb ha hv 20 0 20000 20000 S1 T1 (-1) 9 1000000 (by omega) (by omega) (by omega) hP hT1 (Or.inl ⟨rfl, rfl, rfl, rfl⟩)
          rw [show iN 0 = 0 from rfl] at r1 r2
          rw [r1, r2]
          exact ⟨r, S', T', rfl, rfl, (h.scr a2 (by decide) b2 (by decide)).scr r3 (by decide) r4 (by decide)⟩
      obtain ⟨w0, hw0, rfl⟩ := inb_ex hw
      rcases (show w0 = 0 ∨ w0 = 1 by omega) with rfl | rfl
      · rw [if_neg (show ¬ ¬ iN 0 = 0 from fun z => z rfl)]
        exact main 1 (Or.inl ⟨rfl, rfl⟩)
      · rw [if_pos (show ¬ iN 1 = 0 by decide)]
        exact main 0 (Or.inr ⟨rfl, rfl⟩)
end ASKD
