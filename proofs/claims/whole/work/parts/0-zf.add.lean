section ADD2
theorem c_goer (x : XT) (S T : ST) (h : Rel x S T) (a b c : Int32) : Call x S T (gfX10_goer_0 x S a b c) (gfX11_goer_130 x T a b c) := by
  obtain ⟨P, hP, p1, p2⟩ := h.goers
  unfold gfX10_goer_0 bfX10_goer_0_0 gfX7_addGoer_1 bfX7_addGoer_1_0 bfX7_addGoer_1_26 gfX11_goer_130 bfX11_goer_130_0 bfX11_goer_130_23
  rw [neg_1, neg_5, show (3 : Int32) = iN 4 - 1 from rfl, show (6 : Int32) = iN 6 from rfl, show (20 : Int32) = iN 20 from rfl, show (4 : Int32) = iN 4 from rfl]
  simp only [within_eq x S a 6 (by omega), within_eq x S b 20 (by omega), within_eq x S c 4 (by omega), isPark_eq, isMany_eq, lies_eq x T c 4 (by omega), bz_0, refuses_eq x T 1 (by omega) (by omega), refuses_eq x T 5 (by omega) (by omega), p1, p2]
  have ref1 : Call x S T (match gfX10_toldAnew_0 x S (-iN 1) with
      | none => none
      | some (r7, S8) => some (r7, S8)) (some (-iN 1, gR T 1)) := by
    rw [toldAnew_r x S 1 (by omega) (by omega)]
    exact ⟨_, _, _, rfl, rfl, h.ref 1 (by omega)⟩
  cases ha : inb a 6
  · exact ref1
  cases hb : inb b 20
  · exact ref1
  cases hc : inb c 4
  · exact ref1
  simp only [Bool.true_eq_false, if_false, not_false_eq_true, if_true]
  by_cases h5 : P = 5
  · subst h5
    rw [if_neg (show ¬ iN 5 < 5 by decide), if_neg (show ¬ ¬ iN 5 = 5 from fun q => q rfl)]
    dsimp only
    rw [toldAnew_r x S 5 (by omega) (by omega)]
    exact ⟨_, _, _, rfl, rfl, h.ref 5 (by omega)⟩
  · rw [if_pos (show iN P < 5 from (iN_lt (n := 5) (by omega) (by omega)).mpr (by omega)), if_pos (show ¬ iN P = 5 from fun q => h5 ((iN_eq (n := 5) (by omega) (by omega)).mp q))]
    have g : (u2 (u2 (u2 (u2 T.2.1 132 P a) 132 (5 + P) b) 132 (10 + P) 0) 132 (66 + P) c) 132 92 = iN P := by
      rw [u2_k _ _ _ (by omega), u2_k _ _ _ (by omega), u2_k _ _ _ (by omega), u2_k _ _ _ (by omega), p2]
    rw [show (0 : Int32) + iN P = iN (0 + P) from iN_add 0 P, Nat.zero_add, show (5 : Int32) + iN P = iN (5 + P) from iN_add 5 P, show (10 : Int32) + iN P = iN (10 + P) from iN_add 10 P, show (66 : Int32) + iN P = iN (66 + P) from iN_add 66 P, inb_t (show P < 5 by omega) (by omega), inb_t (show P < 5703 by omega) (by omega), inb_t (show 5 + P < 5703 by omega) (by omega), inb_t (show 10 + P < 5703 by omega) (by omega), inb_t (show 66 + P < 5703 by omega) (by omega), iN_nat (show P < 2147483648 by omega), iN_nat (show 5 + P < 2147483648 by omega), iN_nat (show 10 + P < 2147483648 by omega), iN_nat (show 66 + P < 2147483648 by omega), g, iN_succ]
    simp only [cond_true]
    rw [settled_eq, toldAnew_g x _ _ (iN_nn (by omega))]
    have r132 : (u2 (u2 (u2 (u2 (u2 T.2.1 132 P a) 132 (5 + P) b) 132 (10 + P) 0) 132 (66 + P) c) 132 92 (iN (P + 1))) 132 = u1 (u1 (u1 (u1 (u1 (T.2.1 132) P a) (5 + P) b) (10 + P) 0) (66 + P) c) 92 (iN (P + 1)) := by
      rw [u2_row, u2_row, u2_row, u2_row, u2_row]
    have aS : Agr ([(1, 6)], [7, 8, 9, 10], [], []) S (u2 S.1 1 6 (iN (P + 1)), u2 (u2 (u2 (u2 S.2.1 7 P a) 8 P b) 9 P c) 10 P 0, S.2.2.1, S.2.2.2) := Agr.i (Agr.i (Agr.i (Agr.i (Agr.f Agr.rf 1 6 _ (by decide)) 7 P a (by decide)) 8 P b (by decide)) 9 P c (by decide)) 10 P 0 (by decide)
    have aT : Agr ([], [132], [], []) T (T.1, u2 (u2 (u2 (u2 (u2 T.2.1 132 P a) 132 (5 + P) b) 132 (10 + P) 0) 132 (66 + P) c) 132 92 (iN (P + 1)), T.2.2.1, T.2.2.2) := Agr.i (Agr.i (Agr.i (Agr.i (Agr.i Agr.rf 132 P a (by decide)) 132 (5 + P) b (by decide)) 132 (10 + P) 0 (by decide)) 132 (66 + P) c (by decide)) 132 92 _ (by decide)
    refine ⟨_, _, _, rfl, rfl, h.anew (aS.sm (by decide)) (aT.sm (by decide)) ?_⟩
    show RK x _ 1 ((u2 (u2 (u2 (u2 (u2 T.2.1 132 P a) 132 (5 + P) b) 132 (10 + P) 0) 132 (66 + P) c) 132 92 (iN (P + 1))) 132)
    rw [r132]
    obtain ⟨ka, kw, kt⟩ := h.1
    refine ⟨?_, ?_, ?_⟩
    · have := ((((ka.a6 P (by omega) a).a7 P (by omega) b).a8 P (by omega) c).a9 P (by omega) 0).f6 (iN (P + 1))
      have e : u1 (u1 (u1 (u1 (T.2.1 132) P a) (5 + P) b) (66 + P) c) (10 + P) 0 = u1 (u1 (u1 (u1 (T.2.1 132) P a) (5 + P) b) (10 + P) 0) (66 + P) c := by
        funext k
        simp only [u1_if]
        by_cases h1 : k = 10 + P
        · rw [if_pos h1, if_neg (by omega), if_pos h1]
        · rw [if_neg h1, if_neg h1]
      rw [e] at this
      exact this
    · refine WF.o (WF.o (WF.m (WF.m (WF.m kw P a ?_ ?_) (5 + P) b ?_ ?_) (10 + P) 0 ?_ ?_) (66 + P) c ?_ ?_ ?_ ?_ ?_ ?_ ?_ ?_ ?_ ?_ ?_) 92 (iN (P + 1)) ?_ ?_ ?_ ?_ ?_ ?_ ?_ ?_ ?_ ?_ ?_
      all_goals first
        | omega
        | (intro e; omega)
        | exact fun g hg => ⟨fun e => by omega, fun e => by omega, fun e => by omega⟩
        | exact fun p hp e => by omega
        | exact fun p hp _ => hc
        | exact fun _ => inb_t (by omega) (by omega)
        | skip
      · exact kw.1.put P a (fun p hp => ⟨fun _ => ha, fun e => by omega, fun e => by omega⟩) (fun g hg => ⟨fun e => by omega, fun e => by omega⟩) (fun e => by omega)
      · exact (kw.1.put P a (fun p hp => ⟨fun _ => ha, fun e => by omega, fun e => by omega⟩) (fun g hg => ⟨fun e => by omega, fun e => by omega⟩) (fun e => by omega)).put (5 + P) b (fun p hp => ⟨fun e => by omega, fun _ => hb, fun e => by omega⟩) (fun g hg => ⟨fun e => by omega, fun e => by omega⟩) (fun e => by omega)
      · exact ((kw.1.put P a (fun p hp => ⟨fun _ => ha, fun e => by omega, fun e => by omega⟩) (fun g hg => ⟨fun e => by omega, fun e => by omega⟩) (fun e => by omega)).put (5 + P) b (fun p hp => ⟨fun e => by omega, fun _ => hb, fun e => by omega⟩) (fun g hg => ⟨fun e => by omega, fun e => by omega⟩) (fun e => by omega)).put (10 + P) 0 (fun p hp => ⟨fun e => by omega, fun e => by omega, fun _ => rfl⟩) (fun g hg => ⟨fun e => by omega, fun e => by omega⟩) (fun e => by omega)
    · refine kt.cgf rfl (aS.sm (L := ([], [], [], [])) (by decide)).2.2.2 ?_ (fun k hk => ?_)
      · rw [u1_n _ _ (by omega), u1_n _ _ (by omega), u1_n _ _ (by omega), u1_n _ _ (by omega), u1_n _ _ (by omega)]
      · rw [u1_n _ _ (by omega), u1_n _ _ (by omega), u1_n _ _ (by omega), u1_n _ _ (by omega), u1_n _ _ (by omega)]
/-! TERMS -/
theorem c_terms (x : XT) (S T : ST) (h : Rel x S T) (a b : Int32) : Call x S T (gfX10_terms_0 x S a b) (gfX11_terms_130 x T a b) := by
  obtain ⟨ka, kw, kt⟩ := h.1
  have k8 : S.2.1 14 0 = T.2.1 132 35 := ka.2.2.2.2.2.2.2.2.1
  have k9 : S.2.1 14 1 = T.2.1 132 89 := ka.2.2.2.2.2.2.2.2.2.1
  have k10 : S.2.1 14 2 = T.2.1 132 90 := ka.2.2.2.2.2.2.2.2.2.2
  unfold gfX10_terms_0 bfX10_terms_0_0 gfX7_changeTerm_1 bfX7_changeTerm_1_0 gfX11_terms_130 bfX11_terms_130_0 gfX11_isTerm bfX11_isTerm_0
  rw [show (3 : Int32) = iN 3 from rfl, within_eq x S a 3 (by omega), show (999 : Int32) = iN 1000 - 1 from rfl, show (9 : Int32) = iN 10 - 1 from rfl, show (10 : Int32) = iN 11 - 1 from rfl, neg_1]
  simp only [lies_eq x T b 1000 (by omega), lies_eq x T b 10 (by omega), lies_eq x T b 11 (by omega), bz_b, cond_true]
  have ref1 : Call x S T (match gfX10_toldAnew_0 x S (-iN 1) with
      | none => none
      | some (r7, S8) => some (r7, S8)) (match gfX11_refuses_130 x T (-iN 1) with
      | none => none
      | some (r22, S23) => some (r22, S23)) := by
    rw [toldAnew_r x S 1 (by omega) (by omega), refuses_eq x T 1 (by omega) (by omega)]
    exact ⟨_, _, _, rfl, rfl, h.ref 1 (by omega)⟩
  -- one of the three
  have one : ∀ (i J n : Nat), i < 3 → J < 96 → n < 2000 → S.2.1 14 i = T.2.1 132 J → ¬ T.2.1 132 J < 0 → (inb b n = true → RK x (S.1, u2 S.2.1 14 i b, S.2.2.1, S.2.2.2) 1 (u1 (T.2.1 132) J b)) → gfX11_termAt x T (iN i) = some (iN J, T) →
      Call x S T (match bfX7_changeTerm_1_32 x S (iN i) b (iN n - 1) with
        | none => none
        | some (r3, S4) => match gfX10_toldAnew_0 x S4 r3 with
          | none => none
          | some (r7, S8) => some (r7, S8)) (if ¬bz (inb b n) = 0 then match gfX11_termAt x T (iN i) with
        | none => none
        | some (r8, S9) => bif inb r8 5703 then match gfX11_termAt x S9 (iN i) with
            | none => none
            | some (r13, S14) => bif inb r13 5703 then match gfX11_settled_130 x (S14.1, u2 S14.2.1 132 r13.toNatClampNeg b, S14.2.2.1, S14.2.2.2) (S9.2.1 132 r8.toNatClampNeg) with
                  | none => none
                  | some (r18, S19) => some (r18, S19)
                else none
          else none
        else match gfX11_refuses_130 x T (-iN 1) with
        | none => none
        | some (r22, S23) => some (r22, S23)) := by
    intro i J n hi hJ hn e1 e2 hK e3
    have hl := lies_eq x S b n (by omega)
    unfold gfX11_lies bfX11_lies_0 bfX11_lies_14 bfX11_lies_15 at hl
    rw [e3]
    unfold bfX7_changeTerm_1_32 bfX7_changeTerm_1_42
    rw [neg_1]
    cases hb : inb b n with
    | false =>
      rw [if_neg (show ¬ ¬ bz false = 0 by decide)]
      have : (if b < 0 then (some (-iN 1, S) : Option (Int32 × ST)) else if b ≤ iN n - 1 then (bif inb (iN i) 3 then bif inb (iN i) 3 then some (S.2.1 14 (iN i).toNatClampNeg, S.1, u2 S.2.1 14 (iN i).toNatClampNeg b, S.2.2.1, S.2.2.2) else none else none) else some (-iN 1, S)) = some (-iN 1, S) := by
        by_cases q1 : b < 0
        · rw [if_pos q1]
        · rw [if_neg q1]
          by_cases q2 : b ≤ iN n - 1
          · exfalso
            rw [hb, if_neg q1, if_neg (Int32.not_lt.mpr q2)] at hl
            exact absurd (Prod.mk.inj (Option.some.inj (show some ((1 : Int32), S) = some (bz false, S) from hl))).1 (by decide)
          · rw [if_neg q2]
      rw [this]
      exact ref1
    | true =>
      rw [if_pos (show ¬ bz true = 0 by decide)]
      have q1 : ¬ b < 0 := ((inb_iff (by omega)).mp hb).1
      have q2 : b ≤ iN n - 1 := by
        rw [hb, if_neg q1] at hl
        by_cases q : iN n - 1 < b
        · rw [if_pos q] at hl; exact absurd (Prod.mk.inj (Option.some.inj (show some ((0 : Int32), S) = some (bz true, S) from hl))).1 (by decide)
        · exact Int32.not_lt.mp q
      rw [if_neg q1, if_pos q2, inb_t hi (by omega), iN_nat (show i < 2147483648 by omega)]
      dsimp only
      rw [inb_t (show J < 5703 by omega) (by omega), e3]
      dsimp only
      rw [inb_t (show J < 5703 by omega) (by omega), iN_nat (show J < 2147483648 by omega), e1]
      simp only [cond_true]
      rw [settled_eq, toldAnew_g x _ _ e2]
      have aS : Agr ([], [14], [], []) S (S.1, u2 S.2.1 14 i b, S.2.2.1, S.2.2.2) := Agr.i Agr.rf 14 i b (by decide)
      have aT : Agr ([], [132], [], []) T (T.1, u2 T.2.1 132 J b, T.2.2.1, T.2.2.2) := Agr.i Agr.rf 132 J b (by decide)
      refine ⟨_, _, _, rfl, rfl, h.anew (aS.sm (by decide)) (aT.sm (by decide)) ?_⟩
      show RK x _ 1 ((u2 T.2.1 132 J b) 132)
      rw [u2_row]
      exact hK hb
  have kt' : ∀ (i J : Nat), J < 94 → KT x (S.1, u2 S.2.1 14 i b, S.2.2.1, S.2.2.2) 1 (u1 (T.2.1 132) J b) := fun i J hJ => kt.cgf rfl ((Agr.i (W := ([], [14], [], [])) Agr.rf 14 i b (by decide)).sm (L := ([], [], [], [])) (by decide)).2.2.2 (u1_n _ _ (by omega)) (fun k hk => u1_n _ _ (by omega))
  cases ha : inb a 3 with
  | false =>
    have n0 : ¬ a = 0 := fun e => by rw [e] at ha; exact absurd ha (by decide)
    have n1 : ¬ a = 1 := fun e => by rw [e] at ha; exact absurd ha (by decide)
    have n2 : ¬ a = 2 := fun e => by rw [e] at ha; exact absurd ha (by decide)
    simp only [n0, n1, n2, if_false]
    exact ref1
  | true =>
    obtain ⟨i, hi, rfl⟩ := inb_ex ha
    have nn : ∀ z n, inb z n = true → n < 2147483648 → ¬ z < 0 := fun z n hz hn => ((inb_iff hn).mp hz).1
    rcases (show i = 0 ∨ i = 1 ∨ i = 2 by omega) with rfl | rfl | rfl
    · exact one 0 35 1000 (by omega) (by omega) (by omega) k8 (nn _ _ kw.1.2.2 (by omega)) (fun hb => ⟨ka.t0 b, kw.m 35 b (by omega) (kw.1.put 35 b (fun p hp => ⟨fun e => by omega, fun e => by omega, fun e => by omega⟩) (fun g hg => ⟨fun e => by omega, fun e => by omega⟩) (fun _ => hb)), kt' 0 35 (by omega)⟩) rfl
    · exact one 1 89 11 (by omega) (by omega) (by omega) k9 (nn _ _ kw.2.2.2.2.2.2.2.2.2.1 (by omega)) (fun hb => ⟨ka.t1 b, kw.o 89 b (by omega) (by omega) (by omega) (fun e => by omega) (fun e => by omega) (fun e => by omega) (fun g hg => ⟨fun e => by omega, fun e => by omega, fun e => by omega⟩) (fun p hp e => by omega) (fun s hs => ⟨fun e => by omega, fun e => by omega, fun e => by omega⟩) (fun _ => hb) (fun e => by omega), kt' 1 89 (by omega)⟩) rfl
    · exact one 2 90 10 (by omega) (by omega) (by omega) k10 (nn _ _ kw.2.2.2.2.2.2.2.2.2.2 (by omega)) (fun hb => ⟨ka.t2 b, kw.o 90 b (by omega) (by omega) (by omega) (fun e => by omega) (fun e => by omega) (fun e => by omega) (fun g hg => ⟨fun e => by omega, fun e => by omega, fun e => by omega⟩) (fun p hp e => by omega) (fun s hs => ⟨fun e => by omega, fun e => by omega, fun e => by omega⟩) (fun e => by omega) (fun _ => hb), kt' 2 90 (by omega)⟩) rfl
theorem c_force (x : XT) (S T : ST) (h : Rel x S T) (a : Int32) : Call x S T (gfX10_force_0 x S a) (gfX11_force_130 x T a) := by
  obtain ⟨ka, kw, kt⟩ := h.1
  obtain ⟨L, hL, eL⟩ := inb_ex kw.2.2.2.2.1
  have l1 : S.1 1 16 = iN L := ka.2.2.2.1.trans eL
  have k4 : S.1 1 18 = T.2.1 132 95 := ka.2.2.2.2.1
  -- which LAWS there are
  have hli : gfX11_isLaw_130 x T a = some (if a = -1 then 1 else bz (inb a L), T) := by
    have hl := lies_eq x T a L (by omega)
    unfold gfX11_isLaw_130 bfX11_isLaw_130_0
    rw [eL]
    unfold gfX11_lies bfX11_lies_0 bfX11_lies_14 bfX11_lies_15 at hl ⊢
    simp only [show bbz 0 = true from rfl, show bbz 1 = true from rfl, cond_true] at hl ⊢
    by_cases c1 : a = -1
    · subst c1
      rw [if_pos rfl, if_neg (by decide), if_neg]
      · rfl
      · intro q
        cases L with
        | zero => exact absurd q (by decide)
        | succ L =>
          rw [show iN (L + 1) - 1 = iN (L + 1 - 1) from iN_sub (n := 1) (by omega)] at q
          rw [Int32.lt_iff_toInt_lt, iN_int (by omega), show (-1 : Int32).toInt = -1 from rfl] at q
          omega
    · rw [if_neg c1]
      by_cases c2 : a < 0
      · rw [if_pos c2] at hl
        have : a < -1 := by
          have e1 := Int32.lt_iff_toInt_lt.mp c2
          rw [show (0 : Int32).toInt = 0 from rfl] at e1
          have e2 : ¬ a.toInt = -1 := fun e => c1 (Int32.toInt_inj.mp (by rw [e]; rfl))
          rw [Int32.lt_iff_toInt_lt, show (-1 : Int32).toInt = -1 from rfl]
          omega
        rw [if_pos this]
        have e := (Prod.mk.inj (Option.some.inj hl)).1
        rw [← e]
        rfl
      · have : ¬ a < -1 := fun q => c2 (by
          have e1 := Int32.lt_iff_toInt_lt.mp q
          rw [show (-1 : Int32).toInt = -1 from rfl] at e1
          rw [Int32.lt_iff_toInt_lt, show (0 : Int32).toInt = 0 from rfl]
          omega)
        rw [if_neg this]
        rw [if_neg c2] at hl
        rw [hl]
        dsimp only
        rw [bz_b, cond_true]
  have good : (a = -1 ∨ ∃ l, l < L ∧ a = iN l) → Call x S T (bfX10_force_0_23 x S a) (some (T.2.1 132 95, gG (T.1, u2 T.2.1 132 95 a, T.2.2.1, T.2.2.2))) := by
    intro ha
    unfold bfX10_force_0_23
    rw [told_g x S 0 (by decide)]
    dsimp only
    have e18 : (tG S).1 1 18 = T.2.1 132 95 := by
      show u2 S.1 0 12 0 1 18 = _
      rw [u2_n _ _ _ _ (by decide)]; exact k4
    rw [e18]
    have aS : Agr ([(1, 18)], [], [], []) S (u2 S.1 1 18 a, S.2.1, S.2.2.1, S.2.2.2) := Agr.f Agr.rf 1 18 a (by decide)
    have aT : Agr ([], [132], [], []) T (T.1, u2 T.2.1 132 95 a, T.2.2.1, T.2.2.2) := Agr.i Agr.rf 132 95 a (by decide)
    have fo : ∀ k, k ≠ 95 → u1 (T.2.1 132) 95 a k = T.2.1 132 k := fun k hk => u1_n _ _ hk
    have hR : Rel x (u2 S.1 1 18 a, S.2.1, S.2.2.1, S.2.2.2) (T.1, u2 T.2.1 132 95 a, T.2.2.1, T.2.2.2) := by
      refine h.mk2 (aS.sm (by decide)) (aT.sm (by decide)) ?_ (h.2.2.2.2.2.1.cg (show u2 S.1 1 18 a 33 0 = S.1 33 0 from u2_n _ _ _ _ (by decide)) rfl rfl (show u2 T.2.1 132 95 a 143 = T.2.1 143 from u2_ro _ _ _ (by decide)) ?_ ?_ ?_)
      · show RK x _ 1 (u2 T.2.1 132 95 a 132)
        rw [u2_row]
        refine ⟨ka.f18 a, ?_, kt.cgf rfl (aS.sm (L := ([], [], [], [])) (by decide)).2.2.2 (fo 94 (by omega)) (fun k hk => fo k (by omega))⟩
        obtain ⟨w0, w1, w2, w3, w4, w5, w6, w7, w8, w9, w10⟩ := kw
        unfold WF
        rw [fo 91 (by omega), fo 92 (by omega), fo 93 (by omega), fo 94 (by omega), u1_s, fo 89 (by omega), fo 90 (by omega)]
        refine ⟨w0.cg (fun i hi => fo i (by omega)), w1, w2, w3, w4, ?_, fun g hg => ?_, fun p hp => ?_, fun s hs => ?_, w9, w10⟩
        · rcases ha with e | ⟨l, e1, e2⟩
          · exact Or.inl e
          · exact Or.inr ⟨l, L, e2, eL, e1, by omega⟩
        · rw [fo _ (by omega), fo _ (by omega), fo _ (by omega)]; exact w6 g hg
        · rw [fo _ (by omega)]; exact w7 p hp
        · rw [fo _ (by omega), fo _ (by omega), fo _ (by omega)]; exact w8 s hs
      · intro i hi
        show u2 T.2.1 132 95 a 132 i = _
        rw [u2_row]; exact fo i (by omega)
      · show u2 T.2.1 132 95 a 132 91 = _
        rw [u2_row]; exact fo 91 (by omega)
      · show u2 T.2.1 132 95 a 132 92 = _
        rw [u2_row]; exact fo 92 (by omega)
    have hg := hR.good
    refine ⟨_, _, _, rfl, rfl, ?_⟩
    have e : (u2 (tG S).1 1 18 a, (tG S).2.1, (tG S).2.2.1, (tG S).2.2.2) = tG (u2 S.1 1 18 a, S.2.1, S.2.2.1, S.2.2.2) := by
      unfold tG
      dsimp only
      congr 1
      funext p q
      by_cases hp : p = 1
      · subst hp
        rw [u2_n _ _ _ _ (show 1 ≠ 0 by decide)]
        by_cases hq : q = 18
        · subst hq; rw [u2_s, u2_s]
        · rw [u2_k _ _ _ hq, u2_k _ _ _ hq, u2_n _ _ _ _ (by decide)]
      · rw [u2_n _ _ _ _ hp]
        by_cases hp0 : p = 0
        · subst hp0
          by_cases hq : q = 12
          · subst hq; rw [u2_s, u2_s]
          · rw [u2_k _ _ _ hq, u2_k _ _ _ hq, u2_n _ _ _ _ (by decide)]
        · rw [u2_n _ _ _ _ hp0, u2_n _ _ _ _ hp0, u2_n _ _ _ _ hp]
    rw [e]
    exact hg
  unfold gfX10_force_0 bfX10_force_0_0 gfX11_force_130 bfX11_force_130_0
  rw [hli, neg_2]
  dsimp only
  by_cases c1 : a = -1
  · rw [if_pos c1, if_pos c1, if_pos (by decide), good_eq]
    exact good (Or.inl c1)
  · rw [if_neg c1, if_neg c1, hasLaw_eq1 x S a L (by omega) l1]
    dsimp only
    cases hb : inb a L with
    | true =>
      rw [if_pos (show ¬ bz true = 0 by decide), if_pos (show ¬ bz true = 0 by decide), good_eq]
      exact good (Or.inr (inb_ex hb))
    | false =>
      rw [if_neg (show ¬ ¬ bz false = 0 by decide), if_neg (show ¬ ¬ bz false = 0 by decide), told_r x S 2 (by omega) (by omega), refuses_eq x T 2 (by omega) (by omega)]
      exact ⟨_, _, _, rfl, rfl, h.ref 2 (by omega)⟩
end ADD2
