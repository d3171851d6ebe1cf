section COMPARE
theorem isLaw_eq (x : XT) (T : ST) (a : Int32) (L : Nat) (hL : L < 7) (eL : T.2.1 132 94 = iN L) : gfX11_isLaw_130 x T a = some (if a = -1 then 1 else bz (inb a L), T) := by
  have hl := lies_eq x T a L (by omega)
  unfold gfX11_isLaw_130 bfX11_isLaw_130_0
  rw [eL]
  unfold gfX11_lies bfX11_lies_0 bfX11_lies_14 bfX11_lies_15 at hl ⊢
  simp only [show bbz 0 = true from rfl, show bbz 1 = true from rfl, cond_true] at hl ⊢
  by_cases c1 : a = -1
  · subst c1
    rw [if_pos rfl, if_neg (by decide), if_neg]
    · rfl
    · intro q
      cases L with
      | zero => exact absurd q (by decide)
      | succ L =>
        rw [show iN (L + 1) - 1 = iN (L + 1 - 1) from iN_sub (n := 1) (by omega)] at q
        rw [Int32.lt_iff_toInt_lt, iN_int (by omega), show (-1 : Int32).toInt = -1 from rfl] at q
        omega
  · rw [if_neg c1]
    by_cases c2 : a < 0
    · rw [if_pos c2] at hl
      have : a < -1 := by
        have e1 := Int32.lt_iff_toInt_lt.mp c2
        rw [show (0 : Int32).toInt = 0 from rfl] at e1
        have e2 : ¬ a.toInt = -1 := fun e => c1 (Int32.toInt_inj.mp (by rw [e]; rfl))
        rw [Int32.lt_iff_toInt_lt, show (-1 : Int32).toInt = -1 from rfl]
        omega
      rw [if_pos this]
      have e := (Prod.mk.inj (Option.some.inj hl)).1
      rw [← e]
      rfl
    · have : ¬ a < -1 := fun q => c2 (by
        have e1 := Int32.lt_iff_toInt_lt.mp q
        rw [show (-1 : Int32).toInt = -1 from rfl] at e1
        rw [Int32.lt_iff_toInt_lt, show (0 : Int32).toInt = 0 from rfl]
        omega)
      rw [if_neg this]
      rw [if_neg c2] at hl
      rw [hl]
      dsimp only
      rw [bz_b, cond_true]
theorem WF.law {f : Nat → Int32} (h : WF f) (a : Int32) (L : Nat) (hL : L < 7) (eL : f 94 = iN L) (ha : a = -1 ∨ ∃ l, l < L ∧ a = iN l) : WF (u1 f 95 a) := by
  have fo : ∀ k, k ≠ 95 → u1 f 95 a k = f k := fun k hk => u1_n _ _ hk
  obtain ⟨w0, w1, w2, w3, w4, w5, w6, w7, w8, w9, w10⟩ := h
  unfold WF
  rw [fo 91 (by omega), fo 92 (by omega), fo 93 (by omega), fo 94 (by omega), u1_s, fo 89 (by omega), fo 90 (by omega)]
  refine ⟨w0.cg (fun i hi => fo i (by omega)), w1, w2, w3, w4, ?_, fun g hg => ?_, fun p hp => ?_, fun s hs => ?_, w9, w10⟩
  · rcases ha with e | ⟨l, e1, e2⟩
    · exact Or.inl e
    · exact Or.inr ⟨l, L, e2, eL, e1, by omega⟩
  · rw [fo _ (by omega), fo _ (by omega), fo _ (by omega)]; exact w6 g hg
  · rw [fo _ (by omega)]; exact w7 p hp
  · rw [fo _ (by omega), fo _ (by omega), fo _ (by omega)]; exact w8 s hs
/-- begun, with all LAWS at hand -/
theorem begin_rk (x : XT) (S : ST) (f : Nat → Int32) (h : RK x S 1 f) (p : Nat) : ∃ S', gfX6_begin_54_1 x S (iN p) = some ((), S') ∧ RK x S' 55 f ∧ S'.1 54 2 = iN p ∧ ∀ j, j < 200 → S'.2.1 70 j = -2 := by
  obtain ⟨S1, c1, c2⟩ := copy55_1 x S h.2.2.1 h.opn
  have b1 := frX7_copyFrom_55_1 x S _ _ c1
  obtain ⟨S2, d1, d2⟩ := fill70 x (u2 S1.1 54 2 (iN p), S1.2.1, S1.2.2.1, S1.2.2.2) (-2)
  have b2 := frJ7_fill_53178_70 x _ _ _ _ d1
  have s158 : ∀ a, 158 ≤ a → S1.1 a = S.1 a ∧ S1.2.1 a = S.2.1 a := (b1.sm (L := ([], [], [], [])) (by decide)).2.2.2
  have hK := c2.rk h s158
  have b3 : Agr ([(54, 2)], [70], [], []) S1 S2 := (Agr.f Agr.rf 54 2 _ (by decide)).tr (b2.sub (by decide))
  refine ⟨S2, ?_, hK.cg (b3.sm (by decide)), ?_, d2⟩
  · unfold gfX6_begin_54_1 bfX6_begin_54_1_0
    rw [c1]
    dsimp only
    rw [d1]
  · rw [b2.1 54 2 (by decide)]
    exact u2_s S1.1 54 2 _
theorem u1_back {α : Type} (f : Nat → α) (k : Nat) (v : α) : u1 (u1 f k v) k (f k) = f := by
  funext j
  by_cases e : j = k
  · subst e; rw [u1_s]
  · rw [u1_n _ _ e, u1_n _ _ e]
theorem c_compare (x : XT) (S T : ST) (h : Rel x S T) (a b c d : Int32) : Call x S T (gfX10_compare_0 x S a b c d) (gfX11_compare_130 x T a b c d) := by
  obtain ⟨P, hP, p1, p2⟩ := h.goers
  obtain ⟨ka, kw, kt⟩ := h.1
  obtain ⟨L, hL, eL⟩ := inb_ex kw.2.2.2.2.1
  have l1 : S.1 1 16 = iN L := ka.2.2.2.1.trans eL
  have main : (a = -1 ∨ ∃ l, l < L ∧ a = iN l) → ∃ r S' T', bfX10_compare_0_16 x S a b c d = some (r, S') ∧ gfX11_way_130 x (T.1, (u2 T.2.1 132 95 a), T.2.2.1, T.2.2.2) b c d (-1) = some (r, T') := by
    intro ha
    have e132 : (u2 T.2.1 132 95 a) 132 = u1 (T.2.1 132) 95 a := u2_row _ _ _ _
    have fo : ∀ k, k ≠ 95 → u1 (T.2.1 132) 95 a k = T.2.1 132 k := fun k hk => u1_n _ _ hk
    unfold bfX10_compare_0_16 bfX10_compare_0_27 gfX11_way_130 bfX11_way_130_0 bfX11_way_130_22 bfX11_way_130_75 bfX11_way_130_92
    rw [canSeek_eq x S b c d P (by omega) p1, isGoer_eq x (T.1, (u2 T.2.1 132 95 a), T.2.2.1, T.2.2.2) b P (by omega) (show (u2 T.2.1 132 95 a) 132 92 = iN P by rw [e132, fo 92 (by omega)]; exact p2), Bool.and_assoc]
    dsimp only
    rw [canGoal_eq]
    dsimp only
    cases hb : inb b P with
    | false =>
      rw [if_pos (show bz false = 0 from rfl), Bool.false_and, if_neg (show ¬ ¬ bz false = 0 from fun z => z rfl)]
      exact ⟨_, _, _, rfl, rfl⟩
    | true =>
      rw [if_neg (show ¬ bz true = 0 by decide), Bool.true_and]
      cases hc : (inb c 6 && (decide (d = -1) || inb d 20)) with
      | false =>
        rw [if_neg (show ¬ ¬ bz false = 0 from fun z => z rfl), if_pos (show bz false = 0 from rfl)]
        exact ⟨_, _, _, rfl, rfl⟩
      | true =>
        rw [if_pos (show ¬ bz true = 0 by decide), if_neg (show ¬ bz true = 0 by decide)]
        obtain ⟨p, hp, rfl⟩ := inb_ex hb
        obtain ⟨G, hG, g1, g2⟩ := h.gates
        obtain ⟨S1, s1, s2, s3, s4⟩ := begin_rk x S _ h.1 p
        have hW : WF (u1 (T.2.1 132) 95 a) := kw.law a L hL eL ha
        have aS : Agr ([(55, 18)], [], [], []) S1 (u2 S1.1 55 18 a, S1.2.1, S1.2.2.1, S1.2.2.2) := Agr.f Agr.rf 55 18 a (by decide)
        have hK : RK x (u2 S1.1 55 18 a, S1.2.1, S1.2.2.1, S1.2.2.2) 55 (u1 (T.2.1 132) 95 a) := ⟨s2.1.f18 a, hW, s2.2.2.cgf rfl (aS.sm (L := ([], [], [], [])) (by decide)).2.2.2 (fo 94 (by omega)) (fun k hk => fo k (by omega))⟩
        obtain ⟨R, hR⟩ := hK.lr
        have hB : BC x (u2 S1.1 55 18 a, S1.2.1, S1.2.2.1, S1.2.2.2) (u1 (T.2.1 132) 95 a) R p := ⟨hR, hK.1, (show u2 S1.1 55 18 a 54 2 = iN p by rw [u2_n _ _ _ _ (by decide)]; exact s3), fun g m hg hm => Or.inl (s4 _ (by omega))⟩
        have h91 : u1 (T.2.1 132) 95 a 91 = iN G := by rw [fo 91 (by omega)]; exact g2
        obtain ⟨T1, c1, c2, c3⟩ := laysOut_eq x _ (T.1, (u2 T.2.1 132 95 a), T.2.2.1, T.2.2.2) 55 _ R hR p G (by omega) hG h91 e132
        have hs := pl0_lt hW p (by omega)
        obtain ⟨S2, T2, r, q1, q2, q3, q4⟩ := len_both x _ R p G (by omega) hW hG h91 c d _ T1 hB c2
        rw [s1]
        dsimp only
        unfold gfX6_tryLaw_54 bfX6_tryLaw_54_0
        dsimp only
        rw [q1, if_pos (show (-1 : Int32) ≤ -1 by decide), c1]
        dsimp only
        rw [q2]
        dsimp only
        rw [placeOf_eq x T2 _ p (by omega) hW q3]
        dsimp only
        rw [inb_t hs (by omega), cond_true, iN_nat (by omega), if_pos (show (-1 : Int32) = -1 from rfl), if_neg (show ¬ ¬ (-1 : Int32) = -1 from fun z => z rfl)]
        rcases q4 with ⟨z1, z2⟩ | ⟨z1, z2⟩
        · rw [if_pos z1, cond_true, z2]
          exact ⟨_, _, _, rfl, rfl⟩
        · rw [if_neg z1, z2]
          exact ⟨_, _, _, rfl, rfl⟩
  have fin : (a = -1 ∨ ∃ l, l < L ∧ a = iN l) → gfX10_compare_0 x S a b c d = bfX10_compare_0_16 x S a b c d → (∀ r T', gfX11_way_130 x (T.1, (u2 T.2.1 132 95 a), T.2.2.1, T.2.2.2) b c d (-1) = some (r, T') → gfX11_compare_130 x T a b c d = some (r, (T'.1, (u2 T'.2.1 132 95 (T.2.1 132 95)), T'.2.2.1, T'.2.2.2))) → Call x S T (gfX10_compare_0 x S a b c d) (gfX11_compare_130 x T a b c d) := by
    intro ha e1 e2
    obtain ⟨r, S', T', m1, m2⟩ := main ha
    have e2 := e2 r T' m2
    rw [m1] at e1
    have fT := frX11_way_130 x _ _ _ _ _ _ _ m2
    have e132 : T'.2.1 132 = u1 (T.2.1 132) 95 a := (fT.2.1 132 (by decide)).trans (show (u2 T.2.1 132 95 a) 132 = u1 (T.2.1 132) 95 a from u2_row _ _ _ _)
    have aT : Agr wX11_way_130 T (T'.1, (u2 T'.2.1 132 95 (T.2.1 132 95)), T'.2.2.1, T'.2.2.2) := by
      refine ⟨fT.1, fun q hq => ?_, fT.2.2.1, fT.2.2.2⟩
      by_cases e : q = 132
      · subst e
        show (u2 T'.2.1 132 95 (T.2.1 132 95)) 132 = _
        rw [u2_row, e132, u1_back]
      · show (u2 T'.2.1 132 95 (T.2.1 132 95)) q = _
        rw [u2_ro _ _ _ e, fT.2.1 q hq]
        exact u2_ro _ _ _ e
    exact Call.of h e1 e2 (frX10_compare_0 x S _ _ _ _ _ _ e1) (by decide) aT (by decide)
  by_cases c1 : a = -1
  · refine fin (Or.inl c1) ?_ ?_
    · unfold gfX10_compare_0 bfX10_compare_0_0
      rw [if_pos c1]
    · intro r T' m
      unfold gfX11_compare_130 bfX11_compare_130_0
      rw [isLaw_eq x T a L hL eL, if_pos c1]
      dsimp only
      rw [if_pos (by decide), m]
  · cases hb : inb a L with
    | true =>
      refine fin (Or.inr (inb_ex hb)) ?_ ?_
      · unfold gfX10_compare_0 bfX10_compare_0_0
        rw [if_neg c1, hasLaw_eq1 x S a L (by omega) l1, hb]
        dsimp only
        rw [if_neg (by decide)]
      · intro r T' m
        unfold gfX11_compare_130 bfX11_compare_130_0
        rw [isLaw_eq x T a L hL eL, if_neg c1, hb]
        dsimp only
        rw [if_pos (by decide), m]
    | false =>
      have e1 : gfX10_compare_0 x S a b c d = some (-1, S) := by
        unfold gfX10_compare_0 bfX10_compare_0_0 bfX10_compare_0_27
        rw [if_neg c1, hasLaw_eq1 x S a L (by omega) l1, hb]
        dsimp only
        rw [if_pos (by decide)]
      have e2 : gfX11_compare_130 x T a b c d = some (-1, T) := by
        unfold gfX11_compare_130 bfX11_compare_130_0
        rw [isLaw_eq x T a L hL eL, if_neg c1, hb]
        dsimp only
        rw [if_neg (by decide)]
      exact ⟨_, _, _, e1, e2, h⟩
end COMPARE
