section LAWTWO
theorem Rel.tside {x : XT} {S T T' : ST} (h : Rel x S T) (t1 : ∀ q ∈ lR.1, T'.1 q.1 q.2 = T.1 q.1 q.2) (t2 : ∀ a ∈ lR.2.1, T'.2.1 a = T.2.1 a) : Rel x S T' := by
  obtain ⟨h1, h2, h3, h4, h5, h6, h7, h8⟩ := h
  have e131 := t2 131 (by decide)
  have e132 := t2 132 (by decide)
  have e133 := t2 133 (by decide)
  have e134 := t2 134 (by decide)
  have e136 := t2 136 (by decide)
  have e137 := t2 137 (by decide)
  have e143 := t2 143 (by decide)
  have e157 := t2 157 (by decide)
  have t0 := t1 (130, 0) (by decide)
  have t6 := t1 (130, 6) (by decide)
  have t13 := t1 (130, 13) (by decide)
  have t14 := t1 (130, 14) (by decide)
  have t31 := t1 (130, 31) (by decide)
  have t43 := t1 (130, 43) (by decide)
  have t51 := t1 (130, 51) (by decide)
  dsimp only at t0 t6 t13 t14 t31 t43 t51
  refine ⟨by rw [e132]; exact h1, ?_, ?_, ?_, ?_, ?_, ?_, ?_⟩
  · unfold RelI; rw [e133, e134]; exact h2
  · unfold RelT; rw [t13, e137]; exact h3
  · unfold RelS; rw [e131, t0]; exact h4
  · unfold RelM; rw [t14, t43, t6]; exact h5
  · unfold RelU; rw [t31, e143, e132]; exact h6
  · unfold RelD; rw [t51, e157]; exact h7
  · unfold RelC; rw [e136]; exact h8
theorem Rel.self {x : XT} {S T : ST} {V : WS} (h : Rel x S T) (a : Agr V S T) (d : dj V lC = true) : Rel x T T := h.cg (a.sm d) (Agr.sm (W := ([], [], [], [])) Agr.rf (by decide))
theorem lR_lt : (∀ q ∈ lR.1, q.1 < 158) ∧ ∀ a ∈ lR.2.1, a < 158 := by decide
theorem law_two (x : XT) (S : ST) (h : Rel x S S) (hx : XW x) :
    (¬ S.1 1 16 < 6 ∧ ∃ S' S2 T', gfX8_clear_18 x S = some ((), S') ∧ gfX10_told_0 x S' (-5) = some (-5, S2) ∧ gfX11_law_130 x S2 = some (-5, T') ∧ Rel x T' T') ∨
    (S.1 1 16 < 6 ∧ ∃ S4 S5 T', gfX10_readTape_0 x S 0 = some (0, S4) ∧ gfX10_told_0 x S4 (-6) = some (-6, S5) ∧ gfX11_law_130 x S5 = some (-6, T') ∧ Rel x T' T') ∨
    (S.1 1 16 < 6 ∧ ∃ S4 C Z L, gfX10_readTape_0 x S 0 = some (1, S4) ∧ C ≤ 12 ∧ Z ≤ 400 ∧ S4.1 25 0 = iN C ∧ S4.1 25 1 = iN Z ∧ ∀ x' S5, NewT x x' S4 S5 C Z → ∃ S6 S7 T', gfX7_addLaw_1_T x' S5 (158 + x.1) = some (iN L, S6) ∧ gfX10_told_0 x' S6 (iN L) = some (iN L, S7) ∧ gfX11_law_130 x' S7 = some (iN L, T') ∧ Rel x' T' T' ∧ XW x') := by
  rcases law_pure x S S h hx with ⟨c, S', T', S2, e1, -, e3, -⟩ | ⟨c, S4, T', S5, e1, -, e3, -⟩ | ⟨c, S4, T', C, Z, L, e1, hC, hZ, e4, e5, -, hN⟩
  · refine Or.inl ⟨c, S', S2, ?_⟩
    have h2 : Rel x S S2 := h.tside (fun q hq => ((frX10_told_0 x S' _ _ _ e3).sm (L := lR) (by decide)).1 q hq |>.trans (((frX8_clear_18 x S _ _ e1).sm (L := lR) (by decide)).1 q hq)) (fun q hq => ((frX10_told_0 x S' _ _ _ e3).sm (L := lR) (by decide)).2.1 q hq |>.trans (((frX8_clear_18 x S _ _ e1).sm (L := lR) (by decide)).2.1 q hq))
    rcases law_pure x S S2 h2 hx with ⟨-, A', B', A2, f1, f2, f3, f4⟩ | ⟨c', -⟩ | ⟨c', -⟩
    · rw [e1] at f1
      injection f1 with q; injection q with q1 q2
      subst q2
      rw [e3] at f3
      injection f3 with q; injection q with q1 q2
      subst q2
      exact ⟨B', e1, e3, f2, f4.self (frX11_law_130 x S2 _ _ f2) (by decide)⟩
    · exact absurd c' c
    · exact absurd c' c
  · refine Or.inr (Or.inl ⟨c, S4, S5, ?_⟩)
    have h2 : Rel x S S5 := h.tside (fun q hq => ((frX10_told_0 x S4 _ _ _ e3).sm (L := lR) (by decide)).1 q hq |>.trans (((frX10_readTape_0 x S _ _ _ e1).sm (L := lR) (by decide)).1 q hq)) (fun q hq => ((frX10_told_0 x S4 _ _ _ e3).sm (L := lR) (by decide)).2.1 q hq |>.trans (((frX10_readTape_0 x S _ _ _ e1).sm (L := lR) (by decide)).2.1 q hq))
    rcases law_pure x S S5 h2 hx with ⟨c', -⟩ | ⟨-, A4, B', A5, f1, f2, f3, f4⟩ | ⟨-, A4, B', C', Z', L', f1, -⟩
    · exact absurd c c'
    · rw [e1] at f1
      injection f1 with q; injection q with q1 q2
      subst q2
      rw [e3] at f3
      injection f3 with q; injection q with q1 q2
      subst q2
      exact ⟨B', e1, e3, f2, f4.self (frX11_law_130 x S5 _ _ f2) (by decide)⟩
    · rw [e1] at f1
      injection f1 with q; injection q with q1 q2
      exact absurd q1 (by decide)
  · refine Or.inr (Or.inr ⟨c, S4, C, Z, L, e1, hC, hZ, e4, e5, fun x' S5 nt => ?_⟩)
    obtain ⟨S6, S7, g1, g2, -, gx⟩ := hN x' S5 nt
    have se := nt.2.2.2.2.2.2.2.1
    have fa := (frX7_addLaw_1_T x' S5 _ _ _ g1).sm (L := lR) (by decide)
    have ft := (frX10_told_0 x' S6 _ _ _ g2).sm (L := lR) (by decide)
    have fr := (frX10_readTape_0 x S _ _ _ e1).sm (L := lR) (by decide)
    have h2 : Rel x S S7 := h.tside (fun q hq => (ft.1 q hq).trans ((fa.1 q hq).trans ((congrFun (se q.1 (by have := lR_lt.1 q hq; omega)).1 q.2).trans (fr.1 q hq)))) (fun a ha => (ft.2.1 a ha).trans ((fa.2.1 a ha).trans ((se a (by have := lR_lt.2 a ha; omega)).2.1.trans (fr.2.1 a ha))))
    rcases law_pure x S S7 h2 hx with ⟨c', -⟩ | ⟨-, A4, B', A5, f1, -⟩ | ⟨-, A4, B', C', Z', L', f1, hC', hZ', f4, f5, f6, hN'⟩
    · exact absurd c c'
    · rw [e1] at f1
      injection f1 with q; injection q with q1 q2
      exact absurd q1 (by decide)
    · rw [e1] at f1
      injection f1 with q; injection q with q1 q2
      subst q2
      have : C' = C := (iN_eq (by omega) (by omega)).mp (f4.symm.trans e4)
      subst this
      have : Z' = Z := (iN_eq (by omega) (by omega)).mp (f5.symm.trans e5)
      subst this
      obtain ⟨A6, A7, k1, k2, k3, k4⟩ := hN' x' S5 nt
      rw [g1] at k1
      injection k1 with q; injection q with q1 q2
      subst q2
      rw [← q1, g2] at k2
      injection k2 with q; injection q with q3 q4
      subst q4
      rw [i_gfX11_law_130 x x', ← q1] at f6
      exact ⟨S6, S7, B', g1, g2, f6, k3.self (frX11_law_130 x' S7 _ _ f6) (by decide), k4⟩
end LAWTWO
