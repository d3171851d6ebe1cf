section MEET2
theorem FI.at {x : XT} {S T : ST} {f : Nat → Int32} {R : RF} {p G n : Nat} (h : FI x S T f R p G n) (q : Nat) (hq : q < 120) : (S.2.1 72 q = -1 ∧ T.2.1 148 q = 1000000) ∨ ∃ d, d < 120 ∧ S.2.1 72 q = iN d ∧ T.2.1 148 q = iN d := by
  have hn := h.2.2.1
  rcases h.2.2.2.2.1 q hq with z | ⟨d, a, b⟩
  · exact Or.inl z
  · exact Or.inr ⟨d, by omega, b⟩
theorem c_meet (x : XT) (S T : ST) (h : Rel x S T) (a b w : Int32) : Call x S T (gfX10_meet_0 x S a b w) (gfX11_meet_130 x T a b w) := by
  obtain ⟨P, hP, p1, p2⟩ := h.goers
  have hl := lies_eq x T w 2 (by omega)
  rw [show iN 2 - 1 = 1 from rfl] at hl
  have key : ∃ r S' T', gfX10_meet_0 x S a b w = some (r, S') ∧ gfX11_meet_130 x T a b w = some (r, T') := by
    unfold gfX10_meet_0 bfX10_meet_0_0 bfX10_meet_0_35 gfX11_meet_130 bfX11_meet_130_0 bfX11_meet_130_30
    rw [hasGoer_eq1 x S a P (by omega) p1, isGoer_eq x T a P (by omega) p2]
    dsimp only
    rw [hasGoer_eq1 x S b P (by omega) p1, isGoer_eq x T b P (by omega) p2]
    dsimp only
    rw [show (2 : Int32) = iN 2 from rfl, within_eq x S w 2 (by omega), hl]
    dsimp only
    cases ha : inb a P with
    | false =>
      rw [if_pos (show bz false = 0 from rfl), if_pos (show bz false = 0 from rfl)]
      exact ⟨_, _, _, rfl, rfl⟩
    | true =>
      rw [if_neg (show ¬ bz true = 0 by decide), if_neg (show ¬ bz true = 0 by decide)]
      cases hb : inb b P with
      | false =>
        rw [if_pos (show bz false = 0 from rfl), if_pos (show bz false = 0 from rfl)]
        exact ⟨_, _, _, rfl, rfl⟩
      | true =>
        rw [if_neg (show ¬ bz true = 0 by decide), if_neg (show ¬ bz true = 0 by decide)]
        by_cases hab : a = b
        · rw [if_pos hab, if_pos hab]
          exact ⟨_, _, _, rfl, rfl⟩
        · rw [if_neg hab, if_neg hab]
          cases hw : inb w 2 with
          | false =>
            rw [if_neg (show ¬ ¬ bz false = 0 from fun z => z rfl), if_neg (show ¬ ¬ bz false = 0 from fun z => z rfl)]
            exact ⟨_, _, _, rfl, rfl⟩
          | true =>
            rw [if_pos (show ¬ bz true = 0 by decide), if_pos (show ¬ bz true = 0 by decide)]
            obtain ⟨p, hp, rfl⟩ := inb_ex ha
            obtain ⟨q, hq, rfl⟩ := inb_ex hb
            have hW := h.1.2.1
            obtain ⟨R, hR⟩ := h.1.lr
            obtain ⟨G, hG, g1, g2⟩ := h.gates
            obtain ⟨S1, b1, b2⟩ := begin_eq x S _ h.1 R hR p
            obtain ⟨T1, c1, c2, c3⟩ := laysOut_eq x S T 1 _ R hR p G (by omega) hG g2 rfl
            obtain ⟨S2, T2, n, d1, d2, d3⟩ := all_eq x (T.2.1 132) R p G (by omega) hW hG g2 S1 T1 b2 c2
            -- one's steps are kept
            have x1 : Agr ([(54, 2), (55, 0), (55, 6), (55, 11), (55, 16), (55, 18)], [21, 22, 56, 57, 58, 59, 60, 61, 62, 63, 64, 65, 66, 67, 68, 70, 71, 72, 73, 74, 75], [], [69]) S (S2.1, u1 S2.2.1 75 (va_cpy (S2.2.1 72) (S2.2.1 75) 0 0 120), S2.2.2.1, S2.2.2.2) := Agr.ic (((frX6_begin_54_1 x S _ _ _ b1).sub (by decide)).tr ((frX6_findAll_54 x S1 _ _ d1).sub (by decide))) 75 _ (by decide)
            obtain ⟨T3, e1, e2, e3⟩ := meet_cp x (iN q) w 120 0 20000 T2 (by omega) (by omega) (fun q hq => by omega)
            rw [show iN 0 = 0 from rfl] at e1
            have s75 : ∀ k, k < 120 → (u1 S2.2.1 75 (va_cpy (S2.2.1 72) (S2.2.1 75) 0 0 120)) 75 k = S2.2.1 72 k := fun k hk => by rw [u1_s, cpy_in _ _ (by omega) (by omega), Nat.zero_add, Nat.sub_zero]
            generalize hS3 : ((S2.1, u1 S2.2.1 75 (va_cpy (S2.2.1 72) (S2.2.1 75) 0 0 120), S2.2.2.1, S2.2.2.2) : ST) = S3 at x1
            have s75' : ∀ k, k < 120 → S3.2.1 75 k = S2.2.1 72 k := fun k hk => by rw [← hS3]; exact s75 k hk
            have hT3 : T3.2.1 132 = T.2.1 132 := (e2.2.1 132 (by decide)).trans d3.2.1.1
            have hK3 : RK x S3 1 (T.2.1 132) := h.1.cg (x1.sm (by decide))
            have hR3 : LR x S3 1 (T.2.1 132) R := hR.sm (x1.sm (by decide))
            obtain ⟨S4, i1, i2⟩ := begin_eq x S3 _ hK3 R hR3 q
            obtain ⟨T4, j1, j2, j3⟩ := laysOut_eq x S3 T3 1 _ R hR3 q G (by omega) hG g2 hT3
            obtain ⟨S5, T5, n2, k1, k2, k3⟩ := all_eq x (T.2.1 132) R q G (by omega) hW hG g2 S4 T4 i2 j2
            have f75 : S5.2.1 75 = S3.2.1 75 := ((frX6_findAll_54 x S4 _ _ k1).2.1 75 (by decide)).trans ((frX6_begin_54_1 x S3 _ _ _ i1).2.1 75 (by decide))
            have f153 : T5.2.1 153 = T3.2.1 153 := ((frX11_laysGone_130 x T4 _ _ _ _ k2).2.1 153 (by decide)).trans (j3.2.1 153 (by decide))
            have hM : ∀ k, k < 120 → MU S5 T5 k := fun k hk => by
              refine mu_of (k3.at k hk) ?_
              rw [f75, f153, s75' k hk, e3 k hk, e2.2.1 148 (by decide)]
              exact d3.at k hk
            obtain ⟨r, m1, m2⟩ := meet_loop x S5 T5 hM w 120 0 20000 20000 (-1) 1000000 (by omega) (by omega) (by omega) (Or.inl ⟨rfl, rfl⟩)
            rw [show iN 0 = 0 from rfl] at m1 m2
            have cK : gfX6_keepSteps_54 x S1 = some ((), S3) := by
              unfold gfX6_keepSteps_54 bfX6_keepSteps_54_0
              rw [d1, ← hS3]
            have cM : gfX6_meetingPlace_54 x S4 = some (r, S5) := by
              unfold gfX6_meetingPlace_54 bfX6_meetingPlace_54_0
              rw [k1]
              exact m1
            have cR : lfX11_meet_130_50 x 20000 T2 (iN q) w 0 = lfX11_meet_130_102 x 20000 T5 w (-1) 1000000 0 := by
              rw [e1, lfX11_meet_130_50, bfX11_meet_130_50, if_pos (show (120 : Int32) ≤ 120 by decide), j1]
              dsimp only
              rw [placeOf_eq x T4 (T.2.1 132) q (by omega) hW j2.1]
              dsimp only
              rw [k2]
            rw [b1, c1]
            dsimp only
            rw [cK, placeOf_eq x T1 (T.2.1 132) p (by omega) hW c2.1]
            dsimp only
            rw [i1, d2]
            dsimp only
            rw [cM, cR]
            dsimp only
            unfold bfX10_meet_0_87 bfX10_meet_0_101
            rcases m2 with ⟨rfl, m2⟩ | ⟨b0, hb0, rfl, m2⟩
            · rw [m2, if_neg (show ¬ ¬ (-1 : Int32) = -1 from fun z => z rfl)]
              by_cases hw0 : w = 0
              · rw [if_pos hw0]; exact ⟨_, _, _, rfl, rfl⟩
              · rw [if_neg hw0]; exact ⟨_, _, _, rfl, rfl⟩
            · rw [m2]
              by_cases hw0 : w = 0
              · rw [if_pos hw0, if_neg (fun z => z hw0)]; exact ⟨_, _, _, rfl, rfl⟩
              · rw [if_neg hw0, if_pos hw0, if_pos (iN_m1 (by omega)), longer_eq x S5 b0 hb0]; exact ⟨_, _, _, rfl, rfl⟩
  obtain ⟨r, S', T', q1, q2⟩ := key
  exact Call.of h q1 q2 (frX10_meet_0 x S _ _ _ _ _ q1) (by decide) (frX11_meet_130 x T _ _ _ _ _ q2) (by decide)
end MEET2
