section IMAGE
set_option maxRecDepth 4000 in
theorem image_loop (x : XT) (T : ST) (i : Nat) (hi : i < 2) : ∀ (q k fuel : Nat), k + q = 5703 → q < fuel → lfX11_image_130_17 x fuel (wA T 133 (va_cpy (T.2.1 132) (T.2.1 133) 0 (5703 * i) k)) (iN i) (iN k) = some (0, gG (T.1, u2 (u1 T.2.1 133 (va_cpy (T.2.1 132) (T.2.1 133) 0 (5703 * i) 5703)) 134 i 1, T.2.2.1, T.2.2.2))
  | 0, k, fuel, hk, hf => by
    obtain ⟨fuel, rfl⟩ : ∃ z, fuel = z + 1 := ⟨fuel - 1, by omega⟩
    have : k = 5703 := by omega
    subst this
    rw [lfX11_image_130_17, bfX11_image_130_17, if_pos (show (5703 : Int32) ≤ iN 5703 by decide), inb_t hi (by omega), cond_true, iN_nat (by omega), good_eq]
    rfl
  | q + 1, k, fuel, hk, hf => by
    obtain ⟨fuel, rfl⟩ : ∃ z, fuel = z + 1 := ⟨fuel - 1, by omega⟩
    rw [lfX11_image_130_17, bfX11_image_130_17, if_neg (show ¬ (5703 : Int32) ≤ iN k from fun hh => by have := (iN_le (m := 5703) (by omega) (by omega)).mp hh; omega), show (5703 : Int32) * iN i = iN (5703 * i) from iN_mul 5703 i, iN_add, inb_t (show k < 5703 by omega) (by omega), cond_true, inb_t (show 5703 * i + k < 11406 by omega) (by omega), cond_true, iN_nat (by omega), iN_nat (by omega), iN_succ, wA_n _ _ (show 132 ≠ 133 by decide), wA_u2]
    have := cpy_s (T.2.1 132) (T.2.1 133) 0 (5703 * i) k
    rw [Nat.zero_add] at this
    rw [this]
    exact image_loop x T i hi q (k + 1) fuel (by omega) (by omega)
set_option maxRecDepth 4000 in
theorem back_loop (x : XT) (T : ST) (i : Nat) (hi : i < 2) : ∀ (q k fuel : Nat), k + q = 5703 → q < fuel → lfX11_back_130_33 x fuel (wA T 132 (va_cpy (T.2.1 133) (T.2.1 132) (5703 * i) 0 k)) (iN i) (iN k) = some (0, gG (u2 T.1 130 31 0, u1 T.2.1 132 (va_cpy (T.2.1 133) (T.2.1 132) (5703 * i) 0 5703), T.2.2.1, T.2.2.2))
  | 0, k, fuel, hk, hf => by
    obtain ⟨fuel, rfl⟩ : ∃ z, fuel = z + 1 := ⟨fuel - 1, by omega⟩
    have : k = 5703 := by omega
    subst this
    rw [lfX11_back_130_33, bfX11_back_130_33, if_pos (show (5703 : Int32) ≤ iN 5703 by decide), settled_eq]
    rfl
  | q + 1, k, fuel, hk, hf => by
    obtain ⟨fuel, rfl⟩ : ∃ z, fuel = z + 1 := ⟨fuel - 1, by omega⟩
    rw [lfX11_back_130_33, bfX11_back_130_33, if_neg (show ¬ (5703 : Int32) ≤ iN k from fun hh => by have := (iN_le (m := 5703) (by omega) (by omega)).mp hh; omega), show (5703 : Int32) * iN i = iN (5703 * i) from iN_mul 5703 i, iN_add, inb_t (show 5703 * i + k < 11406 by omega) (by omega), cond_true, inb_t (show k < 5703 by omega) (by omega), cond_true, iN_nat (by omega), iN_nat (by omega), iN_succ, wA_n _ _ (show 133 ≠ 132 by decide), wA_u2]
    have := cpy_s (T.2.1 133) (T.2.1 132) (5703 * i) 0 k
    rw [Nat.zero_add] at this
    rw [this]
    exact back_loop x T i hi q (k + 1) fuel (by omega) (by omega)
/-- rows that are alike as far as they go -/
theorem RK.row {x : XT} {S : ST} {o : Nat} {f f' : Nat → Int32} (h : RK x S o f) (hf : ∀ k, k < 5703 → f' k = f k) : RK x S o f' := by
  obtain ⟨ka, kw, kt⟩ := h
  refine ⟨?_, ?_, kt.1, ?_⟩
  · obtain ⟨k0, k1, k2, k3, k4, k5, k6, k7, k8, k9, k10⟩ := ka
    unfold KA
    rw [hf 91 (by omega), hf 92 (by omega), hf 93 (by omega), hf 94 (by omega), hf 95 (by omega), hf 35 (by omega), hf 89 (by omega), hf 90 (by omega)]
    refine ⟨k0, k1, k2, k3, k4, fun g hg => ?_, fun p hp => ?_, fun s hs => ?_, k8, k9, k10⟩
    · rw [hf _ (by omega), hf _ (by omega), hf _ (by omega), hf _ (by omega), hf _ (by omega)]; exact k5 g hg
    · rw [hf _ (by omega), hf _ (by omega), hf _ (by omega), hf _ (by omega)]; exact k6 p hp
    · rw [hf _ (by omega), hf _ (by omega), hf _ (by omega)]; exact k7 s hs
  · obtain ⟨w0, w1, w2, w3, w4, w5, w6, w7, w8, w9, w10⟩ := kw
    unfold WF
    rw [hf 91 (by omega), hf 92 (by omega), hf 93 (by omega), hf 94 (by omega), hf 95 (by omega), hf 89 (by omega), hf 90 (by omega)]
    refine ⟨w0.cg (fun i hi => hf i (by omega)), w1, w2, w3, w4, w5, fun g hg => ?_, fun p hp => ?_, fun s hs => ?_, w9, w10⟩
    · rw [hf _ (by omega), hf _ (by omega), hf _ (by omega)]; exact w6 g hg
    · rw [hf _ (by omega)]; exact w7 p hp
    · rw [hf _ (by omega), hf _ (by omega), hf _ (by omega)]; exact w8 s hs
  · intro l L e1 e2 e3
    obtain ⟨t, N, C, V, dS, dT, q1, q2, q3⟩ := kt.2 l L ((hf 94 (by omega)).symm.trans e1) e2 e3
    have hN := q3.2.2.1
    exact ⟨t, N, C, V, dS, dT, q1, (hf _ (by omega)).trans q2, q3.cg (fun _ _ => ⟨rfl, rfl⟩) (fun z hz => ⟨hf _ (by omega), hf _ (by omega)⟩)⟩
theorem RK.opn {x : XT} {S : ST} {o : Nat} {f : Nat → Int32} (h : RK x S o f) : ∀ g, g < 10 → inb (S.2.1 (o + 5) g) 2 = true := fun g hg => by
  rw [(h.1.2.2.2.2.2.1 g hg).2.2.2.2]; exact (h.2.1.1.2.1 g hg).2
set_option maxRecDepth 4000 in
theorem c_image (x : XT) (S T : ST) (h : Rel x S T) (a : Int32) : Call x S T (gfX10_image_0 x S a) (gfX11_image_130 x T a) := by
  unfold gfX10_image_0 bfX10_image_0_0 gfX11_image_130 bfX11_image_130_0
  have w2 : gfX10_within x S a 2 = some (bz (inb a 2), S) := within_eq x S a 2 (by omega)
  have l2 : gfX11_lies x T a 0 1 = some (bz (inb a 2), T) := lies_eq x T a 2 (by omega)
  rw [w2, l2, neg_1]
  dsimp only
  cases ha : inb a 2 with
  | false =>
    rw [if_neg (show ¬ ¬ bz false = 0 by decide), if_neg (show ¬ ¬ bz false = 0 by decide), refuses_eq x T 1 (by omega) (by omega), told_r x S 1 (by omega) (by omega)]
    exact ⟨_, _, _, rfl, rfl, h.ref 1 (by omega)⟩
  | true =>
    obtain ⟨i, hi, rfl⟩ := inb_ex ha
    have il := image_loop x T i hi 5703 0 20000 (by omega) (by omega)
    rw [cpy_0, wA_self, show iN 0 = 0 from rfl] at il
    rw [if_pos (show ¬ bz true = 0 by decide), if_pos (show ¬ bz true = 0 by decide), il, cond_true, iN_nat (show i < 2147483648 by omega)]
    generalize hF : va_cpy (T.2.1 132) (T.2.1 133) 0 (5703 * i) 5703 = F
    have fI : ∀ k, k < 5703 → F (5703 * i + k) = T.2.1 132 k := fun k hk => by
      rw [← hF, cpy_in _ _ (by omega) (by omega), show 0 + (5703 * i + k - 5703 * i) = k by omega]
    have fO : ∀ j k, j < 2 → j ≠ i → k < 5703 → F (5703 * j + k) = T.2.1 133 (5703 * j + k) := fun j k hj hji hk => by
      rw [← hF, cpy_out _ _ (by omega)]
    have aT : Agr ([], [133, 134], [], []) T (T.1, u2 (u1 T.2.1 133 F) 134 i 1, T.2.2.1, T.2.2.2) := Agr.i (Agr.ic Agr.rf 133 F (by decide)) 134 i 1 (by decide)
    have t133 : (u2 (u1 T.2.1 133 F) 134 i 1) 133 = F := by rw [u2_ro _ _ _ (by decide), u1_s]
    have t134 : (u2 (u1 T.2.1 133 F) 134 i 1) 134 = u1 (T.2.1 134) i 1 := by rw [u2_row, u1_n _ _ (by decide)]
    -- the end, whichever image it is
    have fin : ∀ (S2 : ST) (W : WS) (o' : Nat), Agr W S S2 → o' = 100 + 15 * i → CI S S2 o' 1 10 5 6 3 6 → dj W (lK 1) = true → dj W (lK (100 + 15 * (1 - i))) = true → dj W ([(18, 1), (0, 12), (0, 13), (0, 14), (0, 15), (33, 0), (84, 6)], [17, 19, 99, 34, 90, 91, 93], [], [16]) = true → Rel x (S2.1, u2 S2.2.1 17 i 1, S2.2.2.1, S2.2.2.2) (T.1, u2 (u1 T.2.1 133 F) 134 i 1, T.2.2.1, T.2.2.2) := by
      intro S2 W o' aS ho hC d1 d2 d3
      subst ho
      obtain ⟨h1, h2, h3, h4, h5, h6, h7, h8⟩ := h
      have s3 := aS.sm d3
      have aS2 : Agr ([], [17], [], []) S2 (S2.1, u2 S2.2.1 17 i 1, S2.2.2.1, S2.2.2.2) := Agr.i Agr.rf 17 i 1 (by decide)
      have s1 : S2.1 18 1 = S.1 18 1 := s3.1 (18, 1) (by decide)
      have s12 : S2.1 0 12 = S.1 0 12 := s3.1 (0, 12) (by decide)
      have s13 : S2.1 0 13 = S.1 0 13 := s3.1 (0, 13) (by decide)
      have s14 : S2.1 0 14 = S.1 0 14 := s3.1 (0, 14) (by decide)
      have s15 : S2.1 0 15 = S.1 0 15 := s3.1 (0, 15) (by decide)
      have s33 : S2.1 33 0 = S.1 33 0 := s3.1 (33, 0) (by decide)
      have s84 : S2.1 84 6 = S.1 84 6 := s3.1 (84, 6) (by decide)
      have a17 := s3.2.1 17 (by decide)
      have a19 := s3.2.1 19 (by decide)
      have a99 := s3.2.1 99 (by decide)
      have a34 := s3.2.1 34 (by decide)
      have a90 := s3.2.1 90 (by decide)
      have a91 := s3.2.1 91 (by decide)
      have a93 := s3.2.1 93 (by decide)
      have q16 := s3.2.2.1 16 (by decide)
      have A : ∀ c, c ≠ 17 → u2 S2.2.1 17 i 1 c = S2.2.1 c := fun c hc => u2_ro _ _ _ hc
      have B : ∀ c, c ≠ 133 → c ≠ 134 → (u2 (u1 T.2.1 133 F) 134 i 1) c = T.2.1 c := fun c h1 h2 => by rw [u2_ro _ _ _ h2, u1_n _ _ h1]
      have hS : ∀ a, 158 ≤ a → S2.1 a = S.1 a ∧ S2.2.1 a = S.2.1 a := s3.2.2.2
      refine ⟨?_, ?_, ?_, ?_, ?_, ?_, ?_, ?_⟩
      · show RK x _ 1 ((u2 (u1 T.2.1 133 F) 134 i 1) 132)
        rw [B 132 (by decide) (by decide)]
        exact (h1.cg (aS.sm d1)).cg (aS2.sm (by decide))
      · intro k hk
        show u2 S2.2.1 17 i 1 17 k = (u2 (u1 T.2.1 133 F) 134 i 1) 134 k ∧ S2.2.2.2 16 k = some (100 + 15 * k) ∧ ((u2 (u1 T.2.1 133 F) 134 i 1) 134 k = 0 ∨ (u2 (u1 T.2.1 133 F) 134 i 1) 134 k = 1) ∧ ((u2 (u1 T.2.1 133 F) 134 i 1) 134 k = 1 → RK x (S2.1, u2 S2.2.1 17 i 1, S2.2.2.1, S2.2.2.2) (100 + 15 * k) (fun z => (u2 (u1 T.2.1 133 F) 134 i 1) 133 (5703 * k + z)))
        rw [t133, t134, u2_row, u1_if, u1_if, q16, a17]
        obtain ⟨q1, q0, q2, q3⟩ := h2 k hk
        by_cases e : k = i
        · subst e
          rw [if_pos rfl, if_pos rfl]
          refine ⟨rfl, q0, Or.inr rfl, fun _ => ?_⟩
          have r := ((hC.rk h1 hS).row (f' := fun z => F (5703 * k + z)) fI)
          refine r.cg (aS2.sm ?_)
          rcases (show k = 0 ∨ k = 1 by omega) with rfl | rfl <;> decide
        · rw [if_neg e, if_neg e]
          refine ⟨q1, q0, q2, fun hh => ?_⟩
          have r := (q3 hh).row (f' := fun z => F (5703 * k + z)) (fun z hz => fO k z hk e hz)
          have ek : k = 1 - i := by omega
          rw [← ek] at d2
          refine (r.cg (aS.sm d2)).cg (aS2.sm ?_)
          rcases (show k = 0 ∨ k = 1 by omega) with rfl | rfl <;> decide
      · unfold RelT; dsimp only; rw [s1, A 19 (by decide), a19, B 137 (by decide) (by decide)]; exact h3
      · unfold RelS; dsimp only; rw [s12, A 99 (by decide), a99, B 131 (by decide) (by decide)]; exact h4
      · unfold RelM; dsimp only; rw [s13, s14, s15]; exact h5
      · unfold RelU; dsimp only; rw [s33, A 34 (by decide), a34, B 143 (by decide) (by decide), B 132 (by decide) (by decide)]; exact h6
      · unfold RelD; dsimp only; rw [s84, A 90 (by decide), a90, A 91 (by decide), a91, A 93 (by decide), a93, B 157 (by decide) (by decide)]; exact h7
      · unfold RelC; dsimp only; rw [B 136 (by decide) (by decide)]; exact h8
    have q16 := (h.2.1 i hi).2.1
    have hq : ∀ l, l < 6 → qk x (S.2.2.2 15 l) = true := h.1.2.2.1
    have ho : ∀ g, g < 10 → inb (S.2.1 6 g) 2 = true := h.1.opn
    rw [q16]
    rcases (show i = 0 ∨ i = 1 by omega) with rfl | rfl
    · obtain ⟨S2, e1, e2⟩ := copy100_1 x S hq ho
      rw [if_pos (show some (100 + 15 * 0) = some 100 from rfl), e1]
      dsimp only
      rw [cond_true, told_g x _ _ (by decide), show vp_nar .boolean 1 = 1 from rfl]
      exact ⟨_, _, _, rfl, rfl, (fin S2 _ 100 (frX7_copyFrom_100_1 x S _ _ e1) rfl e2 (by decide) (by decide) (by decide)).good⟩
    · obtain ⟨S2, e1, e2⟩ := copy115_1 x S hq ho
      rw [if_neg (show ¬ some (100 + 15 * 1) = some 100 by decide), if_pos (show some (100 + 15 * 1) = some 115 from rfl), e1]
      dsimp only
      rw [cond_true, told_g x _ _ (by decide), show vp_nar .boolean 1 = 1 from rfl]
      exact ⟨_, _, _, rfl, rfl, (fin S2 _ 115 (frX7_copyFrom_115_1 x S _ _ e1) rfl e2 (by decide) (by decide) (by decide)).good⟩
set_option maxRecDepth 4000 in
theorem c_back (x : XT) (S T : ST) (h : Rel x S T) (a : Int32) : Call x S T (gfX10_back_0 x S a) (gfX11_back_130 x T a) := by
  unfold gfX10_back_0 bfX10_back_0_0 gfX11_back_130 bfX11_back_130_0
  have w2 : gfX10_within x S a 2 = some (bz (inb a 2), S) := within_eq x S a 2 (by omega)
  have l2 : gfX11_lies x T a 0 1 = some (bz (inb a 2), T) := lies_eq x T a 2 (by omega)
  rw [w2, l2, neg_1, neg_2]
  dsimp only
  cases ha : inb a 2 with
  | false =>
    rw [if_neg (show ¬ ¬ bz false = 0 by decide), if_neg (show ¬ ¬ bz false = 0 by decide), refuses_eq x T 1 (by omega) (by omega), told_r x S 1 (by omega) (by omega)]
    exact ⟨_, _, _, rfl, rfl, h.ref 1 (by omega)⟩
  | true =>
    obtain ⟨i, hi, rfl⟩ := inb_ex ha
    obtain ⟨k1, q16, k2, k3⟩ := h.2.1 i hi
    rw [if_pos (show ¬ bz true = 0 by decide), if_pos (show ¬ bz true = 0 by decide), cond_true, cond_true, cond_true, iN_nat (show i < 2147483648 by omega), k1]
    rcases k2 with e | e
    · rw [e, if_neg (fun q => q rfl), if_neg (fun q => q rfl), refuses_eq x T 2 (by omega) (by omega), told_r x S 2 (by omega) (by omega)]
      exact ⟨_, _, _, rfl, rfl, h.ref 2 (by omega)⟩
    · have il := back_loop x T i hi 5703 0 20000 (by omega) (by omega)
      rw [cpy_0, wA_self, show iN 0 = 0 from rfl] at il
      have hK := k3 e
      rw [e, if_pos (show ¬ (1 : Int32) = 0 by decide), if_pos (show ¬ (1 : Int32) = 0 by decide), il, q16]
      generalize hF : va_cpy (T.2.1 133) (T.2.1 132) (5703 * i) 0 5703 = F
      have fI : ∀ k, k < 5703 → F k = T.2.1 133 (5703 * i + k) := fun k hk => by
        rw [← hF, cpy_in _ _ (by omega) (by omega), Nat.sub_zero]
      have aT : Agr ([], [132], [], []) T (wA T 132 F) := Agr.ic Agr.rf 132 F (by decide)
      have fin : ∀ (S2 : ST) (W : WS), Agr W S S2 → dj W lC2 = true → CI S S2 1 (100 + 15 * i) 10 5 6 3 6 → Rel x (tG (u2 S2.1 33 0 0, S2.2.1, S2.2.2.1, S2.2.2.2)) (gG (u2 T.1 130 31 0, u1 T.2.1 132 F, T.2.2.1, T.2.2.2)) := by
        intro S2 W aS dW hC
        refine h.anew (T2 := wA T 132 F) (aS.sm dW) (aT.sm (by decide)) ?_
        rw [wA_s]
        exact (hC.rk hK (aS.sm (L := lC2) dW).2.2.2).row fI
      have hq := hK.2.2.1
      have ho := hK.opn
      rcases (show i = 0 ∨ i = 1 by omega) with rfl | rfl
      · obtain ⟨S2, e1, e2⟩ := copy1_100 x S hq ho
        rw [if_pos (show some (100 + 15 * 0) = some 100 from rfl), e1]
        dsimp only
        rw [toldAnew_g x _ _ (by decide)]
        exact ⟨_, _, _, rfl, rfl, fin S2 _ (frX7_copyFrom_1_100 x S _ _ e1) (by decide) e2⟩
      · obtain ⟨S2, e1, e2⟩ := copy1_115 x S hq ho
        rw [if_neg (show ¬ some (100 + 15 * 1) = some 100 by decide), if_pos (show some (100 + 15 * 1) = some 115 from rfl), e1]
        dsimp only
        rw [toldAnew_g x _ _ (by decide)]
        exact ⟨_, _, _, rfl, rfl, fin S2 _ (frX7_copyFrom_1_115 x S _ _ e1) (by decide) e2⟩
end IMAGE
