section FEED
theorem iN_bv (c : Int32) : c = iN c.toBitVec.toNat := by
  apply Int32.toBitVec_inj.mp
  show c.toBitVec = (Int32.ofNat c.toBitVec.toNat).toBitVec
  rw [Int32.toBitVec_ofNat']
  simp
theorem and255 (y : Int32) : inb (y &&& 255) 256 = true := by
  have h : (y &&& 255).toBitVec.toNat < 256 := by
    rw [Int32.toBitVec_and, BitVec.toNat_and]
    have := Nat.and_le_right (n := y.toBitVec.toNat) (m := (255 : Int32).toBitVec.toNat)
    have e : (255 : Int32).toBitVec.toNat = 255 := by decide
    omega
  rw [iN_bv (y &&& 255)]
  exact inb_t h (by omega)
theorem byte_eq (v : Int32) (s : Nat) (hs : s ≤ 24) (u : UInt32) (w : Int32) (hu : u.toBitVec.toNat = s) (hw : w.toBitVec = BitVec.ofNat 32 s) : (((v.toUInt32 >>> u).toInt32) &&& 255).toInt8 = (v >>> w).toInt8 := by
  apply Int8.toBitVec_inj.mp
  rw [Int32.toBitVec_toInt8, Int32.toBitVec_toInt8]
  apply BitVec.eq_of_getLsbD_eq
  intro i hi
  have hb : (255 : Int32).toBitVec.getLsbD i = true := by
    have : i = 0 ∨ i = 1 ∨ i = 2 ∨ i = 3 ∨ i = 4 ∨ i = 5 ∨ i = 6 ∨ i = 7 := by omega
    rcases this with rfl | rfl | rfl | rfl | rfl | rfl | rfl | rfl <;> decide
  have e1 : (u.toBitVec % 32).toNat = s := by
    rw [BitVec.toNat_umod, hu]
    have : (32 : BitVec 32).toNat = 32 := by decide
    rw [this]
    omega
  have e2 : (w.toBitVec.smod 32).toNat = s := by
    rw [hw]
    have : s = 0 ∨ s = 1 ∨ s = 2 ∨ s = 3 ∨ s = 4 ∨ s = 5 ∨ s = 6 ∨ s = 7 ∨ s = 8 ∨ s = 9 ∨ s = 10 ∨ s = 11 ∨ s = 12 ∨ s = 13 ∨ s = 14 ∨ s = 15 ∨ s = 16 ∨ s = 17 ∨ s = 18 ∨ s = 19 ∨ s = 20 ∨ s = 21 ∨ s = 22 ∨ s = 23 ∨ s = 24 := by omega
    rcases this with rfl | rfl | rfl | rfl | rfl | rfl | rfl | rfl | rfl | rfl | rfl | rfl | rfl | rfl | rfl | rfl | rfl | rfl | rfl | rfl | rfl | rfl | rfl | rfl | rfl <;> decide
  rw [BitVec.getLsbD_signExtend, BitVec.getLsbD_signExtend]
  simp only [show i < 32 by omega, if_true, hi, decide_true, Bool.true_and, Int32.toBitVec_and, UInt32.toBitVec_toInt32, UInt32.toBitVec_shiftRight, Int32.toBitVec_shiftRight, BitVec.getLsbD_and, hb, Bool.and_true]
  rw [BitVec.ushiftRight_eq', e1, BitVec.getLsbD_ushiftRight, BitVec.sshiftRight_eq', e2, BitVec.getLsbD_sshiftRight]
  simp only [show ¬ 32 ≤ i by omega, show s + i < 32 by omega, decide_false, Bool.not_false, Bool.true_and, if_true]
  rfl
/-- a byte of a number as the class, as the reference has it -/
def bC (v : Int32) (s : Nat) : Int32 := ((v.toUInt32 >>> ((iN s).toUInt32 &&& Int32.toUInt32 31)).toInt32) &&& 255
def bR (v : Int32) (s : Nat) : Int32 := ((v >>> ((iN s) &&& 31)).toInt8.toInt32).toInt8.toInt32
theorem bC_bR (v : Int32) (s : Nat) (hs : s = 24 ∨ s = 16 ∨ s = 8 ∨ s = 0) : inb (bC v s) 256 = true ∧ bR v s = (bC v s).toInt8.toInt32 := by
  refine ⟨and255 _, ?_⟩
  unfold bC bR
  rw [Int8.toInt8_toInt32]
  rcases hs with rfl | rfl | rfl | rfl
  · rw [byte_eq v 24 (by omega) _ (iN 24 &&& 31) (by decide) (by decide)]
  · rw [byte_eq v 16 (by omega) _ (iN 16 &&& 31) (by decide) (by decide)]
  · rw [byte_eq v 8 (by omega) _ (iN 8 &&& 31) (by decide) (by decide)]
  · rw [byte_eq v 0 (by omega) _ (iN 0 &&& 31) (by decide) (by decide)]
/-- four bytes more -/
def tk4 (g : Nat → Int32) (n : Nat) (v : Int32) : Nat → Int32 := u1 (u1 (u1 (u1 g n (bC v 24)) (n + 1) (bC v 16)) (n + 2) (bC v 8)) (n + 3) (bC v 0)
theorem takeFour_eq (x : XT) (S : ST) (n : Nat) (hn : n + 4 ≤ 400) (h : S.1 18 1 = iN n) (v : Int32) : gfX8_takeFour_18 x S v = some ((), (u2 S.1 18 1 (iN (n + 4)), u1 S.2.1 19 (tk4 (S.2.1 19) n v), S.2.2.1, S.2.2.2)) := by
  have step : ∀ (S : ST) (n s : Nat) (fuel : Nat), n < 400 → S.1 18 1 = iN n → ¬ iN s < 0 → lfX8_takeFour_18_3 x (fuel + 1) S v (iN s) = lfX8_takeFour_18_3 x fuel (u2 S.1 18 1 (iN (n + 1)), u2 S.2.1 19 n (bC v s), S.2.2.1, S.2.2.2) v (iN s + (-8)) := by
    intro S n s fuel hn h hs
    rw [lfX8_takeFour_18_3, bfX8_takeFour_18_3, if_neg hs, h, if_neg (show ¬ (400 : Int32) ≤ iN n from fun hh => by have := (iN_le (m := 400) (by omega) (by omega)).mp hh; omega), inb_t hn (by omega), cond_true, iN_nat (by omega), iN_succ]
    rfl
  have st2 : ∀ (f g : Nat → Nat → Int32) (p : Nat → Nat → Int64) (q : Nat → Nat → Option Nat) (n s : Nat) (fuel : Nat), n < 400 → ¬ iN s < 0 → lfX8_takeFour_18_3 x (fuel + 1) (u2 f 18 1 (iN n), g, p, q) v (iN s) = lfX8_takeFour_18_3 x fuel (u2 (u2 f 18 1 (iN n)) 18 1 (iN (n + 1)), u2 g 19 n (bC v s), p, q) v (iN s + (-8)) := fun f g p q n s fuel hn hs => step (u2 f 18 1 (iN n), g, p, q) n s fuel hn (u2_s f 18 1 (iN n)) hs
  unfold gfX8_takeFour_18 bfX8_takeFour_18_0
  rw [show (24 : Int32) = iN 24 from rfl, step S n 24 19999 (by omega) h (by decide), show iN 24 + (-8) = iN 16 from rfl]
  rw [st2 _ _ _ _ (n + 1) 16 19998 (by omega) (by decide), show iN 16 + (-8) = iN 8 from rfl]
  rw [u2_u2, st2 _ _ _ _ (n + 1 + 1) 8 19997 (by omega) (by decide), show iN 8 + (-8) = iN 0 from rfl]
  rw [u2_u2, st2 _ _ _ _ (n + 1 + 1 + 1) 0 19996 (by omega) (by decide)]
  rw [lfX8_takeFour_18_3, bfX8_takeFour_18_3, if_pos (show iN 0 + (-8) < 0 by decide)]
  unfold bfX8_takeFour_18_46 tk4
  rw [u2_u2, show u2 S.2.1 19 n (bC v 24) = u1 S.2.1 19 (u1 (S.2.1 19) n (bC v 24)) from rfl, u2_u1, u2_u1, u2_u1]
theorem take4b (x : XT) (f g : Nat → Nat → Int32) (p : Nat → Nat → Int64) (q : Nat → Nat → Option Nat) (n : Nat) (hn : n + 4 ≤ 400) (v : Int32) : gfX8_takeFour_18 x (u2 f 18 1 (iN n), g, p, q) v = some ((), (u2 f 18 1 (iN (n + 4)), u1 g 19 (tk4 (g 19) n v), p, q)) := by
  rw [takeFour_eq x (u2 f 18 1 (iN n), g, p, q) n hn (u2_s f 18 1 (iN n)) v, u2_u2]
theorem tk4_in (g : Nat → Int32) (n : Nat) (v : Int32) (j : Nat) (hj : j < 4) : tk4 g n v (n + j) = bC v (24 - 8 * j) := by
  unfold tk4
  rcases (show j = 0 ∨ j = 1 ∨ j = 2 ∨ j = 3 by omega) with rfl | rfl | rfl | rfl
  · rw [u1_n _ _ (by omega), u1_n _ _ (by omega), u1_n _ _ (by omega), Nat.add_zero, u1_s]
  · rw [u1_n _ _ (by omega), u1_n _ _ (by omega), u1_s]
  · rw [u1_n _ _ (by omega), u1_s]
  · rw [u1_s]
theorem tk4_out (g : Nat → Int32) (n : Nat) (v : Int32) (i : Nat) (hi : i < n ∨ n + 4 ≤ i) : tk4 g n v i = g i := by
  unfold tk4
  rw [u1_n _ _ (by omega), u1_n _ _ (by omega), u1_n _ _ (by omega), u1_n _ _ (by omega)]
def fv (a b c d e : Int32) (q : Nat) : Int32 := match q with
  | 0 => a
  | 1 => b
  | 2 => c
  | 3 => d
  | _ => e
set_option maxRecDepth 4000 in
theorem feed_loop (x : XT) (n : Nat) (hn : n + 20 ≤ 400) (a b c d e : Int32) : ∀ (m k fuel : Nat) (T : ST), k + m = 20 → m < fuel → T.1 130 13 = iN n → (∀ q, q < 5 → T.2.1 138 q = fv a b c d e q) → ∃ T1, lfX11_feed_130_55 x fuel T (iN k) = some (iN (n + 20), (u2 T1.1 130 13 (iN (n + 20)), T1.2.1, T1.2.2.1, T1.2.2.2)) ∧ Agr ([], [137, 138], [], []) T T1 ∧ (∀ j, k ≤ j → j < 20 → T1.2.1 137 (n + j) = bR (fv a b c d e (j / 4)) (24 - 8 * (j % 4))) ∧ (∀ i, (i < n + k ∨ n + 20 ≤ i) → T1.2.1 137 i = T.2.1 137 i)
  | 0, k, fuel, T, hk, hf, h, h5 => by
    obtain ⟨fuel, rfl⟩ : ∃ z, fuel = z + 1 := ⟨fuel - 1, by omega⟩
    have : k = 20 := by omega
    subst this
    refine ⟨T, ?_, Agr.rf, fun j h1 h2 => by omega, fun _ _ => rfl⟩
    rw [lfX11_feed_130_55, bfX11_feed_130_55, if_pos (show (20 : Int32) ≤ iN 20 by decide), h, show iN n + 20 = iN (n + 20) from iN_add n 20]
  | m + 1, k, fuel, T, hk, hf, h, h5 => by
    obtain ⟨fuel, rfl⟩ : ∃ z, fuel = z + 1 := ⟨fuel - 1, by omega⟩
    have hk4 : k / 4 < 5 := by omega
    have e1 : iN k / 4 = iN (k / 4) := iN_div (n := 4) (by omega) (by omega)
    have e2 : iN k - iN (k / 4) * 4 = iN (k % 4) := by
      have := iN_mod (m := k) (n := 4) (by omega) (by omega)
      rw [iN_div (by omega) (by omega)] at this
      exact this
    have e3 : (24 : Int32) - 8 * iN (k % 4) = iN (24 - 8 * (k % 4)) := by
      rw [show (8 : Int32) * iN (k % 4) = iN (8 * (k % 4)) from iN_mul 8 _]
      exact iN_sub (m := 24) (by omega)
    rw [lfX11_feed_130_55, bfX11_feed_130_55, if_neg (show ¬ (20 : Int32) ≤ iN k from fun hh => by have := (iN_le (m := 20) (by omega) (by omega)).mp hh; omega), e1, e2, e3, inb_t hk4 (by omega), cond_true, h, iN_add, inb_t (show n + k < 400 by omega) (by omega), cond_true, iN_nat (by omega), iN_nat (by omega), iN_succ, h5 _ hk4]
    obtain ⟨T1, q1, q2, q3, q4⟩ := feed_loop x n hn a b c d e m (k + 1) fuel (T.1, u2 T.2.1 137 (n + k) (bR (fv a b c d e (k / 4)) (24 - 8 * (k % 4))), T.2.2.1, T.2.2.2) (by omega) (by omega) h (fun q hq => (congrFun (u2_ro (a := 137) (b := 138) T.2.1 (n + k) (bR (fv a b c d e (k / 4)) (24 - 8 * (k % 4))) (by decide)) q).trans (h5 q hq))
    refine ⟨T1, q1, (Agr.i Agr.rf 137 _ _ (by decide)).tr q2, fun j h1 h2 => ?_, fun i hi => ?_⟩
    · by_cases e : j = k
      · subst e
        rw [q4 (n + j) (by omega)]
        show u2 T.2.1 137 (n + j) _ 137 (n + j) = _
        rw [u2_s]
      · exact q3 j (by omega) h2
    · rw [q4 i (by omega)]
      show u2 T.2.1 137 (n + k) _ 137 i = _
      rw [u2_k _ _ _ (by omega)]
set_option maxRecDepth 4000 in
theorem c_feed (x : XT) (S T : ST) (h : Rel x S T) (a b c d e : Int32) : Call x S T (gfX10_feed_0 x S a b c d e) (gfX11_feed_130 x T a b c d e) := by
  obtain ⟨⟨n, hn, t1, t2⟩, tb⟩ := h.2.2.1
  unfold gfX10_feed_0 bfX10_feed_0_0 gfX8_take_18 bfX8_take_18_0 gfX11_feed_130 bfX11_feed_130_0
  rw [t1, t2, show iN n + 20 = iN (n + 20) from iN_add n 20]
  by_cases hc : n + 20 ≤ 400
  · rw [if_pos (show iN n ≤ 380 from (iN_le (n := 380) (by omega) (by omega)).mpr (by omega)), if_pos (show iN (n + 20) ≤ 400 from (iN_le (n := 400) (by omega) (by omega)).mpr hc)]
    obtain ⟨T1, r1, r2, r3, r4⟩ := feed_loop x n hc a b c d e 20 0 20000 (T.1, u2 (u2 (u2 (u2 (u2 T.2.1 138 0 a) 138 1 b) 138 2 c) 138 3 d) 138 4 e, T.2.2.1, T.2.2.2) (by omega) (by omega) t2 (fun q hq => by
      rcases (show q = 0 ∨ q = 1 ∨ q = 2 ∨ q = 3 ∨ q = 4 by omega) with rfl | rfl | rfl | rfl | rfl <;> rfl)
    rw [show iN 0 = 0 from rfl] at r1
    rw [r1, takeFour_eq x S n (by omega) t1 a]
    dsimp only
    rw [take4b x _ _ _ _ (n + 4) (by omega) b]
    dsimp only
    rw [take4b x _ _ _ _ (n + 4 + 4) (by omega) c]
    dsimp only
    rw [take4b x _ _ _ _ (n + 4 + 4 + 4) (by omega) d]
    dsimp only
    rw [take4b x _ _ _ _ (n + 4 + 4 + 4 + 4) (by omega) e]
    dsimp only
    rw [u2_s, u1_u1, u1_u1, u1_u1, u1_u1, u1_s, u1_s, u1_s, u1_s]
    rw [show n + 4 + 4 + 4 + 4 + 4 = n + 20 by omega]
    generalize hF : tk4 (tk4 (tk4 (tk4 (tk4 (S.2.1 19) n a) (n + 4) b) (n + 4 + 4) c) (n + 4 + 4 + 4) d) (n + 4 + 4 + 4 + 4) e = F
    have fI : ∀ j, j < 20 → F (n + j) = bC (fv a b c d e (j / 4)) (24 - 8 * (j % 4)) := by
      intro j hj
      rw [← hF]
      have hq : j / 4 = 0 ∨ j / 4 = 1 ∨ j / 4 = 2 ∨ j / 4 = 3 ∨ j / 4 = 4 := by omega
      have hm := Nat.mod_lt j (show 4 > 0 by decide)
      have hd := Nat.div_add_mod j 4
      rcases hq with hq | hq | hq | hq | hq <;> rw [hq] at hd ⊢
      · rw [tk4_out _ _ _ _ (by omega), tk4_out _ _ _ _ (by omega), tk4_out _ _ _ _ (by omega), tk4_out _ _ _ _ (by omega), show n + j = n + j % 4 by omega]
        exact tk4_in _ _ _ _ hm
      · rw [tk4_out _ _ _ _ (by omega), tk4_out _ _ _ _ (by omega), tk4_out _ _ _ _ (by omega), show n + j = n + 4 + j % 4 by omega]
        exact tk4_in _ _ _ _ hm
      · rw [tk4_out _ _ _ _ (by omega), tk4_out _ _ _ _ (by omega), show n + j = n + 4 + 4 + j % 4 by omega]
        exact tk4_in _ _ _ _ hm
      · rw [tk4_out _ _ _ _ (by omega), show n + j = n + 4 + 4 + 4 + j % 4 by omega]
        exact tk4_in _ _ _ _ hm
      · rw [show n + j = n + 4 + 4 + 4 + 4 + j % 4 by omega]
        exact tk4_in _ _ _ _ hm
    have fO : ∀ i, (i < n ∨ n + 20 ≤ i) → F i = S.2.1 19 i := by
      intro i hi
      rw [← hF, tk4_out _ _ _ _ (by omega), tk4_out _ _ _ _ (by omega), tk4_out _ _ _ _ (by omega), tk4_out _ _ _ _ (by omega), tk4_out _ _ _ _ (by omega)]
    refine ⟨_, _, _, rfl, rfl, ?_⟩
    obtain ⟨h1, h2, h3, h4, h5, h6, h7, h8⟩ := h
    have aS : Agr ([(18, 1)], [19], [], []) S (u2 S.1 18 1 (iN (n + 20)), u1 S.2.1 19 F, S.2.2.1, S.2.2.2) := Agr.fa Agr.rf 18 1 _ 19 F (by decide) (by decide)
    have aT : Agr ([(130, 13)], [137, 138], [], []) T (u2 T1.1 130 13 (iN (n + 20)), T1.2.1, T1.2.2.1, T1.2.2.2) := Agr.f ((Agr.i (Agr.i (Agr.i (Agr.i (Agr.i (W := ([(130, 13)], [137, 138], [], [])) Agr.rf 138 0 a (by decide)) 138 1 b (by decide)) 138 2 c (by decide)) 138 3 d (by decide)) 138 4 e (by decide)).tr (r2.sub (by decide))) 130 13 _ (by decide)
    have c137 : ∀ i, (i < n ∨ n + 20 ≤ i) → T1.2.1 137 i = T.2.1 137 i := by
      intro i hi
      rw [r4 i (by omega)]
      rfl
    generalize hS2 : ((u2 S.1 18 1 (iN (n + 20)), u1 S.2.1 19 F, S.2.2.1, S.2.2.2) : ST) = S2 at aS
    generalize hT2 : ((u2 T1.1 130 13 (iN (n + 20)), T1.2.1, T1.2.2.1, T1.2.2.2) : ST) = T2 at aT
    have v1 : S2.1 18 1 = iN (n + 20) := by rw [← hS2]; exact u2_s S.1 18 1 _
    have v2 : T2.1 130 13 = iN (n + 20) := by rw [← hT2]; exact u2_s T1.1 130 13 _
    have v3 : S2.2.1 19 = F := by rw [← hS2]; exact u1_s S.2.1 19 F
    have v4 : T2.2.1 137 = T1.2.1 137 := by rw [← hT2]
    refine ⟨?_, h2.cg (aS.sm (by decide)) (aS.sm (by decide)) (aS.2.1 17 (by decide)) (aT.2.1 133 (by decide)) (aT.2.1 134 (by decide)) (aS.2.2.2 16 (by decide)), ⟨⟨n + 20, hc, v1, v2⟩, fun i hi => ?_⟩, ?_, ?_, ?_, ?_, ?_⟩
    · rw [aT.2.1 132 (by decide)]; exact h1.cg (aS.sm (by decide))
    · rw [v3, v4]
      by_cases hin : n ≤ i ∧ i < n + 20
      · obtain ⟨j, hj, rfl⟩ : ∃ j, j < 20 ∧ i = n + j := ⟨i - n, by omega, by omega⟩
        rw [fI j hj, r3 j (by omega) hj]
        exact bC_bR _ _ (by omega)
      · rw [fO i (by omega), c137 i (by omega)]; exact h3.2 i hi
    · unfold RelS; rw [aS.2.1 99 (by decide), aS.1 0 12 (by decide), aT.2.1 131 (by decide), aT.1 130 0 (by decide)]; exact h4
    · unfold RelM; rw [aS.1 0 13 (by decide), aS.1 0 14 (by decide), aS.1 0 15 (by decide), aT.1 130 14 (by decide), aT.1 130 43 (by decide), aT.1 130 6 (by decide)]; exact h5
    · unfold RelU; rw [aS.1 33 0 (by decide), aS.2.1 34 (by decide), aT.1 130 31 (by decide), aT.2.1 143 (by decide), aT.2.1 132 (by decide)]; exact h6
    · unfold RelD; rw [aS.1 84 6 (by decide), aS.2.1 90 (by decide), aS.2.1 91 (by decide), aS.2.1 93 (by decide), aT.1 130 51 (by decide), aT.2.1 157 (by decide)]; exact h7
    · unfold RelC; rw [aT.2.1 136 (by decide)]; exact h8
  · rw [if_neg (show ¬ iN n ≤ 380 from fun q => by have := (iN_le (n := 380) (by omega) (by omega)).mp q; omega), if_neg (show ¬ iN (n + 20) ≤ 400 from fun q => hc ((iN_le (n := 400) (by omega) (by omega)).mp q))]
    exact ⟨-1, S, T, rfl, rfl, h⟩
end FEED
