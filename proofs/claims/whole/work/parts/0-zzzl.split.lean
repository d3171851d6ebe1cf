section SPLIT2
def mn (v : Nat) : Nat := if v ≤ 1000 then v else 1001
def TkP (S T : ST) (k t p v : Nat) : Prop := t ≤ 285 ∧ t ≠ 259 ∧ t ≠ 257 ∧ S.2.1 30 k = iN t ∧ T.2.1 139 k = iN (TM t) ∧ p ≤ 400 ∧ S.2.1 32 k = iN p ∧ T.2.1 141 k = iN p ∧ v < 100000000 ∧ T.2.1 140 k = iN v ∧ (t = 256 → S.2.1 31 k = iN (mn v))
def onlyC (k : Nat) (S S' : ST) : Prop := ∀ z, z ≠ k → S'.2.1 30 z = S.2.1 30 z ∧ S'.2.1 31 z = S.2.1 31 z ∧ S'.2.1 32 z = S.2.1 32 z
def onlyR (k : Nat) (T T' : ST) : Prop := ∀ z, z ≠ k → T'.2.1 139 z = T.2.1 139 z ∧ T'.2.1 140 z = T.2.1 140 z ∧ T'.2.1 141 z = T.2.1 141 z
theorem TkP.cg {S S' T T' : ST} {k k0 t p v : Nat} (h : TkP S T k t p v) (hk : k ≠ k0) (a : onlyC k0 S S') (b : onlyR k0 T T') : TkP S' T' k t p v := by
  obtain ⟨a1, a2, a3⟩ := a k hk
  obtain ⟨b1, b2, b3⟩ := b k hk
  unfold TkP
  rw [a1, a2, a3, b1, b2, b3]
  exact h
/-- the digits of a number, on both sides -/
theorem val_l (x : XT) (k7 : ST → Int32 → Int32 → Option (Unit × ST)) (tb : Nat → Nat) (sz k e b0 : Nat) (hk : k < 401) (he : e ≤ 400) (h0 : b0 < 256) (hd : sC b0 = 2) : ∀ (d z f1 f2 v : Nat) (S T : ST), z + d = e → d < f1 → d < f2 → Tp S T sz tb → (∀ y, z ≤ y → y < e → sC (tb y) = 2) → S.1 24 5 = iN k → T.1 130 18 = iN k → S.2.1 31 k = iN (mn v) → T.2.1 140 k = iN v → v < 100000000 → ∃ S' T' v', lfX4_addToken_24_18_76 x f1 S (iN e) (iN z) = some ((), S') ∧ lfX11_splits_130_169 x k7 f2 T (iN sz) ((iN b0).toInt8.toInt32) (iN e) (iN z) = k7 T' (iN sz) (iN e) ∧ S'.1 24 5 = iN (k + 1) ∧ T'.1 130 18 = iN (k + 1) ∧ S'.2.1 31 k = iN (mn v') ∧ T'.2.1 140 k = iN v' ∧ v' < 100000000 ∧ Agr ([(24, 5)], [31], [], []) S S' ∧ Agr ([(130, 18)], [140], [], []) T T' ∧ (∀ y, y ≠ k → S'.2.1 31 y = S.2.1 31 y) ∧ (∀ y, y ≠ k → T'.2.1 140 y = T.2.1 140 y)
  | 0, z, f1, f2, v, S, T, hz, l1, l2, hT, hs, g1, g2, g3, g4, g5 => by
    obtain ⟨f1, rfl⟩ : ∃ y, f1 = y + 1 := ⟨f1 - 1, by omega⟩
    obtain ⟨f2, rfl⟩ : ∃ y, f2 = y + 1 := ⟨f2 - 1, by omega⟩
    rw [lfX4_addToken_24_18_76, bfX4_addToken_24_18_76, if_pos ((iN_le (by omega) (by omega)).mpr (by omega)), lfX11_splits_130_169, bfX11_splits_130_169, if_pos ((iN_le (by omega) (by omega)).mpr (by omega))]
    unfold bfX4_addToken_24_18_144 bfX11_splits_130_247
    rw [g1, g2, iN_succ]
    exact ⟨_, _, v, rfl, rfl, u2_s S.1 24 5 _, u2_s T.1 130 18 _, g3, g4, g5, Agr.f Agr.rf 24 5 _ (by decide), Agr.f Agr.rf 130 18 _ (by decide), fun _ _ => rfl, fun _ _ => rfl⟩
  | d + 1, z, f1, f2, v, S, T, hz, l1, l2, hT, hs, g1, g2, g3, g4, g5 => by
    obtain ⟨f1, rfl⟩ : ∃ y, f1 = y + 1 := ⟨f1 - 1, by omega⟩
    obtain ⟨f2, rfl⟩ : ∃ y, f2 = y + 1 := ⟨f2 - 1, by omega⟩
    obtain ⟨b1, b2⟩ := hT.2.2.1 z (by omega)
    obtain ⟨-, b3⟩ := hT.2.2.2.1 z (by omega)
    have s2 := hs z (Nat.le_refl _) (by omega)
    have hr : 48 ≤ tb z ∧ tb z ≤ 57 := by
      unfold sC at s2
      by_cases c : 97 ≤ tb z ∧ tb z ≤ 122
      · rw [if_pos c] at s2; omega
      · rw [if_neg c] at s2
        by_cases c : 48 ≤ tb z ∧ tb z ≤ 57
        · exact c
        · rw [if_neg c] at s2; omega
    have sb := (sb_all ⟨tb z, b1⟩).2.2
    dsimp only at sb
    rw [if_pos (show tb z < 128 by omega)] at sb
    rw [sb] at b3
    have mle : mn v ≤ 1001 := by
      unfold mn
      by_cases c : v ≤ 1000
      · rw [if_pos c]; omega
      · rw [if_neg c]; omega
    have ec : 10 * iN (mn v) + iN (tb z) - 48 = iN (10 * mn v + (tb z - 48)) := by
      rw [show (10 : Int32) * iN (mn v) = iN (10 * mn v) from iN_mul 10 _, iN_add, show iN (10 * mn v + tb z) - 48 = iN (10 * mn v + tb z - 48) from iN_sub (n := 48) (by omega), show 10 * mn v + tb z - 48 = 10 * mn v + (tb z - 48) by omega]
    have v' : ∃ v', v' < 100000000 ∧ (if v ≤ 1000000 then 10 * v + (tb z - 48) else v) = v' ∧ (if 1001 < 10 * mn v + (tb z - 48) then 1001 else 10 * mn v + (tb z - 48)) = mn v' := by
      refine ⟨_, ?_, rfl, ?_⟩
      · by_cases c : v ≤ 1000000
        · rw [if_pos c]; omega
        · rw [if_neg c]; exact g5
      · unfold mn
        by_cases c : v ≤ 1000000
        · rw [if_pos c]
          by_cases c2 : v ≤ 1000
          · rw [if_pos c2]
            by_cases c3 : 10 * v + (tb z - 48) ≤ 1000
            · rw [if_pos c3, if_neg (by omega)]
            · rw [if_neg c3]
              by_cases c4 : 1001 < 10 * v + (tb z - 48)
              · rw [if_pos c4]
              · rw [if_neg c4]; omega
          · rw [if_neg c2, if_pos (by omega), if_neg (by omega)]
        · rw [if_neg c, if_neg (show ¬ v ≤ 1000 by omega), if_pos (by omega)]
    obtain ⟨v', w1, w2, w3⟩ := v'
    have eif : (if (1001 : Int32) < iN (10 * mn v + (tb z - 48)) then 1001 else iN (10 * mn v + (tb z - 48))) = iN (mn v') := by
      rw [← w3]
      by_cases c : 1001 < 10 * mn v + (tb z - 48)
      · rw [if_pos c, if_pos (show (1001 : Int32) < iN (10 * mn v + (tb z - 48)) from (iN_lt (m := 1001) (by omega) (by omega)).mpr c)]; rfl
      · rw [if_neg c, if_neg (show ¬ (1001 : Int32) < iN (10 * mn v + (tb z - 48)) from fun y => c ((iN_lt (m := 1001) (by omega) (by omega)).mp y))]
    have aS : Agr ([(24, 5)], [31], [], []) S (S.1, u2 S.2.1 31 k (iN (mn v')), S.2.2.1, S.2.2.2) := Agr.i Agr.rf 31 k _ (by decide)
    have aT : Agr ([(130, 18)], [140], [], []) T (T.1, u2 T.2.1 140 k (iN v'), T.2.2.1, T.2.2.2) := Agr.i Agr.rf 140 k _ (by decide)
    obtain ⟨S', T', v2, r1, r2, r3, r4, r5, r6, r7, r8, r9, r10, r11⟩ := val_l x k7 tb sz k e b0 hk he h0 hd d (z + 1) f1 f2 v' (S.1, u2 S.2.1 31 k (iN (mn v')), S.2.2.1, S.2.2.2) (T.1, u2 T.2.1 140 k (iN v'), T.2.2.1, T.2.2.2) (by omega) (by omega) (by omega) (hT.cg (aS.sub (by decide)) (aT.sub (by decide))) (fun y y1 y2 => hs y (by omega) y2) g1 g2 (u2_s S.2.1 31 k _) (u2_s T.2.1 140 k _) w1
    refine ⟨S', T', v2, ?_, ?_, r3, r4, r5, r6, r7, aS.tr r8, aT.tr r9, fun y hy => by rw [r10 y hy]; exact (u2_k S.2.1 31 (iN (mn v')) hy), fun y hy => by rw [r11 y hy]; exact (u2_k T.2.1 140 (iN v') hy)⟩
    · rw [lfX4_addToken_24_18_76, bfX4_addToken_24_18_76, if_neg (fun y => by have := (iN_le (by omega) (by omega)).mp y; omega), g1, inb_t hk (by omega), cond_true, inb_t (show z < 400 by omega) (by omega), cond_true, cond_true, iN_nat (by omega), iN_nat (by omega), g3, b2, ec, eif, iN_succ]
      exact r1
    · rw [lfX11_splits_130_169, bfX11_splits_130_169, if_neg (fun y => by have := (iN_le (by omega) (by omega)).mp y; omega), digit_eq x T b0 h0, hd]
      dsimp only
      unfold bfX11_splits_130_240
      rw [if_neg (show ¬ bz (decide ((2 : Nat) = 2)) = 0 by decide), g2, inb_t hk (by omega), cond_true, cond_true, cond_true, iN_nat (by omega), g4, inb_t (show z < 400 by omega) (by omega), cond_true, iN_nat (by omega), b3, iN_succ]
      have er : (10 : Int32) * iN v + iN (tb z) - 48 = iN (10 * v + (tb z - 48)) := by
        rw [show (10 : Int32) * iN v = iN (10 * v) from iN_mul 10 _, iN_add, show iN (10 * v + tb z) - 48 = iN (10 * v + tb z - 48) from iN_sub (n := 48) (by omega), show 10 * v + tb z - 48 = 10 * v + (tb z - 48) by omega]
      rw [er]
      rw [← w2] at r2
      by_cases c : v ≤ 1000000
      · rw [if_pos (show iN v ≤ 1000000 from (iN_le (n := 1000000) (by omega) (by omega)).mpr c)]
        rw [if_pos c] at r2
        exact r2
      · rw [if_neg (show ¬ iN v ≤ 1000000 from fun y => c ((iN_le (n := 1000000) (by omega) (by omega)).mp y))]
        rw [if_neg c] at r2
        exact r2
/-- a TOKEN on both sides -/
theorem tok_one (x : XT) {S T : ST} {sz : Nat} {tb : Nat → Nat} (h : Tp S T sz tb) (i k f : Nat) (hi : i < sz) (hk : k ≤ i) (hb : tb i ≠ 32) (g1 : S.1 24 5 = iN k) (g2 : T.1 130 18 = iN k) : ∃ S' T' t v, gfX4_addToken_24_18 x S (iN i) (iN (tE tb sz i)) = some ((), S') ∧ lfX11_splits_130_7 x (f + 1) T (iN sz) (iN i) = lfX11_splits_130_7 x f T' (iN sz) (iN (tE tb sz i)) ∧ S'.1 24 5 = iN (k + 1) ∧ T'.1 130 18 = iN (k + 1) ∧ TkP S' T' k t i v ∧ onlyC k S S' ∧ onlyR k T T' ∧ Agr wSp S S' ∧ Agr wSq T T' := by
  have hz := h.1
  obtain ⟨b1, b2⟩ := h.2.2.1 i (by omega)
  obtain ⟨-, b3⟩ := h.2.2.2.1 i (by omega)
  obtain ⟨e1, e2⟩ := tE_le tb sz i hi
  have k401 : k < 401 := by omega
  -- the rows as both have begun them
  have aS0 : Agr wSp S (S.1, u2 (u2 S.2.1 32 k (iN i)) 31 k 0, S.2.2.1, S.2.2.2) := Agr.i (S1 := (S.1, u2 S.2.1 32 k (iN i), S.2.2.1, S.2.2.2)) (Agr.i Agr.rf 32 k _ (by decide)) 31 k _ (by decide)
  have aT0 : Agr wSq T (T.1, u2 (u2 T.2.1 141 k (iN i)) 140 k 0, T.2.2.1, T.2.2.2) := Agr.i (S1 := (T.1, u2 T.2.1 141 k (iN i), T.2.2.1, T.2.2.2)) (Agr.i Agr.rf 141 k _ (by decide)) 140 k _ (by decide)
  have hT0 := h.cg aS0 aT0
  have dS : ∀ t : Nat, (u2 (u2 (u2 S.2.1 32 k (iN i)) 31 k 0) 30 k (iN t)) 30 k = iN t ∧ (u2 (u2 (u2 S.2.1 32 k (iN i)) 31 k 0) 30 k (iN t)) 32 k = iN i ∧ (u2 (u2 (u2 S.2.1 32 k (iN i)) 31 k 0) 30 k (iN t)) 31 k = 0 ∧ ∀ z, z ≠ k → (u2 (u2 (u2 S.2.1 32 k (iN i)) 31 k 0) 30 k (iN t)) 30 z = S.2.1 30 z ∧ (u2 (u2 (u2 S.2.1 32 k (iN i)) 31 k 0) 30 k (iN t)) 31 z = S.2.1 31 z ∧ (u2 (u2 (u2 S.2.1 32 k (iN i)) 31 k 0) 30 k (iN t)) 32 z = S.2.1 32 z := by
    intro t
    refine ⟨u2_s _ 30 k _, ?_, ?_, fun z hz => ⟨?_, ?_, ?_⟩⟩
    · rw [u2_ro _ _ _ (by decide), u2_ro _ _ _ (by decide), u2_s]
    · rw [u2_ro _ _ _ (by decide), u2_s]
    · rw [u2_k _ _ _ hz, u2_ro _ _ _ (by decide), u2_ro _ _ _ (by decide)]
    · rw [u2_ro _ _ _ (by decide), u2_k _ _ _ hz, u2_ro _ _ _ (by decide)]
    · rw [u2_ro _ _ _ (by decide), u2_ro _ _ _ (by decide), u2_k _ _ _ hz]
  have dT : ∀ c : Int32, (u2 (u2 (u2 T.2.1 141 k (iN i)) 140 k 0) 139 k c) 139 k = c ∧ (u2 (u2 (u2 T.2.1 141 k (iN i)) 140 k 0) 139 k c) 141 k = iN i ∧ (u2 (u2 (u2 T.2.1 141 k (iN i)) 140 k 0) 139 k c) 140 k = 0 ∧ ∀ z, z ≠ k → (u2 (u2 (u2 T.2.1 141 k (iN i)) 140 k 0) 139 k c) 139 z = T.2.1 139 z ∧ (u2 (u2 (u2 T.2.1 141 k (iN i)) 140 k 0) 139 k c) 140 z = T.2.1 140 z ∧ (u2 (u2 (u2 T.2.1 141 k (iN i)) 140 k 0) 139 k c) 141 z = T.2.1 141 z := by
    intro c
    refine ⟨u2_s _ 139 k _, ?_, ?_, fun z hz => ⟨?_, ?_, ?_⟩⟩
    · rw [u2_ro _ _ _ (by decide), u2_ro _ _ _ (by decide), u2_s]
    · rw [u2_ro _ _ _ (by decide), u2_s]
    · rw [u2_k _ _ _ hz, u2_ro _ _ _ (by decide), u2_ro _ _ _ (by decide)]
    · rw [u2_ro _ _ _ (by decide), u2_k _ _ _ hz, u2_ro _ _ _ (by decide)]
    · rw [u2_ro _ _ _ (by decide), u2_ro _ _ _ (by decide), u2_k _ _ _ hz]
  have aS1 : ∀ t : Nat, Agr wSp S (S.1, u2 (u2 (u2 S.2.1 32 k (iN i)) 31 k 0) 30 k (iN t), S.2.2.1, S.2.2.2) := fun t => Agr.i (S1 := (S.1, u2 (u2 S.2.1 32 k (iN i)) 31 k 0, S.2.2.1, S.2.2.2)) aS0 30 k _ (by decide)
  have aT1 : ∀ c : Int32, Agr wSq T (T.1, u2 (u2 (u2 T.2.1 141 k (iN i)) 140 k 0) 139 k c, T.2.2.1, T.2.2.2) := fun c => Agr.i (S1 := (T.1, u2 (u2 T.2.1 141 k (iN i)) 140 k 0, T.2.2.1, T.2.2.2)) aT0 139 k _ (by decide)
  -- a TOKEN that is no number
  have simple : ∀ t : Nat, t ≤ 285 → t ≠ 259 → t ≠ 257 → t ≠ 256 → ¬ sC (tb i) = 2 → gfX4_addToken_24_18 x S (iN i) (iN (tE tb sz i)) = bfX4_addToken_24_18_144 x (S.1, u2 (u2 (u2 S.2.1 32 k (iN i)) 31 k 0) 30 k (iN t), S.2.2.1, S.2.2.2) → bfX11_splits_130_100 x (lfX11_splits_130_7 x f) T (iN sz) (iN i) ((iN (tb i)).toInt8.toInt32) (iN (tE tb sz i)) = bfX11_splits_130_165 x (lfX11_splits_130_7 x f) (T.1, u2 (u2 T.2.1 141 k (iN i)) 140 k 0, T.2.2.1, T.2.2.2) (iN sz) (iN i) ((iN (tb i)).toInt8.toInt32) (iN (tE tb sz i)) (iN k) (iN (TM t)) → ∃ S' T' t v, gfX4_addToken_24_18 x S (iN i) (iN (tE tb sz i)) = some ((), S') ∧ bfX11_splits_130_100 x (lfX11_splits_130_7 x f) T (iN sz) (iN i) ((iN (tb i)).toInt8.toInt32) (iN (tE tb sz i)) = lfX11_splits_130_7 x f T' (iN sz) (iN (tE tb sz i)) ∧ S'.1 24 5 = iN (k + 1) ∧ T'.1 130 18 = iN (k + 1) ∧ TkP S' T' k t i v ∧ onlyC k S S' ∧ onlyR k T T' ∧ Agr wSp S S' ∧ Agr wSq T T' := by
    intro t t1 t2 t3 t4 nd q1 q2
    obtain ⟨p1, p2, p3, p4⟩ := dS t
    obtain ⟨r1, r2, r3, r4⟩ := dT (iN (TM t))
    rw [q1, q2]
    unfold bfX4_addToken_24_18_144 bfX11_splits_130_165
    dsimp only
    rw [g1, inb_t k401 (by omega), cond_true, iN_nat (by omega), iN_succ, show (20000 : Nat) = 19999 + 1 from rfl, lfX11_splits_130_169, bfX11_splits_130_169, if_neg (fun y => by have := (iN_le (by omega) (by omega)).mp y; omega), digit_eq x _ (tb i) b1, decide_eq_false nd]
    dsimp only
    unfold bfX11_splits_130_247
    rw [if_pos (show bz false = 0 from rfl)]
    dsimp only
    rw [g2, iN_succ]
    exact ⟨_, _, t, 0, rfl, rfl, u2_s S.1 24 5 _, u2_s T.1 130 18 _, ⟨t1, t2, t3, p1, r1, by omega, p2, r2, by omega, r3, fun z => absurd z t4⟩, p4, r4, Agr.f (aS1 t) 24 5 _ (by decide), Agr.f (aT1 _) 130 18 _ (by decide)⟩
  rw [r7_tok x h i f hi hb]
  have cAdd : gfX4_addToken_24_18 x S (iN i) (iN (tE tb sz i)) = (if ¬ iN (sC (tb i)) = 1 then (if ¬ iN (sC (tb i)) = 2 then (bfX4_addToken_24_18_144 x (S.1, u2 (u2 (u2 S.2.1 32 k (iN i)) 31 k 0) 30 k (iN (tb i)), S.2.2.1, S.2.2.2)) else (lfX4_addToken_24_18_76 x 20000 (S.1, u2 (u2 (u2 S.2.1 32 k (iN i)) 31 k 0) 30 k 256, S.2.2.1, S.2.2.2) (iN (tE tb sz i)) (iN i))) else (match gfX4_wordOf_18 x (S.1, u2 (u2 S.2.1 32 k (iN i)) 31 k 0, S.2.2.1, S.2.2.2) (iN i) (iN (tE tb sz i)) with
      | none => none
      | some (r15, S16) => (bfX4_addToken_24_18_144 x (S16.1, (u2 S16.2.1 30 k r15), S16.2.2.1, S16.2.2.2)))) := by
    unfold gfX4_addToken_24_18 bfX4_addToken_24_18_0
    rw [inb_t (show i < 400 by omega) (by omega), cond_true, iN_nat (show i < 2147483648 by omega), b2, sort_eq x S (tb i) b1]
    dsimp only
    rw [g1, inb_t k401 (by omega), iN_nat (show k < 2147483648 by omega), b2]
    simp only [cond_true]
    cases gfX4_wordOf_18 x (S.1, u2 (u2 S.2.1 32 k (iN i)) 31 k 0, S.2.2.1, S.2.2.2) (iN i) (iN (tE tb sz i)) with
    | none => rfl
    | some z => rfl
  rcases sC_3 (tb i) with c | c | c
  · -- letters
    have hw := cF_rF tb i (tE tb sz i)
    refine simple (cF tb i (tE tb sz i)) hw.2.1 (by omega) (by omega) (by omega) (by omega) ?_ ?_
    · rw [cAdd, c, if_neg (fun z => z (show iN 1 = 1 from rfl)), wordC x _ tb hT0.2.2.1 i (tE tb sz i) e1 (by omega)]
    · unfold bfX11_splits_130_100
      rw [g2, inb_t k401 (by omega), cond_true, cond_true, iN_nat (show k < 2147483648 by omega), small_eq x _ (tb i) b1, c]
      dsimp only
      rw [if_neg (show ¬ bz (decide ((1 : Nat) = 1)) = 0 by decide), wordR x _ tb hT0.2.2.2.1 hT0.2.2.2.2 i (tE tb sz i) e1 (by omega), hw.1]
  · -- digits
    have all2 : ∀ y, i ≤ y → y < tE tb sz i → sC (tb y) = 2 := fun y y1 y2 => (tE_all tb sz i y y1 y2).trans c
    obtain ⟨p1, p2, p3, p4⟩ := dS 256
    obtain ⟨r1, r2, r3, r4⟩ := dT 50
    have hT1 := h.cg (aS1 256) (aT1 50)
    obtain ⟨S', T', v', w1, w2, w3, w4, w5, w6, w7, w8, w9, w10, w11⟩ := val_l x (lfX11_splits_130_7 x f) tb sz k (tE tb sz i) (tb i) k401 (by omega) b1 c (tE tb sz i - i) i 20000 20000 0 _ _ (by omega) (by omega) (by omega) hT1 all2 g1 g2 (p3.trans (by rfl)) (r3.trans (by rfl)) (by omega)
    refine ⟨S', T', 256, v', ?_, ?_, w3, w4, ⟨by omega, by omega, by omega, by rw [w8.2.1 30 (by decide)]; exact p1, by rw [w9.2.1 139 (by decide)]; exact r1, by omega, by rw [w8.2.1 32 (by decide)]; exact p2, by rw [w9.2.1 141 (by decide)]; exact r2, w7, w6, fun _ => w5⟩, fun z hz => ?_, fun z hz => ?_, (aS1 256).tr (w8.sub (by decide)), (aT1 50).tr (w9.sub (by decide))⟩
    · rw [cAdd, c, if_pos (show ¬ iN 2 = 1 by decide), if_neg (fun z => z (show iN 2 = 2 from rfl))]
      exact w1
    · unfold bfX11_splits_130_100
      rw [g2, inb_t k401 (by omega), cond_true, cond_true, iN_nat (show k < 2147483648 by omega), small_eq x _ (tb i) b1, c]
      dsimp only
      rw [if_pos (show bz (decide ((2 : Nat) = 1)) = 0 by decide), digit_eq x _ (tb i) b1, c]
      dsimp only
      unfold bfX11_splits_130_165
      rw [if_neg (show ¬ bz (decide ((2 : Nat) = 2)) = 0 by decide), inb_t k401 (by omega), cond_true, iN_nat (show k < 2147483648 by omega)]
      exact w2
    · rw [w8.2.1 30 (by decide), w10 z hz, w8.2.1 32 (by decide)]
      exact p4 z hz
    · rw [w9.2.1 139 (by decide), w11 z hz, w9.2.1 141 (by decide)]
      exact r4 z hz
  · -- a byte by itself
    have eM : TM (tb i) = 100 + tb i := by
      unfold TM
      rw [if_pos b1]
    refine simple (tb i) (by omega) (by omega) (by omega) (by omega) (by omega) ?_ ?_
    · rw [cAdd, c, if_pos (show ¬ iN 3 = 1 by decide), if_pos (show ¬ iN 3 = 2 by decide)]
    · unfold bfX11_splits_130_100
      rw [g2, inb_t k401 (by omega), cond_true, cond_true, iN_nat (show k < 2147483648 by omega), small_eq x _ (tb i) b1, c]
      dsimp only
      rw [if_pos (show bz (decide ((3 : Nat) = 1)) = 0 by decide), digit_eq x _ (tb i) b1, c]
      dsimp only
      rw [if_pos (show bz (decide ((3 : Nat) = 2)) = 0 by decide), (sb_all ⟨tb i, b1⟩).2.1, show (100 : Int32) + iN (tb i) = iN (100 + tb i) from iN_add 100 _, eM]
end SPLIT2
