section KINDS
/-- as how many one comes out: -1 BARRED -/
def oV (R : RF) (f : Nat → Int32) (k a m : Int32) : Int32 := if tV R 2 (QW k a m 0 (-1) (-1) (f 35) (f 90)) = 1 then -1 else tV R 0 (QW k a m 0 (-1) (-1) (f 35) (f 90))
theorem qU_nb {f : Nat → Int32} (h : WF f) {k a m : Int32} (hk : inb k 8 = true) (ha : inb a 10 = true) (hm : inb m 20 = true) : QN (QW k a m 0 (-1) (-1) (f 35) (f 90)) := by
  obtain ⟨w0, w1, w2, w3, w4, w5, w6, w7, w8, w9, w10⟩ := h
  intro w hw
  have : w = 0 ∨ w = 1 ∨ w = 2 ∨ w = 3 ∨ w = 4 ∨ w = 5 ∨ w = 6 ∨ w = 7 := by omega
  rcases this with rfl | rfl | rfl | rfl | rfl | rfl | rfl | rfl
  · exact inb_nb hk (by omega)
  · exact inb_nb ha (by omega)
  · exact inb_nb hm (by omega)
  · exact iN_nb (n := 0) (by omega)
  · exact (show ¬ (-1 : Int32) = -2000000000 by decide)
  · exact (show ¬ (-1 : Int32) = -2000000000 by decide)
  · exact inb_nb w0.2.2 (by omega)
  · exact inb_nb w10 (by omega)
theorem oV_in (R : RF) (f : Nat → Int32) (k a m : Int32) (hm : inb m 20 = true) : oV R f k a m = -1 ∨ inb (oV R f k a m) 20 = true := by
  unfold oV
  by_cases h : tV R 2 (QW k a m 0 (-1) (-1) (f 35) (f 90)) = 1
  · rw [if_pos h]; exact Or.inl rfl
  · rw [if_neg h]; exact Or.inr (tV0_inb R _ hm)
/-- what the class's side keeps -/
def PC (x : XT) (S : ST) (f : Nat → Int32) (R : RF) : Prop := LR x S 1 f R ∧ KA S 1 f
theorem PC.cg {x : XT} {S S' : ST} {f : Nat → Int32} {R : RF} (h : PC x S f R) (hs : Sm (lK 1) S S') : PC x S' f R := ⟨h.1.sm hs, h.2.cg hs⟩
theorem comes_eq (x : XT) (S : ST) (f : Nat → Int32) (R : RF) (h : PC x S f R) (hW : WF f) {k a m : Int32} (hk : inb k 8 = true) (ha : inb a 10 = true) (hm : inb m 20 = true) : ∃ S', gfX3_comesOut_80_1 x S k a m = some (oV R f k a m, S') ∧ Agr ([], [21, 22], [], []) S S' := by
  obtain ⟨hR, hK⟩ := h
  obtain ⟨W, e1, e2⟩ := regU1 x S k a m
  have e35 : S.2.1 (1 + 13) 0 = f 35 := hK.2.2.2.2.2.2.2.2.1
  have e90 : S.2.1 (1 + 13) 2 = f 90 := hK.2.2.2.2.2.2.2.2.2.2
  rw [e35, e90] at e2
  have hn := qU_nb hW hk ha hm
  obtain ⟨st, e3⟩ := toldQ1 x (wA S 21 W) f R (hR.w1 W W).1 _ (fun w hw => by rw [wA_s]; exact e2 w hw) hn 2 (by omega)
  obtain ⟨st2, e4⟩ := toldQ1 x (wkT (wA S 21 W) st) f R (hR.w1 W st).2 _ (fun w hw => e2 w hw) hn 0 (by omega)
  have key : ∃ S', gfX3_comesOut_80_1 x S k a m = some (oV R f k a m, S') := by
    unfold gfX3_comesOut_80_1 bfX3_comesOut_80_1_0 bfX3_comesOut_80_1_42
    rw [e1, show (262 : Int32) = iN (260 + 2) from rfl, show (260 : Int32) = iN (260 + 0) from rfl]
    dsimp only
    rw [e3]
    dsimp only
    unfold oV
    by_cases hb : tV R 2 (QW k a m 0 (-1) (-1) (f 35) (f 90)) = 1
    · rw [if_neg (fun q => q hb), if_pos hb]; exact ⟨_, rfl⟩
    · rw [if_pos hb, if_neg hb, e4]; exact ⟨_, rfl⟩
  obtain ⟨S', q⟩ := key
  exact ⟨S', q, frX3_comesOut_80_1 x S _ _ _ _ _ q⟩
theorem out_eq (x : XT) (S0 T : ST) (f : Nat → Int32) (R : RF) (hR : LR x S0 1 f R) (hf : T.2.1 132 = f) (k a m : Int32) : ∃ T', gfX11_outOf_130 x T k a m = some (oV R f k a m, T') ∧ Agr wX11_outOf_130 T T' := by
  subst hf
  obtain ⟨T1, f1, f2, f3⟩ := asked_eq x T k a m 0 (-1) (-1)
  obtain ⟨T2, f4⟩ := refBars x S0 1 T1 R (by rw [f3]; exact hR) _ f2
  have a2 := frX11_isBarredNow_130 x T1 _ _ f4
  obtain ⟨T3, f5⟩ := refTurns x S0 1 T2 R (by rw [a2.2.1 132 (by decide), f3]; exact hR) _ (fun c h1 h2 => by rw [a2.2.1 142 (by decide)]; exact f2 c h1 h2)
  have key : ∃ T', gfX11_outOf_130 x T k a m = some (oV R (T.2.1 132) k a m, T') := by
    unfold gfX11_outOf_130 bfX11_outOf_130_0 bfX11_outOf_130_25
    rw [f1]
    dsimp only
    rw [f4]
    dsimp only
    unfold oV
    rcases tV_bar hR (QW k a m 0 (-1) (-1) (T.2.1 132 35) (T.2.1 132 90)) with hb | hb
    · rw [if_pos hb, hb, if_neg (show ¬ (0 : Int32) = 1 by decide), f5]; exact ⟨_, rfl⟩
    · rw [hb, if_neg (show ¬ (1 : Int32) = 0 by decide), if_pos rfl]; exact ⟨_, rfl⟩
  obtain ⟨T', q⟩ := key
  exact ⟨T', q, frX11_outOf_130 x T _ _ _ _ _ q⟩
/-- do the sights from s on fit -/
def fitF (R : RF) (f : Nat → Int32) (k : Int32) : Nat → Nat → Int32 → Int32
  | 0, _, b => b
  | m + 1, s, b => if b = 0 then b else fitF R f k m (s + 1) (if oV R f k (f (71 + 3 * s)) (f (72 + 3 * s)) = f (73 + 3 * s) then 1 else 0)
theorem fitF_b (R : RF) (f : Nat → Int32) (k : Int32) : ∀ (m s : Nat) (b : Int32), (b = 0 ∨ b = 1) → (fitF R f k m s b = 0 ∨ fitF R f k m s b = 1)
  | 0, s, b, h => h
  | m + 1, s, b, h => by
    unfold fitF
    by_cases hb : b = 0
    · rw [if_pos hb]; exact Or.inl hb
    · rw [if_neg hb]
      exact fitF_b R f k m (s + 1) _ (by by_cases q : oV R f k (f (71 + 3 * s)) (f (72 + 3 * s)) = f (73 + 3 * s) <;> simp [q])
theorem poss_in (x : XT) (f : Nat → Int32) (R : RF) (hW : WF f) (n : Nat) (hn : f 93 = iN n) (h6 : n ≤ 6) (k : Int32) (hk : inb k 8 = true) (k4 : ST → Int32 → Int32 → Option (Int32 × ST)) (v2 : Int32) : ∀ (m s fuel : Nat) (S : ST) (b : Int32), s + m = n → m < fuel → PC x S f R → ∃ S', lfX3_possible_80_1_16 x k4 fuel S v2 k b (iN s) = bfX3_possible_80_1_73 x k4 S' v2 k (fitF R f k m s b) ∧ Agr ([], [21, 22], [], []) S S'
  | 0, s, fuel, S, b, hs, hf, hP => by
    obtain ⟨fuel, rfl⟩ : ∃ z, fuel = z + 1 := ⟨fuel - 1, by omega⟩
    have e : s = n := by omega
    subst e
    rw [lfX3_possible_80_1_16, bfX3_possible_80_1_16, hP.2.2.2.1, hn, if_pos ((iN_le (by omega) (by omega)).mpr (by omega))]
    exact ⟨S, rfl, Agr.rf⟩
  | m + 1, s, fuel, S, b, hs, hf, hP => by
    obtain ⟨fuel, rfl⟩ : ∃ z, fuel = z + 1 := ⟨fuel - 1, by omega⟩
    obtain ⟨a1, a2, a3⟩ := hP.2.2.2.2.2.2.2.2.1 s (by omega)
    obtain ⟨w1, w2, w3⟩ := hW.2.2.2.2.2.2.2.2.1 s (by omega)
    rw [lfX3_possible_80_1_16, bfX3_possible_80_1_16, hP.2.2.2.1, hn, if_neg (fun q => by have := (iN_le (by omega) (by omega)).mp q; omega), fitF]
    by_cases hb : b = 0
    · rw [if_pos hb, if_pos hb]; exact ⟨S, rfl, Agr.rf⟩
    · obtain ⟨S1, c1, c2⟩ := comes_eq x S f R hP hW hk w1 w2
      have d1 : S.2.1 11 s = f (71 + 3 * s) := a1
      have d2 : S.2.1 12 s = f (72 + 3 * s) := a2
      have d3 : S1.2.1 13 s = f (73 + 3 * s) := (congrFun (c2.2.1 13 (by decide)) s).trans a3
      rw [if_neg hb, if_neg hb, inb_t (show s < 6 by omega) (by omega), cond_true, cond_true, iN_nat (by omega), d1, d2, c1]
      dsimp only
      rw [cond_true, d3]
      unfold bfX3_possible_80_1_65
      rw [iN_succ]
      have hP1 := hP.cg (c2.sm (by decide))
      by_cases q : oV R f k (f (71 + 3 * s)) (f (72 + 3 * s)) = f (73 + 3 * s)
      · rw [if_neg (fun z => z q), if_pos q]
        obtain ⟨S', r1, r2⟩ := poss_in x f R hW n hn h6 k hk k4 v2 m (s + 1) fuel S1 1 (by omega) (by omega) hP1
        exact ⟨S', r1, c2.tr r2⟩
      · rw [if_pos q, if_neg q]
        obtain ⟨S', r1, r2⟩ := poss_in x f R hW n hn h6 k hk k4 v2 m (s + 1) fuel S1 0 (by omega) (by omega) hP1
        exact ⟨S', r1, c2.tr r2⟩
theorem canb_in (x : XT) (S0 : ST) (f : Nat → Int32) (R : RF) (hR : LR x S0 1 f R) (n : Nat) (hn : f 93 = iN n) (h6 : n ≤ 6) (k : Int32) : ∀ (m s fuel : Nat) (T : ST) (b : Int32), s + m = n → m < fuel → T.2.1 132 = f → (b = 0 ∨ b = 1) → ∃ T', lfX11_canBeKind_130_4 x fuel T k b (iN s) = some (fitF R f k m s b, T') ∧ Agr wX11_outOf_130 T T'
  | 0, s, fuel, T, b, hs, hf, hT, hb => by
    obtain ⟨fuel, rfl⟩ : ∃ z, fuel = z + 1 := ⟨fuel - 1, by omega⟩
    have e : s = n := by omega
    subst e
    rw [lfX11_canBeKind_130_4, bfX11_canBeKind_130_4, hT, hn, if_pos ((iN_le (by omega) (by omega)).mpr (by omega)), bfX11_canBeKind_130_76, show bbz b = true by rcases hb with rfl | rfl <;> rfl, cond_true]
    exact ⟨T, rfl, Agr.rf⟩
  | m + 1, s, fuel, T, b, hs, hf, hT, hb => by
    obtain ⟨fuel, rfl⟩ : ∃ z, fuel = z + 1 := ⟨fuel - 1, by omega⟩
    rw [lfX11_canBeKind_130_4, bfX11_canBeKind_130_4, hT, hn, if_neg (fun q => by have := (iN_le (by omega) (by omega)).mp q; omega), fitF]
    by_cases hb0 : b = 0
    · rw [if_pos hb0, if_pos hb0, bfX11_canBeKind_130_76, hb0, show bbz 0 = true from rfl, cond_true]; exact ⟨T, rfl, Agr.rf⟩
    · obtain ⟨T1, c1, c2⟩ := out_eq x S0 T f R hR hT k (f (71 + 3 * s)) (f (72 + 3 * s))
      have hT1 : T1.2.1 132 = f := (c2.2.1 132 (by decide)).trans hT
      rw [if_neg hb0, if_neg hb0, show (3 : Int32) * iN s = iN (3 * s) from iN_mul 3 s, show (71 : Int32) + iN (3 * s) = iN (71 + 3 * s) from iN_add 71 _, show iN (71 + 3 * s) + 1 = iN (72 + 3 * s) from by rw [iN_succ]; congr 1; omega, show iN (71 + 3 * s) + 2 = iN (73 + 3 * s) from (iN_add _ 2).trans (by congr 1; omega), inb_t (show 71 + 3 * s < 5703 by omega) (by omega), inb_t (show 72 + 3 * s < 5703 by omega) (by omega), inb_t (show 73 + 3 * s < 5703 by omega) (by omega), cond_true, cond_true, iN_nat (by omega), iN_nat (by omega), iN_nat (by omega), c1]
      dsimp only
      rw [cond_true, hT1]
      unfold bfX11_canBeKind_130_69
      rw [iN_succ]
      by_cases q : oV R f k (f (71 + 3 * s)) (f (72 + 3 * s)) = f (73 + 3 * s)
      · rw [if_neg (fun z => z q), if_pos q]
        obtain ⟨T', r1, r2⟩ := canb_in x S0 f R hR n hn h6 k m (s + 1) fuel T1 1 (by omega) (by omega) hT1 (Or.inr rfl)
        exact ⟨T', r1, c2.tr r2⟩
      · rw [if_pos q, if_neg q]
        obtain ⟨T', r1, r2⟩ := canb_in x S0 f R hR n hn h6 k m (s + 1) fuel T1 0 (by omega) (by omega) hT1 (Or.inl rfl)
        exact ⟨T', r1, c2.tr r2⟩
def bitF (R : RF) (f : Nat → Int32) (n : Nat) : Nat → Nat → Int32 → Int32
  | 0, _, b => b
  | m + 1, k, b => bitF R f n m (k + 1) (b ||| (if fitF R f (iN k) n 0 1 = 0 then (0 : Int32) else (1 : Int32) <<< (iN k &&& 31)))
theorem poss_out (x : XT) (f : Nat → Int32) (R : RF) (hW : WF f) (n : Nat) (hn : f 93 = iN n) (h6 : n ≤ 6) : ∀ (m k fuel : Nat) (S : ST) (b : Int32), k + m = 8 → m < fuel → PC x S f R → ∃ S', lfX3_possible_80_1_4 x fuel S b (iN k) = some (bitF R f n m k b, S') ∧ Agr ([], [21, 22], [], []) S S'
  | 0, k, fuel, S, b, hk, hf, hP => by
    obtain ⟨fuel, rfl⟩ : ∃ z, fuel = z + 1 := ⟨fuel - 1, by omega⟩
    have e : k = 8 := by omega
    subst e
    rw [lfX3_possible_80_1_4, bfX3_possible_80_1_4, if_pos (show (8 : Int32) ≤ iN 8 by decide)]
    exact ⟨S, rfl, Agr.rf⟩
  | m + 1, k, fuel, S, b, hk, hf, hP => by
    obtain ⟨fuel, rfl⟩ : ∃ z, fuel = z + 1 := ⟨fuel - 1, by omega⟩
    obtain ⟨S1, c1, c2⟩ := poss_in x f R hW n hn h6 (iN k) (inb_t (by omega) (by omega)) (lfX3_possible_80_1_4 x fuel) b n 0 20000 S 1 (by omega) (by omega) hP
    rw [show iN 0 = 0 from rfl] at c1
    rw [lfX3_possible_80_1_4, bfX3_possible_80_1_4, if_neg (show ¬ (8 : Int32) ≤ iN k from fun q => by have := (iN_le (m := 8) (by omega) (by omega)).mp q; omega), c1, bitF]
    unfold bfX3_possible_80_1_73 bfX3_possible_80_1_86
    rw [iN_succ]
    have hP1 := hP.cg (c2.sm (by decide))
    obtain ⟨S', r1, r2⟩ := poss_out x f R hW n hn h6 m (k + 1) fuel S1 (b ||| (if fitF R f (iN k) n 0 1 = 0 then (0 : Int32) else (1 : Int32) <<< (iN k &&& 31))) (by omega) (by omega) hP1
    refine ⟨S', ?_, c2.tr r2⟩
    rw [← r1]
    by_cases q : fitF R f (iN k) n 0 1 = 0
    · rw [if_pos q, if_pos q]
    · rw [if_neg q, if_neg q]
theorem kind_out (x : XT) (S0 : ST) (f : Nat → Int32) (R : RF) (hR : LR x S0 1 f R) (n : Nat) (hn : f 93 = iN n) (h6 : n ≤ 6) : ∀ (m k fuel : Nat) (T : ST) (b : Int32), k + m = 8 → m < fuel → T.2.1 132 = f → ∃ T', lfX11_kinds_130_4 x fuel T b (iN k) = some (bitF R f n m k b, T') ∧ Agr wX11_outOf_130 T T'
  | 0, k, fuel, T, b, hk, hf, hT => by
    obtain ⟨fuel, rfl⟩ : ∃ z, fuel = z + 1 := ⟨fuel - 1, by omega⟩
    have e : k = 8 := by omega
    subst e
    rw [lfX11_kinds_130_4, bfX11_kinds_130_4, if_pos (show (8 : Int32) ≤ iN 8 by decide)]
    exact ⟨T, rfl, Agr.rf⟩
  | m + 1, k, fuel, T, b, hk, hf, hT => by
    obtain ⟨fuel, rfl⟩ : ∃ z, fuel = z + 1 := ⟨fuel - 1, by omega⟩
    obtain ⟨T1, c1, c2⟩ := canb_in x S0 f R hR n hn h6 (iN k) n 0 20000 T 1 (by omega) (by omega) hT (Or.inr rfl)
    rw [show iN 0 = 0 from rfl] at c1
    have c0 : gfX11_canBeKind_130 x T (iN k) = some (fitF R f (iN k) n 0 1, T1) := c1
    rw [lfX11_kinds_130_4, bfX11_kinds_130_4, if_neg (show ¬ (8 : Int32) ≤ iN k from fun q => by have := (iN_le (m := 8) (by omega) (by omega)).mp q; omega), c0, bitF]
    dsimp only
    unfold bfX11_kinds_130_26
    rw [iN_succ]
    obtain ⟨T', r1, r2⟩ := kind_out x S0 f R hR n hn h6 m (k + 1) fuel T1 (b ||| (if fitF R f (iN k) n 0 1 = 0 then (0 : Int32) else (1 : Int32) <<< (iN k &&& 31))) (by omega) (by omega) ((c2.2.1 132 (by decide)).trans hT)
    refine ⟨T', ?_, c2.tr r2⟩
    rw [← r1]
    by_cases q : fitF R f (iN k) n 0 1 = 0
    · rw [if_pos q, if_pos q]
    · rw [if_neg q, if_neg q]
/-- KINDS: both -/
theorem kinds_eq (x : XT) (S T : ST) (h : Rel x S T) (R : RF) (hR : LR x S 1 (T.2.1 132) R) : ∃ n S' T', n ≤ 6 ∧ T.2.1 132 93 = iN n ∧ gfX3_possible_80_1 x S = some (bitF R (T.2.1 132) n 8 0 0, S') ∧ gfX11_kinds_130 x T = some (bitF R (T.2.1 132) n 8 0 0, T') ∧ Agr ([], [21, 22], [], []) S S' ∧ Agr wX11_outOf_130 T T' := by
  obtain ⟨n, hn, e⟩ := inb_ex h.1.2.1.2.2.2.1
  obtain ⟨S', a1, a2⟩ := poss_out x (T.2.1 132) R h.1.2.1 n e (by omega) 8 0 20000 S 0 (by omega) (by omega) ⟨hR, h.1.1⟩
  obtain ⟨T', b1, b2⟩ := kind_out x S (T.2.1 132) R hR n e (by omega) 8 0 20000 T 0 (by omega) (by omega) rfl
  rw [show iN 0 = 0 from rfl] at a1 b1
  exact ⟨n, S', T', by omega, e, a1, b1, a2, b2⟩
theorem c_kinds (x : XT) (S T : ST) (h : Rel x S T) : Call x S T (gfX10_kinds_0 x S) (gfX11_kinds_130 x T) := by
  obtain ⟨R, hR⟩ := h.1.lr
  obtain ⟨n, S', T', -, -, a1, b1, a2, b2⟩ := kinds_eq x S T h R hR
  unfold gfX10_kinds_0 bfX10_kinds_0_0
  rw [a1]
  exact ⟨_, S', T', rfl, b1, h.scr a2 (by decide) b2 (by decide)⟩
end KINDS
