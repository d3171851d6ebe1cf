section FIXED
theorem Agr.less {A : List (Nat × Nat)} {a : Nat} {L M Q : List Nat} {S S' : ST} (h : Agr (A, a :: L, M, Q) S S') (e : S'.2.1 a = S.2.1 a) : Agr (A, L, M, Q) S S' := ⟨h.1, fun q hq => by
  by_cases e' : q = a
  · subst e'; exact e
  · exact h.2.1 q (fun z => by
      rcases List.mem_cons.mp z with y | y
      · exact e' y
      · exact hq y), h.2.2.1, h.2.2.2⟩
theorem u1_tw {α : Type} (f : Nat → α) (k : Nat) (v w : α) : u1 (u1 f k v) k w = u1 f k w := by
  funext j
  by_cases e : j = k
  · subst e; rw [u1_s, u1_s]
  · rw [u1_n _ _ e, u1_n _ _ e, u1_n _ _ e]
theorem u1_id {α : Type} (f : Nat → α) (k : Nat) : u1 f k (f k) = f := by
  funext j
  by_cases e : j = k
  · subst e; rw [u1_s]
  · rw [u1_n _ _ e]
theorem arm_gO (R : RF) (f : Nat → Int32) (v : Int32) (p g g' m : Nat) (hg : g < 10) (hg' : g' < 10) (hp : p < 5) (hn : g' ≠ g) : gO R (u1 f (15 + g) v) p g' m = gO R f p g' m ∧ gP R (u1 f (15 + g) v) p g' m = gP R f p g' m := by
  have e : qG (u1 f (15 + g) v) p g' (iN m) = qG f p g' (iN m) := by
    unfold qG
    rw [u1_n _ _ (by omega), u1_n _ _ (by omega), u1_n _ _ (by omega), u1_n _ _ (by omega), u1_n _ _ (by omega)]
  unfold gO gP
  rw [e]
  exact ⟨rfl, rfl⟩
theorem arm_WF {f : Nat → Int32} (h : WF f) (g : Nat) (hg : g < 10) (v : Int32) (hv : inb v 10 = true) : WF (u1 f (15 + g) v) := h.m (15 + g) v (by omega) (h.1.put (15 + g) v (fun p hp => ⟨fun e => by omega, fun e => by omega, fun e => by omega⟩) (fun g hg => ⟨fun e => hv, fun e => by omega⟩) (fun e => by omega))
theorem arm_pl (f : Nat → Int32) (v : Int32) (p g : Nat) (hp : p < 5) : pl0 (u1 f (15 + g) v) p = pl0 f p := by
  unfold pl0
  rw [u1_n _ _ (by omega), u1_n _ _ (by omega)]
theorem try_loop (x : XT) (g : Nat) (hg : g < 10) : ∀ (d m fuel : Nat) (S : ST), m + d = 20 → d < fuel → (∀ m', m' < m → S.2.1 70 (20 * g + m') = -2) → ∃ S', lfX6_tryArm_54_12 x fuel S (iN g) (iN m) = some ((), S') ∧ Agr ([], [70], [], []) S S' ∧ (∀ m', m' < 20 → S'.2.1 70 (20 * g + m') = -2) ∧ ∀ g' m', g' ≠ g → m' < 20 → S'.2.1 70 (20 * g' + m') = S.2.1 70 (20 * g' + m')
  | 0, m, fuel, S, hm, hf, h => by
    obtain ⟨fuel, rfl⟩ : ∃ z, fuel = z + 1 := ⟨fuel - 1, by omega⟩
    have e : m = 20 := by omega
    subst e
    rw [lfX6_tryArm_54_12, bfX6_tryArm_54_12, if_pos (show (20 : Int32) ≤ iN 20 by decide)]
    exact ⟨S, rfl, Agr.rf, h, fun _ _ _ _ => rfl⟩
  | d + 1, m, fuel, S, hm, hf, h => by
    obtain ⟨fuel, rfl⟩ : ∃ z, fuel = z + 1 := ⟨fuel - 1, by omega⟩
    have aS : Agr ([], [70], [], []) S (S.1, u2 S.2.1 70 (20 * g + m) (-2), S.2.2.1, S.2.2.2) := Agr.i Agr.rf 70 _ _ (by decide)
    obtain ⟨S', r1, r2, r3, r4⟩ := try_loop x g hg d (m + 1) fuel (S.1, u2 S.2.1 70 (20 * g + m) (-2), S.2.2.1, S.2.2.2) (by omega) (by omega) (fun m' hm' => by
      dsimp only
      by_cases e : m' = m
      · subst e; rw [u2_s]
      · rw [u2_k _ _ _ (by omega)]; exact h m' (by omega))
    refine ⟨S', ?_, aS.tr r2, r3, fun g' m' hn hm' => ?_⟩
    · rw [lfX6_tryArm_54_12, bfX6_tryArm_54_12, if_neg (show ¬ (20 : Int32) ≤ iN m from fun q => by have := (iN_le (m := 20) (by omega) (by omega)).mp q; omega), show iN g * 20 = iN (20 * g) from by rw [Int32.mul_comm]; exact iN_mul 20 g, iN_add, inb_t (show 20 * g + m < 200 by omega) (by omega), cond_true, iN_nat (by omega), iN_succ]
      exact r1
    · rw [r4 g' m' hn hm']
      dsimp only
      rw [u2_k _ _ _ (by omega)]
/-- the class tries an arm -/
theorem tryArm_eq (x : XT) (S : ST) (f : Nat → Int32) (R : RF) (p g : Nat) (hp : p < 5) (hg : g < 10) (a v : Int32) (h : BC x S (u1 f (15 + g) a) R p) : ∃ S', gfX6_tryArm_54 x S (iN g) v = some ((), S') ∧ BC x S' (u1 f (15 + g) v) R p := by
  have aS : Agr ([], [59], [], []) S (S.1, u2 S.2.1 59 g v, S.2.2.1, S.2.2.2) := Agr.i Agr.rf 59 g v (by decide)
  obtain ⟨S', r1, r2, r3, r4⟩ := try_loop x g hg 20 0 20000 (S.1, u2 S.2.1 59 g v, S.2.2.1, S.2.2.2) (by omega) (by omega) (fun m' hm' => by omega)
  rw [show iN 0 = 0 from rfl] at r1
  have k1 := h.2.1.a4 g hg v
  rw [u1_tw] at k1
  have k1 : KA (S.1, u2 S.2.1 59 g v, S.2.2.1, S.2.2.2) 55 (u1 f (15 + g) v) := k1
  have aa : Agr ([], [59, 70], [], []) S S' := (aS.sub (by decide)).tr (r2.sub (by decide))
  refine ⟨S', ?_, ?_, k1.cg (r2.sm (by decide)), (aa.1 54 2 (by decide)).trans h.2.2.1, fun g' m' hg' hm' => ?_⟩
  · unfold gfX6_tryArm_54 bfX6_tryArm_54_0
    rw [inb_t hg (by omega), cond_true, iN_nat (by omega)]
    exact r1
  · have s158 := (aa.sm (L := ([], [], [], [])) (by decide)).2.2.2
    exact h.1.cg (aa.1 55 18 (by decide)) (aa.1 55 16 (by decide)) (aa.2.2.2 69 (by decide)) s158 (fun k hk => by rw [u1_n _ _ (by omega), u1_n _ _ (by omega)])
  · by_cases e : g' = g
    · subst e; exact Or.inl (r3 m' hm')
    · rw [r4 g' m' e hm']
      have q := h.2.2.2 g' m' hg' hm'
      rw [(arm_gO R f a p g g' m' hg hg' hp e).1] at q
      rw [(arm_gO R f v p g g' m' hg hg' hp e).1]
      have e70 : (u2 S.2.1 59 g v) 70 = S.2.1 70 := u2_ro _ _ _ (by decide)
      show (u2 S.2.1 59 g v) 70 (20 * g' + m') = -2 ∨ (u2 S.2.1 59 g v) 70 (20 * g' + m') = _
      rw [e70]
      exact q
/-- the reference lays a GATE anew with an arm -/
theorem layArm_eq (x : XT) (S0 T : ST) (o : Nat) (f : Nat → Int32) (R : RF) (hR : LR x S0 o f R) (p g G : Nat) (hp : p < 5) (hg : g < G) (hG : G ≤ 10) (a v : Int32) (h : BR T (u1 f (15 + g) a) R p G) : ∃ T', gfX11_laysGate_130 x (T.1, u2 T.2.1 132 (15 + g) v, T.2.2.1, T.2.2.2) (iN p) (iN g) = some ((), T') ∧ BR T' (u1 f (15 + g) v) R p G := by
  have hR' : LR x S0 o (u1 f (15 + g) v) R := hR.cg rfl rfl rfl (fun _ _ => ⟨rfl, rfl⟩) (fun k hk => u1_n _ _ (by omega))
  have e132 : (u2 T.2.1 132 (15 + g) v) 132 = u1 f (15 + g) v := by rw [u2_row, h.1, u1_tw]
  obtain ⟨T', r1, r2⟩ := lays_one x S0 o (u1 f (15 + g) v) R hR' p g G hp hg hG 20 0 20000 (T.1, u2 T.2.1 132 (15 + g) v, T.2.2.1, T.2.2.2) (by omega) (by omega) e132 (fun g' m' hg' hn hm' => by
    obtain ⟨q1, q2⟩ := h.2 g' m' hg' hm'
    obtain ⟨y1, y2⟩ := arm_gO R f a p g g' m' (by omega) (by omega) hp hn
    obtain ⟨z1, z2⟩ := arm_gO R f v p g g' m' (by omega) (by omega) hp hn
    dsimp only
    rw [u2_ro _ _ _ (by decide), u2_ro _ _ _ (by decide), q1, q2, y1, y2, z1, z2]
    exact ⟨rfl, rfl⟩) (fun m' hm' => by omega)
  rw [show iN 0 = 0 from rfl] at r1
  exact ⟨T', r1, r2⟩
theorem fix_in (x : XT) (S0 : ST) (o : Nat) (f : Nat → Int32) (R : RF) (hR : LR x S0 o f R) (p G : Nat) (hp : p < 5) (hW : WF f) (hG : G ≤ 10) (h91 : f 91 = iN G) (b c : Int32) (g : Nat) (hg : g < G) (k15 : ST → Int32 → Int32 → Int32 → Option (Int32 × ST)) : ∀ (d v f1 f2 : Nat) (S T : ST) (a a' : Int32), v + d = 10 → d < f1 → d + 1 < f2 → BC x S (u1 f (15 + g) a) R p → BR T (u1 f (15 + g) a') R p G →
    (∃ w S' T', w < 10 ∧ lfX6_firstFix_54_40 x k15 f1 S b c (iN g) (f (15 + g)) (iN v) = some (10 * iN g + iN w, S') ∧ lfX11_fixedAt_130_17 x f2 T (iN p) (iN g) b c (f (15 + g)) (-1) (iN v) = some (iN w, T') ∧ T'.2.1 132 = f) ∨ (∃ S' T', lfX6_firstFix_54_40 x k15 f1 S b c (iN g) (f (15 + g)) (iN v) = k15 S' b c (iN (g + 1)) ∧ BC x S' f R p ∧ lfX11_fixedAt_130_17 x f2 T (iN p) (iN g) b c (f (15 + g)) (-1) (iN v) = some (-1, T') ∧ BR T' f R p G)
  | 0, v, f1, f2, S, T, a, a', hv, l1, l2, hS, hT => by
    obtain ⟨f1, rfl⟩ : ∃ z, f1 = z + 1 := ⟨f1 - 1, by omega⟩
    obtain ⟨f2, rfl⟩ : ∃ z, f2 = z + 1 := ⟨f2 - 1, by omega⟩
    have e : v = 10 := by omega
    subst e
    obtain ⟨S', s1, s2⟩ := tryArm_eq x S f R p g hp (by omega) a (f (15 + g)) hS
    obtain ⟨T', t1, t2⟩ := layArm_eq x S0 T o f R hR p g G hp hg hG a' (f (15 + g)) hT
    rw [u1_id] at s2 t2
    refine Or.inr ⟨S', T', ?_, s2, ?_, t2⟩
    · rw [lfX6_firstFix_54_40, bfX6_firstFix_54_40, if_pos (show (10 : Int32) ≤ iN 10 by decide), s1]
      dsimp only
      rw [iN_succ]
    · rw [lfX11_fixedAt_130_17, bfX11_fixedAt_130_17, if_pos (show (9 : Int32) < iN 10 by decide)]
      unfold bfX11_fixedAt_130_82
      rw [show (15 : Int32) + iN g = iN (15 + g) from iN_add 15 g, inb_t (show 15 + g < 5703 by omega) (by omega), cond_true, iN_nat (by omega), t1]
  | d + 1, v, f1, f2, S, T, a, a', hv, l1, l2, hS, hT => by
    obtain ⟨f1, rfl⟩ : ∃ z, f1 = z + 1 := ⟨f1 - 1, by omega⟩
    obtain ⟨f2, rfl⟩ : ∃ z, f2 = z + 2 := ⟨f2 - 2, by omega⟩
    obtain ⟨S1, s1, s2⟩ := tryArm_eq x S f R p g hp (by omega) a (iN v) hS
    have n10 : ¬ (10 : Int32) ≤ iN v := fun z => by have := (iN_le (m := 10) (by omega) (by omega)).mp z; omega
    have n9 : ¬ (9 : Int32) < iN v := fun z => by have := (iN_lt (m := 9) (by omega) (by omega)).mp z; omega
    have rest := fun S2 T2 a2 a3 h1 h2 => fix_in x S0 o f R hR p G hp hW hG h91 b c g hg k15 d (v + 1) f1 (f2 + 1) S2 T2 a2 a3 (by omega) (by omega) (by omega) h1 h2
    rw [lfX6_firstFix_54_40, bfX6_firstFix_54_40, if_neg n10, s1, lfX11_fixedAt_130_17, bfX11_fixedAt_130_17, if_neg n9, if_neg (fun z => z rfl)]
    dsimp only
    unfold bfX6_firstFix_54_79 bfX11_fixedAt_130_76 bfX11_fixedAt_130_74 bfX11_fixedAt_130_76
    rw [iN_succ]
    by_cases ew : iN v = f (15 + g)
    · rw [if_pos ew, if_neg (fun z => z ew)]
      exact rest S1 T (iN v) a' s2 hT
    · have hv10 : inb (iN v) 10 = true := inb_t (by omega) (by omega)
      have hWv := arm_WF hW g (by omega) (iN v) hv10
      have h91v : u1 f (15 + g) (iN v) 91 = iN G := by rw [u1_n _ _ (by omega)]; exact h91
      obtain ⟨r, S2, q1, q2, q3⟩ := find_has x _ R p G hp hWv hG h91v b c S1 s2
      obtain ⟨T1, t1, t2⟩ := layArm_eq x S0 T o f R hR p g G hp hg hG a' (iN v) hT
      obtain ⟨B, T2, w1, w2, w3⟩ := hasWay_eq x _ R p G hp hWv hG h91v b c T1 t2
      rw [if_neg ew, if_pos ew, q1, show (15 : Int32) + iN g = iN (15 + g) from iN_add 15 g, inb_t (show 15 + g < 5703 by omega) (by omega), cond_true, iN_nat (show 15 + g < 2147483648 by omega), t1]
      dsimp only
      rw [w1]
      dsimp only
      cases B with
      | false =>
        have nh : ¬ Hw R (u1 f (15 + g) (iN v)) p G (fun q => bG q b c) (pl0 (u1 f (15 + g) (iN v)) p) := fun z => by have := w3.mpr z; cases this
        rw [if_pos (q3.mpr nh), if_pos (show bz false = 0 from rfl)]
        exact rest S2 T2 (iN v) (iN v) q2 w2
      | true =>
        rw [if_neg (fun z => (q3.mp z) (w3.mp rfl)), if_neg (show ¬ bz true = 0 by decide)]
        obtain ⟨T3, t3, t4⟩ := layArm_eq x S0 T2 o f R hR p g G hp hg hG (iN v) (f (15 + g)) w2
        rw [u1_id] at t4
        refine Or.inl ⟨v, S2, T3, by omega, rfl, ?_, t4.1⟩
        have nm : ¬ iN v = -1 := iN_m1 (by omega)
        have e82 : bfX11_fixedAt_130_82 x T2 (iN p) (iN g) (f (15 + g)) (iN v) = some (iN v, T3) := by
          unfold bfX11_fixedAt_130_82
          rw [show (15 : Int32) + iN g = iN (15 + g) from iN_add 15 g, inb_t (show 15 + g < 5703 by omega) (by omega), cond_true, iN_nat (by omega), t3]
        rw [lfX11_fixedAt_130_17, bfX11_fixedAt_130_17, e82]
        by_cases h9 : (9 : Int32) < iN (v + 1)
        · rw [if_pos h9]
        · rw [if_neg h9, if_pos nm]
theorem fix_out (x : XT) (S0 : ST) (o : Nat) (f : Nat → Int32) (R : RF) (hR : LR x S0 o f R) (p G : Nat) (hp : p < 5) (hW : WF f) (hG : G ≤ 10) (h91 : f 91 = iN G) (b c : Int32) : ∀ (d g f1 f2 : Nat) (S T : ST), g + d = G → d < f1 → d < f2 → BC x S f R p → BR T f R p G → ∃ r S' T', lfX6_firstFix_54_15 x f1 S b c (iN g) = some (r, S') ∧ lfX11_fixed_130_39 x f2 T (iN p) b c (iN g) = some (r, T') ∧ T'.2.1 132 = f
  | 0, g, f1, f2, S, T, hg, l1, l2, hS, hT => by
    obtain ⟨f1, rfl⟩ : ∃ z, f1 = z + 1 := ⟨f1 - 1, by omega⟩
    obtain ⟨f2, rfl⟩ : ∃ z, f2 = z + 1 := ⟨f2 - 1, by omega⟩
    have e : g = G := by omega
    subst e
    rw [lfX6_firstFix_54_15, bfX6_firstFix_54_15, hS.2.1.1, h91, if_pos ((iN_le (by omega) (by omega)).mpr (Nat.le_refl g)), lfX11_fixed_130_39, bfX11_fixed_130_39, gateMany_eq]
    dsimp only
    rw [hT.1, h91, if_pos ((iN_le (by omega) (by omega)).mpr (Nat.le_refl g))]
    exact ⟨_, _, _, rfl, rfl, hT.1⟩
  | d + 1, g, f1, f2, S, T, hg, l1, l2, hS, hT => by
    obtain ⟨f1, rfl⟩ : ∃ z, f1 = z + 1 := ⟨f1 - 1, by omega⟩
    obtain ⟨f2, rfl⟩ : ∃ z, f2 = z + 1 := ⟨f2 - 1, by omega⟩
    have n91 : ¬ iN G ≤ iN g := fun q => by have := (iN_le (by omega) (by omega)).mp q; omega
    have k4 : S.2.1 59 g = f (15 + g) := (hS.2.1.2.2.2.2.2.1 g (by omega)).2.2.2.1
    have fi := fix_in x S0 o f R hR p G hp hW hG h91 b c g (by omega) (lfX6_firstFix_54_15 x f1) 10 0 20000 20000 S T (f (15 + g)) (f (15 + g)) (by omega) (by omega) (by omega) (by rw [u1_id]; exact hS) (by rw [u1_id]; exact hT)
    rw [show iN 0 = 0 from rfl] at fi
    have e15 : (15 : Int32) + iN g = iN (15 + g) := iN_add 15 g
    rw [lfX6_firstFix_54_15, bfX6_firstFix_54_15, hS.2.1.1, h91, if_neg n91, inb_t (show g < 10 by omega) (by omega), cond_true, iN_nat (show g < 2147483648 by omega), k4, lfX11_fixed_130_39, bfX11_fixed_130_39, gateMany_eq]
    dsimp only
    rw [hT.1, h91, if_neg n91]
    unfold gfX11_fixedAt_130 bfX11_fixedAt_130_0
    rw [e15, inb_t (show 15 + g < 5703 by omega) (by omega), cond_true, iN_nat (show 15 + g < 2147483648 by omega), hT.1]
    rcases fi with ⟨w, S', T', w0, w1, w2, w3⟩ | ⟨S', T', w1, w2, w3, w4⟩
    · rw [w1, w2]
      dsimp only
      rw [if_neg (iN_m1 (by omega))]
      exact ⟨_, _, _, rfl, rfl, w3⟩
    · rw [w1, w3]
      dsimp only
      rw [if_pos rfl, iN_succ]
      exact fix_out x S0 o f R hR p G hp hW hG h91 b c d (g + 1) f1 f2 S' T' (by omega) (by omega) (by omega) w2 w4
theorem c_fixed (x : XT) (S T : ST) (h : Rel x S T) (a b c : Int32) : Call x S T (gfX10_fixed_0 x S a b c) (gfX11_fixed_130 x T a b c) := by
  obtain ⟨P, hP, p1, p2⟩ := h.goers
  have key : ∃ r S' T', gfX10_fixed_0 x S a b c = some (r, S') ∧ gfX11_fixed_130 x T a b c = some (r, T') ∧ T'.2.1 132 = T.2.1 132 := by
    unfold gfX10_fixed_0 bfX10_fixed_0_0 gfX11_fixed_130 bfX11_fixed_130_0 bfX11_fixed_130_16
    rw [canSeek_eq x S a b c P (by omega) p1, isGoer_eq x T a P (by omega) p2, Bool.and_assoc]
    dsimp only
    rw [canGoal_eq]
    dsimp only
    cases ha : inb a P with
    | false =>
      rw [if_pos (show bz false = 0 from rfl), Bool.false_and, if_neg (show ¬ ¬ bz false = 0 from fun z => z rfl)]
      exact ⟨_, _, _, rfl, rfl, rfl⟩
    | true =>
      rw [if_neg (show ¬ bz true = 0 by decide), Bool.true_and]
      cases hb : (inb b 6 && (decide (c = -1) || inb c 20)) with
      | false =>
        rw [if_neg (show ¬ ¬ bz false = 0 from fun z => z rfl), if_neg (show ¬ ¬ bz false = 0 from fun z => z rfl)]
        exact ⟨_, _, _, rfl, rfl, rfl⟩
      | true =>
        rw [if_pos (show ¬ bz true = 0 by decide), if_pos (show ¬ bz true = 0 by decide)]
        obtain ⟨p, hp, rfl⟩ := inb_ex ha
        have hW := h.1.2.1
        obtain ⟨R, G, S1, T1, hG, h91, b1, b2, c1, c2, hR⟩ := begun x S T h p (by omega)
        obtain ⟨r, S2, q1, q2, q3⟩ := find_has x _ R p G (by omega) hW hG h91 b c S1 b2
        obtain ⟨B, T2, w1, w2, w3⟩ := hasWay_eq x _ R p G (by omega) hW hG h91 b c T1 c2
        rw [b1, c1]
        dsimp only
        rw [w1]
        dsimp only
        unfold gfX6_firstFix_54 bfX6_firstFix_54_0
        rw [q1]
        dsimp only
        cases B with
        | true =>
          rw [if_neg (fun z => (q3.mp z) (w3.mp rfl)), if_neg (show ¬ bz true = 0 by decide)]
          exact ⟨_, _, _, rfl, rfl, w2.1⟩
        | false =>
          rw [if_pos (q3.mpr (fun z => by have := w3.mpr z; cases this)), if_pos (show bz false = 0 from rfl)]
          obtain ⟨r', S3, T3, y1, y2, y3⟩ := fix_out x S 1 _ R hR p G (by omega) hW hG h91 b c G 0 20000 20000 S2 T2 (by omega) (by omega) (by omega) q2 w2
          rw [show iN 0 = 0 from rfl] at y1 y2
          rw [y1, y2]
          exact ⟨_, _, _, rfl, rfl, y3⟩
  obtain ⟨r, S', T', q1, q2, q3⟩ := key
  exact Call.of h q1 q2 (frX10_fixed_0 x S _ _ _ _ _ q1) (by decide) (Agr.less (frX11_fixed_130 x T _ _ _ _ _ q2) q3) (by decide)
end FIXED
