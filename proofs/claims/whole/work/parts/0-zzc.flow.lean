section FLOW3
theorem cp_r (x : XT) : ∀ (d k fuel : Nat) (T : ST), k + d = 120 → d < fuel → (∀ q, q < k → T.2.2.1 150 q = T.2.2.1 151 q) → ∃ T', lfX11_steps_130_149 x fuel T (iN k) = some ((), T') ∧ (∀ q, q < 120 → T'.2.2.1 150 q = T.2.2.1 151 q) ∧ Agr ([], [], [150], []) T T'
  | 0, k, fuel, T, hk, hf, h => by
    obtain ⟨fuel, rfl⟩ : ∃ z, fuel = z + 1 := ⟨fuel - 1, by omega⟩
    have e : k = 120 := by omega
    subst e
    refine ⟨T, ?_, h, Agr.rf⟩
    rw [lfX11_steps_130_149, bfX11_steps_130_149, if_pos (show (120 : Int32) ≤ iN 120 by decide)]
  | d + 1, k, fuel, T, hk, hf, h => by
    obtain ⟨fuel, rfl⟩ : ∃ z, fuel = z + 1 := ⟨fuel - 1, by omega⟩
    have e51 : ∀ q, (u2 T.2.2.1 150 k (T.2.2.1 151 k)) 151 q = T.2.2.1 151 q := fun q => by rw [u2_ro _ _ _ (by decide)]
    obtain ⟨T', r1, r2, r3⟩ := cp_r x d (k + 1) fuel (T.1, T.2.1, u2 T.2.2.1 150 k (T.2.2.1 151 k), T.2.2.2) (by omega) (by omega) (fun q hq => by
      dsimp only
      rw [e51]
      by_cases e : q = k
      · subst e; rw [u2_s]
      · rw [u2_k _ _ _ e]; exact h q (by omega))
    refine ⟨T', ?_, fun q hq => (r2 q hq).trans (e51 q), (Agr.j Agr.rf 150 k _ (by decide)).tr r3⟩
    rw [lfX11_steps_130_149, bfX11_steps_130_149, if_neg (show ¬ (120 : Int32) ≤ iN k from fun z => by have := (iN_le (m := 120) (by omega) (by omega)).mp z; omega), inb_t (show k < 120 by omega) (by omega), cond_true, cond_true, iN_nat (by omega), iN_succ]
    exact r1
theorem zr_r (x : XT) (v1 : Int32) : ∀ (d k fuel : Nat) (T : ST), k + d = 120 → d < fuel → (∀ q, q < k → T.2.2.1 151 q = 0) → ∃ T', lfX11_steps_130_2 x fuel T v1 (iN k) = lfX11_steps_130_23 x 20000 T' v1 0 ∧ (∀ q, q < 120 → T'.2.2.1 151 q = 0) ∧ Agr ([], [], [151], []) T T'
  | 0, k, fuel, T, hk, hf, h => by
    obtain ⟨fuel, rfl⟩ : ∃ z, fuel = z + 1 := ⟨fuel - 1, by omega⟩
    have e : k = 120 := by omega
    subst e
    refine ⟨T, ?_, h, Agr.rf⟩
    rw [lfX11_steps_130_2, bfX11_steps_130_2, if_pos (show (120 : Int32) ≤ iN 120 by decide)]
  | d + 1, k, fuel, T, hk, hf, h => by
    obtain ⟨fuel, rfl⟩ : ∃ z, fuel = z + 1 := ⟨fuel - 1, by omega⟩
    obtain ⟨T', r1, r2, r3⟩ := zr_r x v1 d (k + 1) fuel (T.1, T.2.1, u2 T.2.2.1 151 k 0, T.2.2.2) (by omega) (by omega) (fun q hq => by
      dsimp only
      by_cases e : q = k
      · subst e; rw [u2_s]
      · rw [u2_k _ _ _ e]; exact h q (by omega))
    refine ⟨T', ?_, r2, (Agr.j Agr.rf 151 k _ (by decide)).tr r3⟩
    rw [lfX11_steps_130_2, bfX11_steps_130_2, if_neg (show ¬ (120 : Int32) ≤ iN k from fun z => by have := (iN_le (m := 120) (by omega) (by omega)).mp z; omega), inb_t (show k < 120 by omega) (by omega), cond_true, iN_nat (by omega), iN_succ]
    exact r1
theorem fl79 (x : XT) : ∀ (m k fuel : Nat) (S : ST), k + m = 120 → m < fuel → (∀ j, j < k → S.2.2.1 79 j = 0) → ∃ S1, lfJ7_fill_d0a16_79_6 x fuel S 0 (iN k) 120 = some ((), S1) ∧ ∀ j, j < 120 → S1.2.2.1 79 j = 0
  | 0, k, fuel, S, hk, hf, h => by
    obtain ⟨fuel, rfl⟩ : ∃ z, fuel = z + 1 := ⟨fuel - 1, by omega⟩
    have : k = 120 := by omega
    subst this
    refine ⟨S, ?_, h⟩
    rw [lfJ7_fill_d0a16_79_6, bfJ7_fill_d0a16_79_6, if_pos (show (120 : Int32) ≤ iN 120 by decide)]
  | m + 1, k, fuel, S, hk, hf, h => by
    obtain ⟨fuel, rfl⟩ : ∃ z, fuel = z + 1 := ⟨fuel - 1, by omega⟩
    rw [lfJ7_fill_d0a16_79_6, bfJ7_fill_d0a16_79_6, if_neg (show ¬ (120 : Int32) ≤ iN k from fun hh => by have := (iN_le (m := 120) (by omega) (by omega)).mp hh; omega), inb_t (show k < 120 by omega) (by omega), cond_true, iN_nat (by omega), iN_succ]
    exact fl79 x m (k + 1) fuel _ (by omega) (by omega) (cp1 (B := fun _ => 0) h rfl)
theorem fl78 (x : XT) : ∀ (m k fuel : Nat) (S : ST), k + m = 120 → m < fuel → (∀ j, j < k → S.2.2.1 78 j = 0) → ∃ S1, lfJ7_fill_d0a16_78_6 x fuel S 0 (iN k) 120 = some ((), S1) ∧ ∀ j, j < 120 → S1.2.2.1 78 j = 0
  | 0, k, fuel, S, hk, hf, h => by
    obtain ⟨fuel, rfl⟩ : ∃ z, fuel = z + 1 := ⟨fuel - 1, by omega⟩
    have : k = 120 := by omega
    subst this
    refine ⟨S, ?_, h⟩
    rw [lfJ7_fill_d0a16_78_6, bfJ7_fill_d0a16_78_6, if_pos (show (120 : Int32) ≤ iN 120 by decide)]
  | m + 1, k, fuel, S, hk, hf, h => by
    obtain ⟨fuel, rfl⟩ : ∃ z, fuel = z + 1 := ⟨fuel - 1, by omega⟩
    rw [lfJ7_fill_d0a16_78_6, bfJ7_fill_d0a16_78_6, if_neg (show ¬ (120 : Int32) ≤ iN k from fun hh => by have := (iN_le (m := 120) (by omega) (by omega)).mp hh; omega), inb_t (show k < 120 by omega) (by omega), cond_true, iN_nat (by omega), iN_succ]
    exact fl78 x m (k + 1) fuel _ (by omega) (by omega) (cp1 (B := fun _ => 0) h rfl)
theorem places (x : XT) (f : Nat → Int32) (R : RF) (p G : Nat) (hp : p < 5) (hW : WF f) (hG : G ≤ 10) (h91 : f 91 = iN G) (sh : Int32) (hs : sh = 0 ∨ sh = 1) (k21 : ST → Int32 → Int32 → Int32 → Option (Unit × ST)) (v3 v5 : Int32) : ∀ (d pl f1 f2 : Nat) (S T : ST), pl + d = 120 → d < f1 → d < f2 → KF x S T f R p G → ∃ S' T', lfX6_flow_54_38 x k21 f1 S v3 sh v5 (iN pl) = k21 S' v3 sh (v5 + 1) ∧ lfX11_steps_130_23 x f2 T sh (iN pl) = some ((), T') ∧ KF x S' T' f R p G
  | 0, pl, f1, f2, S, T, hk, l1, l2, hK => by
    obtain ⟨f1, rfl⟩ : ∃ z, f1 = z + 1 := ⟨f1 - 1, by omega⟩
    obtain ⟨f2, rfl⟩ : ∃ z, f2 = z + 1 := ⟨f2 - 1, by omega⟩
    have e : pl = 120 := by omega
    subst e
    obtain ⟨T', r1, r2, r3⟩ := cp_r x 120 0 20000 T (by omega) (by omega) (fun q hq => by omega)
    rw [show iN 0 = 0 from rfl] at r1
    rw [lfX6_flow_54_38, bfX6_flow_54_38, if_pos (show (120 : Int32) ≤ iN 120 by decide), lfX11_steps_130_23, bfX11_steps_130_23, if_pos (show (120 : Int32) ≤ iN 120 by decide), r1]
    refine ⟨_, T', rfl, rfl, hK.1.cl (Agr.jc Agr.rf 78 _ (by decide)), hK.2.1.cl (r3.sub (by decide)), fun q hq => ?_, fun q hq => ?_⟩
    · dsimp only
      rw [u1_s, cpy_in _ _ (by omega) (by omega), Nat.zero_add, Nat.sub_zero, r2 q hq]
      exact hK.2.2.2 q hq
    · dsimp only
      rw [u1_n _ _ (by decide), r3.2.2.1 151 (by decide)]
      exact hK.2.2.2 q hq
  | d + 1, pl, f1, f2, S, T, hk, l1, l2, hK => by
    obtain ⟨f1, rfl⟩ : ∃ z, f1 = z + 1 := ⟨f1 - 1, by omega⟩
    obtain ⟨f2, rfl⟩ : ∃ z, f2 = z + 1 := ⟨f2 - 1, by omega⟩
    have hi : inb (iN pl) 120 = true := inb_t (by omega) (by omega)
    have hn : (iN pl).toNatClampNeg = pl := iN_nat (by omega)
    have n120 : ¬ (120 : Int32) ≤ iN pl := fun z => by have := (iN_le (m := 120) (by omega) (by omega)).mp z; omega
    rw [lfX6_flow_54_38, bfX6_flow_54_38, if_neg n120, hi, cond_true, hn, hK.2.2.1 pl (by omega), lfX11_steps_130_23]
    unfold bfX6_flow_54_65
    rw [iN_succ]
    by_cases z : (lg_cmp (T.2.2.1 150 pl) 0) ≤ 0
    · rw [if_pos z]
      have e : bfX11_steps_130_23 x (lfX11_steps_130_23 x f2) T sh (iN pl) = lfX11_steps_130_23 x f2 T sh (iN (pl + 1)) := by
        unfold bfX11_steps_130_23 bfX11_steps_130_52 bfX11_steps_130_53 bfX11_steps_130_73
        rw [if_neg n120, hi, cond_true, hn, if_pos z, if_pos (show ¬ (1 : Int32) = 0 by decide), lfX11_steps_130_76, bfX11_steps_130_76, gateMany_eq]
        dsimp only
        rw [if_neg (show ¬ (1 : Int32) ≤ 0 by decide), hi, cond_true, hn, if_pos z, bfX11_steps_130_141, iN_succ]
        by_cases g0 : T.2.1 132 91 ≤ 0
        · rw [if_pos g0]
          by_cases s0 : sh = 0
          · rw [if_pos s0]
          · rw [if_neg s0, cond_true]
        · rw [if_neg g0]
          by_cases s0 : sh = 0
          · rw [if_pos s0]
          · rw [if_neg s0, cond_true]
      rw [e]
      exact places x f R p G hp hW hG h91 sh hs k21 v3 v5 d (pl + 1) f1 f2 S T (by omega) (by omega) (by omega) hK
    · obtain ⟨S1, T1, q1, q2, q3⟩ := from_eq x f R p G hp hW hG h91 pl (by omega) (lfX11_steps_130_23 x f2) sh hs S T hK z
      rw [if_neg z, q1, q2]
      exact places x f R p G hp hW hG h91 sh hs k21 v3 v5 d (pl + 1) f1 f2 S1 T1 (by omega) (by omega) (by omega) q3
/-- one step of all that flows -/
theorem step_eq (x : XT) (f : Nat → Int32) (R : RF) (p G : Nat) (hp : p < 5) (hW : WF f) (hG : G ≤ 10) (h91 : f 91 = iN G) (sh : Int32) (hs : sh = 0 ∨ sh = 1) (k21 : ST → Int32 → Int32 → Int32 → Option (Unit × ST)) (v3 v5 : Int32) (hv : ¬ v3 ≤ v5) (S T : ST) (h1 : BC x S f R p) (h2 : BR T f R p G) (h3 : ∀ q, q < 120 → S.2.2.1 78 q = T.2.2.1 150 q) : ∃ S' T', bfX6_flow_54_21 x k21 S v3 sh v5 = k21 S' v3 sh (v5 + 1) ∧ gfX11_steps_130 x T sh = some ((), T') ∧ KF x S' T' f R p G := by
  obtain ⟨S1, a1, a2⟩ := fl79 x 120 0 20000 S (by omega) (by omega) (fun j hj => by omega)
  rw [show iN 0 = 0 from rfl] at a1
  have a0 : gfJ7_fill_d0a16_79 x S 0 = some ((), S1) := a1
  have b1 := frJ7_fill_d0a16_79 x S _ _ _ a0
  obtain ⟨T1, c1, c2, c3⟩ := zr_r x sh 120 0 20000 T (by omega) (by omega) (fun j hj => by omega)
  rw [show iN 0 = 0 from rfl] at c1
  have hK : KF x S1 T1 f R p G := ⟨h1.cl (b1.sub (by decide)), h2.cl (c3.sub (by decide)), fun q hq => by rw [b1.2.2.1 78 (by decide), c3.2.2.1 150 (by decide)]; exact h3 q hq, fun q hq => (a2 q hq).trans (c2 q hq).symm⟩
  obtain ⟨S', T', r1, r2, r3⟩ := places x f R p G hp hW hG h91 sh hs k21 v3 v5 120 0 20000 20000 S1 T1 (by omega) (by omega) (by omega) hK
  rw [show iN 0 = 0 from rfl] at r1 r2
  refine ⟨S', T', ?_, c1.trans r2, r3⟩
  rw [bfX6_flow_54_21, if_neg hv, a0]
  exact r1
end FLOW3
