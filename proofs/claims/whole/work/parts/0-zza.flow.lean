section FLOW
def KF (x : XT) (S T : ST) (f : Nat → Int32) (R : RF) (p G : Nat) : Prop := BC x S f R p ∧ BR T f R p G ∧ (∀ q, q < 120 → S.2.2.1 78 q = T.2.2.1 150 q) ∧ (∀ q, q < 120 → S.2.2.1 79 q = T.2.2.1 151 q)
theorem BC.cl {x : XT} {S S' : ST} {f : Nat → Int32} {R : RF} {p : Nat} (h : BC x S f R p) (a : Agr ([], [], [78, 79], []) S S') : BC x S' f R p := h.cg (a.sm (by decide)) (a.1 54 2 (by decide)) (a.2.1 70 (by decide))
theorem BR.cl {T T' : ST} {f : Nat → Int32} {R : RF} {p G : Nat} (h : BR T f R p G) (a : Agr ([], [], [150, 151], []) T T') : BR T' f R p G := ⟨(a.2.1 132 (by decide)).trans h.1, fun g m hg hm => by rw [a.2.1 145 (by decide), a.2.1 146 (by decide)]; exact h.2 g m hg hm⟩
/-- v more at q -/
theorem KF.add {x : XT} {S T : ST} {f : Nat → Int32} {R : RF} {p G : Nat} (h : KF x S T f R p G) (q : Nat) (v w : Int64) (e : v = w) : KF x (S.1, S.2.1, u2 S.2.2.1 79 q v, S.2.2.2) (T.1, T.2.1, u2 T.2.2.1 151 q w, T.2.2.2) f R p G := by
  subst e
  refine ⟨h.1.cl (Agr.j Agr.rf 79 q v (by decide)), h.2.1.cl (Agr.j Agr.rf 151 q v (by decide)), fun k hk => ?_, fun k hk => ?_⟩
  · dsimp only
    rw [u2_ro _ _ _ (by decide), u2_ro _ _ _ (by decide)]; exact h.2.2.1 k hk
  · dsimp only
    by_cases e : k = q
    · rw [e, u2_s, u2_s]
    · rw [u2_k _ _ _ e, u2_k _ _ _ e]; exact h.2.2.2 k hk
theorem KF.cc {x : XT} {S S1 T : ST} {f : Nat → Int32} {R : RF} {p G : Nat} (h : KF x S T f R p G) (h1 : BC x S1 f R p) (a : Agr ([], [21, 22, 70], [], []) S S1) : KF x S1 T f R p G := ⟨h1, h.2.1, by rw [a.2.2.1 78 (by decide)]; exact h.2.2.1, by rw [a.2.2.1 79 (by decide)]; exact h.2.2.2⟩
def exN (R : RF) (f : Nat → Int32) (p pl : Nat) : Nat → Nat → Nat
  | 0, _ => 0
  | d + 1, g => (if nx R f p g pl = -1 then 0 else 1) + exN R f p pl d (g + 1)
theorem exN_le (R : RF) (f : Nat → Int32) (p pl : Nat) : ∀ d g, exN R f p pl d g ≤ d
  | 0, _ => Nat.le_refl 0
  | d + 1, g => by
    have := exN_le R f p pl d (g + 1)
    rw [exN]
    by_cases e : nx R f p g pl = -1
    · rw [if_pos e]; omega
    · rw [if_neg e]; omega
theorem exits_c (x : XT) (f : Nat → Int32) (R : RF) (p G : Nat) (hp : p < 5) (hW : WF f) (hG : G ≤ 10) (h91 : f 91 = iN G) (pl : Nat) (hl : pl < 120) (sh : Int32) : ∀ (d g fuel c : Nat) (S : ST), g + d = G → d < fuel → BC x S f R p → ∃ S', lfX6_flowFrom_54_5 x fuel S (iN pl) sh (iN c) (iN g) = lfX6_flowFrom_54_5 x 1 S' (iN pl) sh (iN (c + exN R f p pl d g)) (iN G) ∧ BC x S' f R p ∧ Agr ([], [21, 22, 70], [], []) S S'
  | 0, g, fuel, c, S, hg, hf, hS => by
    obtain ⟨fuel, rfl⟩ : ∃ z, fuel = z + 1 := ⟨fuel - 1, by omega⟩
    have e : g = G := by omega
    subst e
    refine ⟨S, ?_, hS, Agr.rf⟩
    rw [exN, Nat.add_zero c, lfX6_flowFrom_54_5, lfX6_flowFrom_54_5, bfX6_flowFrom_54_5, bfX6_flowFrom_54_5, hS.2.1.1, h91, if_pos ((iN_le (by omega) (by omega)).mpr (Nat.le_refl g)), if_pos ((iN_le (by omega) (by omega)).mpr (Nat.le_refl g))]
  | d + 1, g, fuel, c, S, hg, hf, hS => by
    obtain ⟨fuel, rfl⟩ : ∃ z, fuel = z + 1 := ⟨fuel - 1, by omega⟩
    obtain ⟨S1, b1, b2, b3⟩ := behind_eq x S f R p hp hW hS g pl (by omega) hl
    rw [lfX6_flowFrom_54_5, bfX6_flowFrom_54_5, hS.2.1.1, h91, if_neg (fun q => by have := (iN_le (by omega) (by omega)).mp q; omega), b1, exN]
    dsimp only
    unfold bfX6_flowFrom_54_34
    rw [iN_succ, iN_succ, Int32.add_zero]
    by_cases e : nx R f p g pl = -1
    · rw [if_neg (fun z => z e), if_pos e, Nat.zero_add]
      obtain ⟨S', r1, r2, r3⟩ := exits_c x f R p G hp hW hG h91 pl hl sh d (g + 1) fuel c S1 (by omega) (by omega) b2
      exact ⟨S', r1, r2, b3.tr r3⟩
    · rw [if_pos e, if_neg e, ← Nat.add_assoc]
      obtain ⟨S', r1, r2, r3⟩ := exits_c x f R p G hp hW hG h91 pl hl sh d (g + 1) fuel (c + 1) S1 (by omega) (by omega) b2
      exact ⟨S', r1, r2, b3.tr r3⟩
theorem exits_r (x : XT) (f : Nat → Int32) (R : RF) (p G : Nat) (hG : G ≤ 10) (h91 : f 91 = iN G) (pl : Nat) (hl : pl < 120) (T : ST) (hT : BR T f R p G) : ∀ (d g fuel c : Nat), g + d = G → d < fuel → lfX11_gatesFrom_130_4 x fuel T (iN pl) (iN c) (iN g) = some (iN (c + exN R f p pl d g), T)
  | 0, g, fuel, c, hg, hf => by
    obtain ⟨fuel, rfl⟩ : ∃ z, fuel = z + 1 := ⟨fuel - 1, by omega⟩
    have e : g = G := by omega
    subst e
    rw [exN, Nat.add_zero c, lfX11_gatesFrom_130_4, bfX11_gatesFrom_130_4, gateMany_eq]
    dsimp only
    rw [hT.1, h91, if_pos ((iN_le (by omega) (by omega)).mpr (Nat.le_refl g))]
  | d + 1, g, fuel, c, hg, hf => by
    obtain ⟨fuel, rfl⟩ : ∃ z, fuel = z + 1 := ⟨fuel - 1, by omega⟩
    rw [lfX11_gatesFrom_130_4, bfX11_gatesFrom_130_4, gateMany_eq]
    dsimp only
    rw [hT.1, h91, if_neg (fun q => by have := (iN_le (by omega) (by omega)).mp q; omega), next_eq x T f R p G hG hT g pl (by omega) hl, exN]
    dsimp only
    unfold bfX11_gatesFrom_130_28
    rw [iN_succ, iN_succ, Int32.add_zero]
    by_cases e : nx R f p g pl = -1
    · rw [if_neg (fun z => z e), if_pos e, Nat.zero_add]
      exact exits_r x f R p G hG h91 pl hl T hT d (g + 1) fuel c (by omega) (by omega)
    · rw [if_pos e, if_neg e, ← Nat.add_assoc]
      exact exits_r x f R p G hG h91 pl hl T hT d (g + 1) fuel (c + 1) (by omega) (by omega)
/-- what goes out through each GATE -/
theorem out_loop (x : XT) (f : Nat → Int32) (R : RF) (p G : Nat) (hp : p < 5) (hW : WF f) (hG : G ≤ 10) (h91 : f 91 = iN G) (pl : Nat) (hl : pl < 120) (k23 : ST → Int32 → Int32 → Option (Unit × ST)) (v1 : Int32) (c : Nat) (hc : 1 ≤ c) (hc2 : c ≤ 10) (A each : Int64) (hA : ¬ (lg_cmp A 0) ≤ 0) (he : each = A / jN c) : ∀ (d g f1 f2 : Nat) (S T : ST), g + d = G → d < f1 → d < f2 → KF x S T f R p G → T.2.2.1 150 pl = A → ∃ S' T', lfX6_flowFrom_54_97 x f1 S (iN pl) each (iN g) = some ((), S') ∧ lfX11_steps_130_76 x k23 f2 T v1 (iN pl) (iN c) (iN g) = k23 T' v1 (iN (pl + 1)) ∧ KF x S' T' f R p G
  | 0, g, f1, f2, S, T, hg, l1, l2, hK, hA2 => by
    obtain ⟨f1, rfl⟩ : ∃ z, f1 = z + 1 := ⟨f1 - 1, by omega⟩
    obtain ⟨f2, rfl⟩ : ∃ z, f2 = z + 1 := ⟨f2 - 1, by omega⟩
    have e : g = G := by omega
    subst e
    refine ⟨S, T, ?_, ?_, hK⟩
    · rw [lfX6_flowFrom_54_97, bfX6_flowFrom_54_97, hK.1.2.1.1, h91, if_pos ((iN_le (by omega) (by omega)).mpr (Nat.le_refl g))]
    · rw [lfX11_steps_130_76, bfX11_steps_130_76, gateMany_eq]
      dsimp only
      rw [hK.2.1.1, h91, if_pos ((iN_le (by omega) (by omega)).mpr (Nat.le_refl g)), bfX11_steps_130_141, iN_succ]
  | d + 1, g, f1, f2, S, T, hg, l1, l2, hK, hA2 => by
    obtain ⟨f1, rfl⟩ : ∃ z, f1 = z + 1 := ⟨f1 - 1, by omega⟩
    obtain ⟨f2, rfl⟩ : ∃ z, f2 = z + 1 := ⟨f2 - 1, by omega⟩
    obtain ⟨S1, b1, b2, b3⟩ := behind_eq x S f R p hp hW hK.1 g pl (by omega) hl
    have hK1 := hK.cc b2 b3
    have n91 : ¬ iN G ≤ iN g := fun q => by have := (iN_le (by omega) (by omega)).mp q; omega
    have nz : nzl (iN c).toInt64 = true := by
      rcases (show c = 1 ∨ c = 2 ∨ c = 3 ∨ c = 4 ∨ c = 5 ∨ c = 6 ∨ c = 7 ∨ c = 8 ∨ c = 9 ∨ c = 10 by omega) with rfl | rfl | rfl | rfl | rfl | rfl | rfl | rfl | rfl | rfl <;> decide
    have nx1 := next_eq x T f R p G hG hK.2.1 g pl (by omega) hl
    rw [lfX6_flowFrom_54_97, bfX6_flowFrom_54_97, hK.1.2.1.1, h91, if_neg n91, b1, lfX11_steps_130_76, bfX11_steps_130_76, gateMany_eq]
    dsimp only
    rw [hK.2.1.1, h91, if_neg n91, if_neg (show ¬ iN c ≤ 0 from fun q => by have := (iN_le (n := 0) (by omega) (by omega)).mp q; omega), inb_t hl (by omega), cond_true, iN_nat (show pl < 2147483648 by omega), hA2, if_neg hA, nx1]
    dsimp only
    unfold bfX6_flowFrom_54_136 bfX11_steps_130_135
    rw [iN_succ]
    rcases nx_in hW p g pl (R := R) (by omega) with en | ⟨q, hq2, en⟩
    · rw [if_pos en, if_pos en]
      exact out_loop x f R p G hp hW hG h91 pl hl k23 v1 c hc hc2 A each hA he d (g + 1) f1 f2 S1 T (by omega) (by omega) (by omega) hK1 hA2
    · rw [if_neg (by rw [en]; exact iN_m1 (by omega)), if_neg (by rw [en]; exact iN_m1 (by omega)), nx1]
      dsimp only
      rw [en, inb_t hq2 (by omega), nz, iN_nat (show q < 2147483648 by omega), hA2]
      simp only [cond_true]
      exact out_loop x f R p G hp hW hG h91 pl hl k23 v1 c hc hc2 A each hA he d (g + 1) f1 f2 _ _ (by omega) (by omega) (by omega) (hK1.add q _ _ (by rw [hK1.2.2.2 q hq2, he, jN_iN (by omega)])) ((congrFun (u2_ro (a := 151) (b := 150) T.2.2.1 q (T.2.2.1 151 q + A / (iN c).toInt64) (by decide)) pl).trans hA2)
end FLOW
