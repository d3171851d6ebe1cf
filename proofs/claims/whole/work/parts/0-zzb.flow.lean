section FLOW2
theorem div_one64 (A : Int64) : A / jN 1 = A := by
  rw [show jN 1 = 1 from rfl]
  exact Int64.div_one
theorem u2_self {α : Type} (f : Nat → Nat → α) (a k : Nat) : u2 f a k (f a k) = f := by rw [u2, u1_self, u1_self]
theorem none_loop (x : XT) (f : Nat → Int32) (R : RF) (p G : Nat) (hG : G ≤ 10) (h91 : f 91 = iN G) (pl : Nat) (hl : pl < 120) (k23 : ST → Int32 → Int32 → Option (Unit × ST)) (v1 : Int32) (T : ST) (hT : BR T f R p G) : ∀ (d g fuel : Nat), g + d = G → d < fuel → exN R f p pl d g = 0 → lfX11_steps_130_76 x k23 fuel T v1 (iN pl) 1 (iN g) = k23 T v1 (iN (pl + 1))
  | 0, g, fuel, hg, hf, h0 => by
    obtain ⟨fuel, rfl⟩ : ∃ z, fuel = z + 1 := ⟨fuel - 1, by omega⟩
    have e : g = G := by omega
    subst e
    rw [lfX11_steps_130_76, bfX11_steps_130_76, gateMany_eq]
    dsimp only
    rw [hT.1, h91, if_pos ((iN_le (by omega) (by omega)).mpr (Nat.le_refl g)), bfX11_steps_130_141, iN_succ]
  | d + 1, g, fuel, hg, hf, h0 => by
    obtain ⟨fuel, rfl⟩ : ∃ z, fuel = z + 1 := ⟨fuel - 1, by omega⟩
    rw [exN] at h0
    have e : nx R f p g pl = -1 := by
      by_cases e : nx R f p g pl = -1
      · exact e
      · rw [if_neg e] at h0; omega
    rw [if_pos e, Nat.zero_add] at h0
    rw [lfX11_steps_130_76, bfX11_steps_130_76, gateMany_eq]
    dsimp only
    rw [hT.1, h91, if_neg (fun q => by have := (iN_le (by omega) (by omega)).mp q; omega), if_neg (show ¬ (1 : Int32) ≤ 0 by decide), inb_t hl (by omega), cond_true, next_eq x T f R p G hG hT g pl (by omega) hl]
    dsimp only
    unfold bfX11_steps_130_141 bfX11_steps_130_135
    rw [if_pos e, iN_succ, iN_succ, none_loop x f R p G hG h91 pl hl k23 v1 T hT d (g + 1) fuel (by omega) (by omega) h0]
    by_cases z : (lg_cmp (T.2.2.1 150 (iN pl).toNatClampNeg) 0) ≤ 0
    · rw [if_pos z]
    · rw [if_neg z]
/-- the class lets flow from one PLACE; the reference too -/
theorem from_eq (x : XT) (f : Nat → Int32) (R : RF) (p G : Nat) (hp : p < 5) (hW : WF f) (hG : G ≤ 10) (h91 : f 91 = iN G) (pl : Nat) (hl : pl < 120) (k23 : ST → Int32 → Int32 → Option (Unit × ST)) (sh : Int32) (hs : sh = 0 ∨ sh = 1) (S T : ST) (hK : KF x S T f R p G) (hA : ¬ (lg_cmp (T.2.2.1 150 pl) 0) ≤ 0) : ∃ S' T', gfX6_flowFrom_54 x S (iN pl) sh = some ((), S') ∧ bfX11_steps_130_23 x k23 T sh (iN pl) = k23 T' sh (iN (pl + 1)) ∧ KF x S' T' f R p G := by
  obtain ⟨S1, b1, b2, b3⟩ := exits_c x f R p G hp hW hG h91 pl hl sh G 0 20000 0 S (by omega) (by omega) hK.1
  have r1 := exits_r x f R p G hG h91 pl hl T hK.2.1 G 0 20000 0 (by omega) (by omega)
  rw [Nat.zero_add, show iN 0 = 0 from rfl] at b1 r1
  have hK1 := hK.cc b2 b3
  have hc := exN_le R f p pl G 0
  have e78 : S1.2.2.1 78 pl = T.2.2.1 150 pl := hK1.2.2.1 pl hl
  have e79 : S1.2.2.1 79 pl = T.2.2.1 151 pl := hK1.2.2.2 pl hl
  have r0 : gfX11_gatesFrom_130 x T (iN pl) = some (iN (exN R f p pl G 0), T) := r1
  have nl := none_loop x f R p G hG h91 pl hl k23 sh T hK.2.1 G 0 20000 (by omega) (by omega)
  rw [show iN 0 = 0 from rfl] at nl
  generalize exN R f p pl G 0 = c at *
  have hi : inb (iN pl) 120 = true := inb_t hl (by omega)
  have hn : (iN pl).toNatClampNeg = pl := iN_nat (by omega)
  have cC : gfX6_flowFrom_54 x S (iN pl) sh = bfX6_flowFrom_54_5 x (lfX6_flowFrom_54_5 x 0) S1 (iN pl) sh (iN c) (iN G) := b1
  rw [cC, bfX6_flowFrom_54_5, hK1.1.2.1.1, h91, if_pos ((iN_le (by omega) (by omega)).mpr (Nat.le_refl G)), hi, hn]
  simp only [cond_true]
  unfold bfX6_flowFrom_54_92 bfX6_flowFrom_54_67
  rw [hi, hn]
  simp only [cond_true]
  unfold bfX11_steps_130_23 bfX11_steps_130_52 bfX11_steps_130_53 bfX11_steps_130_73
  rw [if_neg (show ¬ (120 : Int32) ≤ iN pl from fun q => by have := (iN_le (m := 120) (by omega) (by omega)).mp q; omega), hi, hn, if_neg hA, r0]
  simp only [cond_true]
  rcases hs with rfl | rfl
  · rw [if_pos (show (0 : Int32) = 0 from rfl), if_pos (show (0 : Int32) = 0 from rfl), if_pos (show (0 : Int32) = 0 from rfl), if_pos (show ¬ (1 : Int32) = 0 by decide)]
    by_cases hc0 : c = 0
    · rw [if_neg (show ¬ ¬ iN c = 0 by rw [hc0]; exact fun z => z rfl), nl hc0, Int64.add_zero, u2_self]
      exact ⟨_, _, rfl, rfl, hK1⟩
    · rw [if_pos (show ¬ iN c = 0 from fun z => hc0 ((iN_eq (n := 0) (by omega) (by omega)).mp z))]
      obtain ⟨S', T', o1, o2, o3⟩ := out_loop x f R p G hp hW hG h91 pl hl k23 0 1 (by omega) (by omega) (T.2.2.1 150 pl) (S1.2.2.1 78 pl) hA (by rw [e78, div_one64]) G 0 20000 20000 S1 T (by omega) (by omega) (by omega) hK1 rfl
      rw [show iN 0 = 0 from rfl] at o1 o2
      rw [show iN 1 = 1 from rfl] at o2
      exact ⟨S', T', o1, o2, o3⟩
  · rw [if_neg (show ¬ (1 : Int32) = 0 by decide), if_neg (show ¬ (1 : Int32) = 0 by decide), if_neg (show ¬ (1 : Int32) = 0 by decide)]
    by_cases hc0 : c = 0
    · rw [if_neg (show ¬ ¬ iN c = 0 by rw [hc0]; exact fun z => z rfl), if_neg (show ¬ ¬ iN c = 0 by rw [hc0]; exact fun z => z rfl)]
      refine ⟨_, (T.1, T.2.1, u2 T.2.2.1 151 pl (T.2.2.1 151 pl + T.2.2.1 150 pl), T.2.2.2), rfl, ?_, hK1.add pl _ _ (by rw [e78, e79])⟩
      rw [lfX11_steps_130_76, bfX11_steps_130_76, gateMany_eq]
      dsimp only
      rw [hc0, if_pos (show iN 0 ≤ 0 by decide), bfX11_steps_130_141, iN_succ]
      by_cases z : T.2.1 132 91 ≤ 0
      · rw [if_pos z]
      · rw [if_neg z]
    · have hz : ¬ iN c = 0 := fun z => hc0 ((iN_eq (n := 0) (by omega) (by omega)).mp z)
      have nz : nzl (iN c).toInt64 = true := by
        rcases (show c = 1 ∨ c = 2 ∨ c = 3 ∨ c = 4 ∨ c = 5 ∨ c = 6 ∨ c = 7 ∨ c = 8 ∨ c = 9 ∨ c = 10 by omega) with rfl | rfl | rfl | rfl | rfl | rfl | rfl | rfl | rfl | rfl <;> decide
      rw [if_pos hz, if_pos hz, nz, cond_true]
      obtain ⟨S', T', o1, o2, o3⟩ := out_loop x f R p G hp hW hG h91 pl hl k23 1 c (by omega) (by omega) (T.2.2.1 150 pl) (S1.2.2.1 78 pl / (iN c).toInt64) hA (by rw [e78, jN_iN (by omega)]) G 0 20000 20000 S1 T (by omega) (by omega) (by omega) hK1 rfl
      rw [show iN 0 = 0 from rfl] at o1 o2
      exact ⟨S', T', o1, o2, o3⟩
end FLOW2
