section SEARCH
/-- as how many one comes out behind GATE g; what one PAYS there -/
def gO (R : RF) (f : Nat → Int32) (p g m : Nat) : Int32 := if tV R 2 (qG f p g (iN m)) = 1 then -1 else tV R 0 (qG f p g (iN m))
def gP (R : RF) (f : Nat → Int32) (p g m : Nat) : Int32 := tV R 1 (qG f p g (iN m))
/-- the PLACE behind GATE g, -1 if one can't go through -/
def nx (R : RF) (f : Nat → Int32) (p g pl : Nat) : Int32 := if f (36 + g) = iN (pl / 20) ∧ ¬ f (25 + g) = 0 ∧ ¬ gO R f p g (pl % 20) = -1 then 20 * f (46 + g) + gO R f p g (pl % 20) else -1
theorem gO_in (R : RF) (f : Nat → Int32) (p g m : Nat) (hm : m < 20) : gO R f p g m = -1 ∨ inb (gO R f p g m) 20 = true := by
  unfold gO
  by_cases h : tV R 2 (qG f p g (iN m)) = 1
  · rw [if_pos h]; exact Or.inl rfl
  · rw [if_neg h]; exact Or.inr (tV0_inb R _ (show inb (iN m) 20 = true from inb_t hm (by omega)))
theorem gO_n2 (R : RF) (f : Nat → Int32) (p g m : Nat) (hm : m < 20) : ¬ gO R f p g m = -2 := o_n2 (gO_in R f p g m hm)
theorem nx_in {R : RF} {f : Nat → Int32} (hW : WF f) (p g pl : Nat) (hg : g < 10) : nx R f p g pl = -1 ∨ ∃ q, q < 120 ∧ nx R f p g pl = iN q := by
  unfold nx
  by_cases h : f (36 + g) = iN (pl / 20) ∧ ¬ f (25 + g) = 0 ∧ ¬ gO R f p g (pl % 20) = -1
  · rw [if_pos h]
    obtain ⟨a, ha, e1⟩ := inb_ex (hW.2.2.2.2.2.2.1 g hg).2.1
    rcases gO_in R f p g (pl % 20) (by omega) with q | q
    · exact absurd q h.2.2
    · obtain ⟨b, hb, e2⟩ := inb_ex q
      refine Or.inr ⟨20 * a + b, by omega, ?_⟩
      rw [e1, e2, show (20 : Int32) * iN a = iN (20 * a) from iN_mul 20 a, iN_add]
  · rw [if_neg h]; exact Or.inl rfl
/-- the class on paper -/
def BC (x : XT) (S : ST) (f : Nat → Int32) (R : RF) (p : Nat) : Prop := LR x S 55 f R ∧ KA S 55 f ∧ S.1 54 2 = iN p ∧ ∀ g m, g < 10 → m < 20 → S.2.1 70 (20 * g + m) = -2 ∨ S.2.1 70 (20 * g + m) = gO R f p g m
/-- the reference on paper -/
def BR (T : ST) (f : Nat → Int32) (R : RF) (p G : Nat) : Prop := T.2.1 132 = f ∧ ∀ g m, g < G → m < 20 → T.2.1 145 (10 * m + g) = gO R f p g m ∧ T.2.1 146 (10 * m + g) = gP R f p g m
theorem BC.cg {x : XT} {S S' : ST} {f : Nat → Int32} {R : RF} {p : Nat} (h : BC x S f R p) (hs : Sm (lK 55) S S') (h2 : S'.1 54 2 = S.1 54 2) (h70 : S'.2.1 70 = S.2.1 70) : BC x S' f R p := ⟨h.1.sm hs, h.2.1.cg hs, h2.trans h.2.2.1, fun g m hg hm => by rw [h70]; exact h.2.2.2 g m hg hm⟩
theorem mod20 (pl : Nat) (h : pl < 120) : iN pl - iN pl / 20 * 20 = iN (pl % 20) := iN_mod (n := 20) (by omega) (by omega)
theorem div20 (pl : Nat) (h : pl < 120) : iN pl / 20 = iN (pl / 20) := iN_div (n := 20) (by omega) (by omega)
theorem behind_eq (x : XT) (S : ST) (f : Nat → Int32) (R : RF) (p : Nat) (hp : p < 5) (hW : WF f) (h : BC x S f R p) (g pl : Nat) (hg : g < 10) (hl : pl < 120) : ∃ S', gfX6_behind_54 x S (iN g) (iN pl) = some (nx R f p g pl, S') ∧ BC x S' f R p ∧ Agr ([], [21, 22, 70], [], []) S S' := by
  obtain ⟨k1, k2, -, -, k5⟩ := h.2.1.2.2.2.2.2.1 g hg
  have k1 : S.2.1 56 g = f (36 + g) := k1
  have k2 : S.2.1 57 g = f (46 + g) := k2
  have k5 : S.2.1 60 g = f (25 + g) := k5
  have hm : pl % 20 < 20 := by omega
  have ha : inb (iN (20 * g + pl % 20)) 200 = true := inb_t (by omega) (by omega)
  have fin : ∀ S1 : ST, BC x S1 f R p → S1.2.1 57 g = f (46 + g) → S1.2.1 70 (20 * g + pl % 20) = gO R f p g (pl % 20) → f (36 + g) = iN (pl / 20) → ¬ f (25 + g) = 0 → bfX6_behind_54_115 x S1 (iN g) (iN (20 * g + pl % 20)) = some (nx R f p g pl, S1) := by
    intro S1 hB e57 e70 c1 c2
    unfold bfX6_behind_54_115 bfX6_behind_54_150 nx
    rw [ha, inb_t hg (by omega), iN_nat (by omega), iN_nat (by omega), e57, e70]
    simp only [cond_true]
    by_cases c3 : gO R f p g (pl % 20) = -1
    · rw [if_neg (fun z => z c3), if_neg (show ¬ (f (36 + g) = iN (pl / 20) ∧ ¬ f (25 + g) = 0 ∧ ¬ gO R f p g (pl % 20) = -1) from fun z => z.2.2 c3)]
    · rw [if_pos c3, if_pos (show f (36 + g) = iN (pl / 20) ∧ ¬ f (25 + g) = 0 ∧ ¬ gO R f p g (pl % 20) = -1 from ⟨c1, c2, c3⟩), Int32.mul_comm]
  unfold gfX6_behind_54 bfX6_behind_54_0 bfX6_behind_54_28
  rw [mod20 pl hl, div20 pl hl, show iN g * 20 = iN (20 * g) from by rw [Int32.mul_comm]; exact iN_mul 20 g, iN_add, ha, inb_t hg (by omega), iN_nat (by omega), iN_nat (by omega), k1, k5]
  simp only [cond_true]
  by_cases c1 : f (36 + g) = iN (pl / 20)
  · rw [if_neg (fun z => z c1)]
    by_cases c2 : f (25 + g) = 0
    · rw [if_neg (fun z => z c2)]
      exact ⟨S, by unfold nx; rw [if_neg (fun z => z.2.1 c2)], h, Agr.rf⟩
    · rw [if_pos c2]
      by_cases c3 : S.2.1 70 (20 * g + pl % 20) = -2
      · rw [if_neg (fun z => z c3), h.2.2.1]
        obtain ⟨W, e1, e2⟩ := reg55 x S f h.2.1 p g hp hg (iN (pl % 20))
        have hn := qG_nb hW hp hg (m := iN (pl % 20)) (inb_t hm (by omega))
        obtain ⟨st, e3⟩ := toldQ55 x (wA S 21 W) f R (h.1.w55 W W).1 _ (fun w hw => by rw [wA_s]; exact e2 w hw) hn 2 (by omega)
        obtain ⟨st2, e4⟩ := toldQ55 x (wkT (wA S 21 W) st) f R (h.1.w55 W st).2 _ (fun w hw => e2 w hw) hn 0 (by omega)
        have put : ∀ S1 : ST, Agr ([], [21, 22], [], []) S S1 → ∃ S', bfX6_behind_54_114 x S1 (iN g) (iN (20 * g + pl % 20)) (iN (20 * g + pl % 20)) (gO R f p g (pl % 20)) = some (nx R f p g pl, S') ∧ BC x S' f R p ∧ Agr ([], [21, 22, 70], [], []) S S' := by
          intro S1 a1
          have a2 : Agr ([], [21, 22, 70], [], []) S (S1.1, u2 S1.2.1 70 (20 * g + pl % 20) (gO R f p g (pl % 20)), S1.2.2.1, S1.2.2.2) := Agr.i (a1.sub (by decide)) 70 _ _ (by decide)
          have hB : BC x (S1.1, u2 S1.2.1 70 (20 * g + pl % 20) (gO R f p g (pl % 20)), S1.2.2.1, S1.2.2.2) f R p := by
            refine ⟨h.1.sm (a2.sm (by decide)), h.2.1.cg (a2.sm (by decide)), (a2.1 54 2 (by decide)).trans h.2.2.1, fun g' m' hg' hm' => ?_⟩
            dsimp only
            by_cases e : 20 * g' + m' = 20 * g + pl % 20
            · have eg : g' = g := by omega
              have em : m' = pl % 20 := by omega
              rw [e, u2_s, eg, em]; exact Or.inr rfl
            · rw [u2_k _ _ _ e, a1.2.1 70 (by decide)]; exact h.2.2.2 g' m' hg' hm'
          unfold bfX6_behind_54_114
          rw [ha, cond_true, iN_nat (by omega), fin _ hB ((congrFun (a2.2.1 57 (by decide)) g).trans k2) (u2_s S1.2.1 70 _ _) c1 c2]
          exact ⟨_, rfl, hB, a2⟩
        rw [e1]
        dsimp only
        rw [show (262 : Int32) = iN (260 + 2) from rfl, show (260 : Int32) = iN (260 + 0) from rfl, e3]
        dsimp only
        have a3 := (frX0_regard_20_55 x S _ _ _ _ _ e1).sub (W := ([], [21, 22], [], [])) (by decide)
        have a4 := a3.tr ((frX0_told_20_55 x _ _ _ _ e3).sub (by decide))
        by_cases hb : tV R 2 (qG f p g (iN (pl % 20))) = 1
        · rw [if_neg (fun z => z hb)]
          have e : (-1 : Int32) = gO R f p g (pl % 20) := by unfold gO; rw [if_pos hb]
          rw [e]
          exact put _ a4
        · rw [if_pos hb, e4]
          dsimp only
          have e : tV R 0 (qG f p g (iN (pl % 20))) = gO R f p g (pl % 20) := by unfold gO; rw [if_neg hb]
          rw [e]
          exact put _ (a4.tr ((frX0_told_20_55 x _ _ _ _ e4).sub (by decide)))
      · rw [if_pos c3, fin S h k2 ((h.2.2.2 g _ hg hm).resolve_left c3) c1 c2]
        exact ⟨S, rfl, h, Agr.rf⟩
  · rw [if_pos c1]
    exact ⟨S, by unfold nx; rw [if_neg (fun z => c1 z.1)], h, Agr.rf⟩
theorem next_eq (x : XT) (T : ST) (f : Nat → Int32) (R : RF) (p G : Nat) (hG : G ≤ 10) (h : BR T f R p G) (g pl : Nat) (hg : g < G) (hl : pl < 120) : gfX11_nextPlace_130 x T (iN pl) (iN g) = some (nx R f p g pl, T) := by
  have e := (h.2 g (pl % 20) hg (by omega)).1
  unfold gfX11_nextPlace_130 bfX11_nextPlace_130_0 bfX11_nextPlace_130_48 bfX11_nextPlace_130_66 nx
  rw [mod20 pl hl, div20 pl hl, show (10 : Int32) * iN (pl % 20) = iN (10 * (pl % 20)) from iN_mul 10 _, iN_add, show (36 : Int32) + iN g = iN (36 + g) from iN_add 36 g, show (25 : Int32) + iN g = iN (25 + g) from iN_add 25 g, show (46 : Int32) + iN g = iN (46 + g) from iN_add 46 g, inb_t (show 10 * (pl % 20) + g < 200 by omega) (by omega), inb_t (show 36 + g < 5703 by omega) (by omega), inb_t (show 25 + g < 5703 by omega) (by omega), inb_t (show 46 + g < 5703 by omega) (by omega), iN_nat (by omega), iN_nat (by omega), iN_nat (by omega), iN_nat (by omega), h.1, e]
  simp only [cond_true]
  by_cases c1 : f (36 + g) = iN (pl / 20)
  · rw [if_neg (fun z => z c1)]
    by_cases c2 : f (25 + g) = 0
    · rw [if_pos c2, if_neg (fun z => z.2.1 c2)]
    · rw [if_neg c2]
      by_cases c3 : gO R f p g (pl % 20) = -1
      · rw [if_neg (fun z => z c3), if_neg (fun z => z.2.2 c3)]
      · rw [if_pos c3, if_pos ⟨c1, c2, c3⟩]
  · rw [if_pos c1, if_neg (fun z => c1 z.1)]
end SEARCH
