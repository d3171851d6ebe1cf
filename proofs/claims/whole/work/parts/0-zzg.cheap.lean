section CHEAP2
def rlx (tt : Nat → Option Nat) (q v : Nat) : Nat → Option Nat := match tt q with
  | none => u1 tt q (some v)
  | some b => if b ≤ v then tt else u1 tt q (some v)
theorem pay_eq (x : XT) (S : ST) (f : Nat → Int32) (R : RF) (p : Nat) (hp : p < 5) (hW : WF f) (h : BC x S f R p) (tt : Nat → Option Nat) (h1 : ∀ q, q < 120 → S.2.1 76 q = tOz (tt q)) (hb : ∀ q c, q < 120 → tt q = some c → c < 1000000) (g pl c : Nat) (hg : g < 10) (hl : pl < 120) (hc : tt pl = some c) : ∃ S' tt', gfX6_payInto_54 x S (iN g) (iN pl) = some ((), S') ∧ BC x S' f R p ∧ (∀ q, q < 120 → S'.2.1 76 q = tOz (tt' q)) ∧ S'.2.1 77 = S.2.1 77 ∧ ((nx R f p g pl = -1 ∧ tt' = tt) ∨ ∃ q', q' < 120 ∧ nx R f p g pl = iN q' ∧ tt' = rlx tt q' (c + wt R f p 1 g pl)) := by
  obtain ⟨S1, b1, b2, b3⟩ := behind_eq x S f R p hp hW h g pl hg hl
  unfold gfX6_payInto_54 bfX6_payInto_54_0
  rw [b1]
  dsimp only
  rcases nx_in hW p g pl (R := R) hg with en | ⟨q', hq', en⟩
  · rw [if_neg (fun z => z en)]
    exact ⟨S1, tt, rfl, b2, by rw [b3.2.1 76 (by decide)]; exact h1, b3.2.1 77 (by decide), Or.inl ⟨en, rfl⟩⟩
  · have hm : pl % 20 < 20 := by omega
    obtain ⟨W, e1, e2⟩ := reg55 x S1 f b2.2.1 p g hp hg (iN (pl % 20))
    have hn := qG_nb hW hp hg (m := iN (pl % 20)) (inb_t hm (by omega))
    obtain ⟨st, e3⟩ := toldQ55 x (wA S1 21 W) f R (b2.1.w55 W W).1 _ (fun w hw => by rw [wA_s]; exact e2 w hw) hn 1 (by omega)
    have a3 := (frX0_regard_20_55 x S1 _ _ _ _ _ e1).sub (W := ([], [21, 22], [], [])) (by decide)
    have a4 := a3.tr ((frX0_told_20_55 x _ _ _ _ e3).sub (by decide))
    have s76 : (wA S1 21 W).2.1 76 = S.2.1 76 := (a3.2.1 76 (by decide)).trans (b3.2.1 76 (by decide))
    generalize hS2 : wkT (wA S1 21 W) st = S2 at *
    have t76 : S2.2.1 76 = S.2.1 76 := (a4.2.1 76 (by decide)).trans (b3.2.1 76 (by decide))
    have t77 : S2.2.1 77 = S.2.1 77 := (a4.2.1 77 (by decide)).trans (b3.2.1 77 (by decide))
    have hB2 : BC x S2 f R p := b2.cg (a4.sm (by decide)) (a4.1 54 2 (by decide)) (a4.2.1 70 (by decide))
    have hw := wt_lt R f p 1 g pl
    have hcb := hb pl c hl hc
    have ew : tV R 1 (qG f p g (iN (pl % 20))) = iN (wt R f p 1 g pl) := by
      unfold wt
      rw [if_neg (show ¬ (1 : Int32) = 0 by decide)]
      exact (gP_is R f p g (pl % 20)).1
    rw [en, if_pos (iN_m1 (by omega)), mod20 pl hl, b2.2.2.1, e1]
    dsimp only
    rw [inb_t hl (by omega), cond_true, show (261 : Int32) = iN (260 + 1) from rfl, e3]
    dsimp only
    rw [inb_t hq' (by omega), cond_true, cond_true, iN_nat (show q' < 2147483648 by omega), iN_nat (show pl < 2147483648 by omega), s76, t76, h1 pl hl, hc, h1 q' hq', ew, show tOz (some c) = iN c from rfl, iN_add]
    unfold bfX6_payInto_54_77 bfX6_payInto_54_85
    rw [inb_t hq' (by omega), cond_true, iN_nat (show q' < 2147483648 by omega)]
    have put : ∃ S' tt', some ((), ((S2.1, u2 S2.2.1 76 q' (iN (c + wt R f p 1 g pl)), S2.2.2.1, S2.2.2.2) : ST)) = some ((), S') ∧ BC x S' f R p ∧ (∀ q, q < 120 → S'.2.1 76 q = tOz (tt' q)) ∧ S'.2.1 77 = S.2.1 77 ∧ tt' = u1 tt q' (some (c + wt R f p 1 g pl)) := by
      have aP : Agr ([], [76], [], []) S2 (S2.1, u2 S2.2.1 76 q' (iN (c + wt R f p 1 g pl)), S2.2.2.1, S2.2.2.2) := Agr.i Agr.rf 76 _ _ (by decide)
      refine ⟨_, _, rfl, hB2.cg (aP.sm (by decide)) rfl (aP.2.1 70 (by decide)), fun q hq => ?_, (aP.2.1 77 (by decide)).trans t77, rfl⟩
      dsimp only
      by_cases e : q = q'
      · rw [e, u2_s, u1_s]; rfl
      · rw [u2_k _ _ _ e, u1_n _ _ e, t76]; exact h1 q hq
    cases hq : tt q' with
    | none =>
      rw [if_pos (show tOz none = -1 from rfl)]
      obtain ⟨S', tt', r1, r2, r3, r4, r5⟩ := put
      exact ⟨S', tt', r1, r2, r3, r4, Or.inr ⟨q', hq', rfl, by rw [r5, rlx, hq]⟩⟩
    | some b =>
      have hbb := hb q' b hq' hq
      rw [if_neg (show ¬ tOz (some b) = -1 from iN_m1 (by omega)), show tOz (some b) = iN b from rfl]
      by_cases le : b ≤ c + wt R f p 1 g pl
      · rw [if_pos ((iN_le (by omega) (by omega)).mpr le)]
        exact ⟨S2, tt, rfl, hB2, by rw [t76]; exact h1, t77, Or.inr ⟨q', hq', rfl, by rw [rlx, hq]; dsimp only; rw [if_pos le]⟩⟩
      · rw [if_neg (fun z => le ((iN_le (by omega) (by omega)).mp z))]
        obtain ⟨S', tt', r1, r2, r3, r4, r5⟩ := put
        exact ⟨S', tt', r1, r2, r3, r4, Or.inr ⟨q', hq', rfl, by rw [r5, rlx, hq]; dsimp only; rw [if_neg le]⟩⟩
end CHEAP2
