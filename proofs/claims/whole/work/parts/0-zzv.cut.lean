section CUT2
theorem shut_l (x : XT) (f : Nat → Int32) (R : RF) (p G : Nat) (hp : p < 5) (hW : WF f) (hG : G ≤ 10) (h91 : f 91 = iN G) (pk : Int32) (b b0 : Nat) (hb : Vs f G b) (hb0 : Vs f G b0) : ∀ (d g fuel : Nat) (S : ST), g + d = G → d < fuel → BC x S (sF f (iN b) (iN b0) g) R p → ∃ (B : Bool) (S' : ST), lfX6_shuts_54_2 x fuel S (iN (opN f G) &&& (iN b ^^^ (-1))) pk (iN g) = some (bz B, S') ∧ BC x S' (mF f (iN b)) R p ∧ (B = true ↔ ¬ Hw R (mF f (iN b)) p G (fun q => bG q pk (-1)) (pl0 f p))
  | 0, g, fuel, S, hg, hf, h => by
    obtain ⟨fuel, rfl⟩ : ∃ z, fuel = z + 1 := ⟨fuel - 1, by omega⟩
    have e : g = G := by omega
    subst e
    rw [hb.same hG hb0] at h
    have h91' : mF f (iN b) 91 = iN g := by rw [mF_o f _ (by omega)]; exact h91
    obtain ⟨r, S', q1, q2, q3⟩ := find_has x _ R p g hp (mF_WF hW (iN b)) hG h91' pk (-1) S h
    rw [mF_pl f _ p hp] at q3
    rw [lfX6_shuts_54_2, bfX6_shuts_54_2, h.2.1.1, h91', if_pos ((iN_le (by omega) (by omega)).mpr (Nat.le_refl g)), q1]
    dsimp only
    unfold bfX6_shuts_54_57
    by_cases hr : r = -1
    · rw [if_neg (fun z => z hr), show bbz 1 = true from rfl, cond_true]
      exact ⟨true, S', rfl, q2, ⟨fun _ => q3.mp hr, fun _ => rfl⟩⟩
    · rw [if_pos hr, show bbz 0 = true from rfl, cond_true]
      exact ⟨false, S', rfl, q2, ⟨fun z => Bool.noConfusion z, fun z => absurd (q3.mpr z) hr⟩⟩
  | d + 1, g, fuel, S, hg, hf, h => by
    obtain ⟨fuel, rfl⟩ : ∃ z, fuel = z + 1 := ⟨fuel - 1, by omega⟩
    have e91 : sF f (iN b) (iN b0) g 91 = iN G := by
      unfold sF
      rw [if_neg (by omega), mF_o f _ (by omega)]
      exact h91
    have n91 : ¬ iN G ≤ iN g := fun q => by have := (iN_le (by omega) (by omega)).mp q; omega
    have hbit : (((iN (opN f G) &&& (iN b ^^^ (-1))) >>> (iN g &&& 31)) &&& 1) = 1 ↔ (!decide (f (25 + g) = 0) && !b.testBit g) = true := by
      have e := bitI_tb (iN (opN f G) &&& (iN b ^^^ (-1))) g (by omega)
      rw [tb_and, tb_not _ _ (by omega), tb_iN _ _ (by omega), tb_iN _ _ (by omega), opN_bit, decide_eq_true (show g < G by omega), Bool.true_and] at e
      rw [← e]
      unfold bitI
      rw [decide_eq_true_eq]
    have mv : mF f (iN b) (25 + g) = bz (!decide (f (25 + g) = 0) && !b.testBit g) := by
      rw [mF_g f _ (by omega), bitI_tb _ _ (by omega), tb_iN _ _ (by omega)]
      cases b.testBit g
      · rw [if_neg (by decide)]
        obtain ⟨k, hk, e⟩ := inb_ex (hW.1.2.1 g (by omega)).2
        rcases (show k = 0 ∨ k = 1 by omega) with rfl | rfl
        · rw [e]; rfl
        · rw [e]; rfl
      · rw [if_pos rfl, Bool.not_true, Bool.and_false]; rfl
    have nx1 := h.opn hp (show g < 10 by omega) (mF f (iN b) (25 + g))
    rw [sF_s] at nx1
    have rest := shut_l x f R p G hp hW hG h91 pk b b0 hb hb0 d (g + 1) fuel _ (by omega) (by omega) nx1
    rw [lfX6_shuts_54_2, bfX6_shuts_54_2, h.2.1.1, e91, if_neg n91]
    unfold bfX6_shuts_54_35
    rw [inb_t (show g < 10 by omega) (by omega), cond_true, cond_true, iN_nat (by omega), iN_succ]
    rw [mv] at rest
    cases hc : (!decide (f (25 + g) = 0) && !b.testBit g) with
    | false =>
      rw [hc] at rest hbit
      rw [if_pos (fun z => by have := hbit.mp z; cases this)]
      exact rest
    | true =>
      rw [hc] at rest hbit
      rw [if_neg (fun z => z (hbit.mpr rfl))]
      exact rest
theorem shuts_eq (x : XT) (f : Nat → Int32) (R : RF) (p G : Nat) (hp : p < 5) (hW : WF f) (hG : G ≤ 10) (h91 : f 91 = iN G) (pk : Int32) (b b0 : Nat) (hb : Vs f G b) (hb0 : Vs f G b0) (S : ST) (h : BC x S (mF f (iN b0)) R p) : ∃ (B : Bool) (S' : ST), gfX6_shuts_54 x S (iN (opN f G) &&& (iN b ^^^ (-1))) pk = some (bz B, S') ∧ BC x S' (mF f (iN b)) R p ∧ (B = true ↔ ¬ Hw R (mF f (iN b)) p G (fun q => bG q pk (-1)) (pl0 f p)) := by
  have r := shut_l x f R p G hp hW hG h91 pk b b0 hb hb0 G 0 20000 S (by omega) (by omega) (by rw [sF_0]; exact h)
  rw [show iN 0 = 0 from rfl] at r
  exact r
theorem comes_l (x : XT) (T : ST) (F : Nat → Bool) (k : Nat) (hk : k < 6) (hF : ∀ q, q < 120 → ((1000000 : Int32) ≤ T.2.1 148 q ↔ F q = false)) : ∀ (d m fuel : Nat) (o : Bool), m + d = 20 → d < fuel → lfX11_comesTo_130_4 x fuel T (iN k) (bz o) (iN m) = some (bz (o || anyB (fun m => F (20 * k + m)) d m), T)
  | 0, m, fuel, o, hm, hf => by
    obtain ⟨fuel, rfl⟩ : ∃ z, fuel = z + 1 := ⟨fuel - 1, by omega⟩
    have e : m = 20 := by omega
    subst e
    rw [lfX11_comesTo_130_4, bfX11_comesTo_130_4, if_pos (show (20 : Int32) ≤ iN 20 by decide), bz_b, cond_true, anyB, Bool.or_false]
  | d + 1, m, fuel, o, hm, hf => by
    obtain ⟨fuel, rfl⟩ : ∃ z, fuel = z + 1 := ⟨fuel - 1, by omega⟩
    have hfd := hF (20 * k + m) (by omega)
    have rest := fun o => comes_l x T F k hk hF d (m + 1) fuel o (by omega) (by omega)
    rw [lfX11_comesTo_130_4, bfX11_comesTo_130_4, if_neg (show ¬ (20 : Int32) ≤ iN m from fun q => by have := (iN_le (m := 20) (by omega) (by omega)).mp q; omega), anyB]
    unfold bfX11_comesTo_130_30 bfX11_comesTo_130_35
    rw [iN_succ]
    cases o with
    | true => rw [if_pos (show ¬ bz true = 0 by decide), show (1 : Int32) = bz true from rfl, rest true, Bool.true_or, Bool.true_or]
    | false =>
      rw [if_neg (show ¬ ¬ bz false = 0 from fun z => z rfl), show (20 : Int32) * iN k = iN (20 * k) from iN_mul 20 k, iN_add, inb_t (show 20 * k + m < 120 by omega) (by omega), cond_true, iN_nat (by omega), Bool.false_or]
      cases hq : F (20 * k + m) with
      | false => rw [if_pos (hfd.mpr hq), Bool.false_or, show (0 : Int32) = bz false from rfl, rest false, Bool.false_or]
      | true => rw [if_neg (fun z => by rw [hfd.mp z] at hq; cases hq), Bool.true_or, show (1 : Int32) = bz true from rfl, rest true, Bool.true_or]
theorem comes_set (x : XT) (f : Nat → Int32) (R : RF) (p G : Nat) (hp : p < 5) (hW : WF f) (hG : G ≤ 10) (h91 : f 91 = iN G) (k : Nat) (hk : k < 6) (v : Int32) (T : ST) (hT : BR T f R p G) : ∃ (B : Bool) (T' : ST), gfX11_laysGone_130 x T (iN (pl0 f p)) v = some ((), T') ∧ gfX11_comesTo_130 x T' (iN k) = some (bz B, T') ∧ BR T' f R p G ∧ (B = true ↔ Hw R (mF f v) p G (fun q => bG q (iN k) (-1)) (pl0 f p)) := by
  obtain ⟨T', F, a1, a2, a3, a4⟩ := mask_eq x f R p G hp hW hG h91 v T hT
  have l := comes_l x T' F k hk a3 20 0 20000 false (by omega) (by omega)
  rw [show bz false = 0 from rfl, show iN 0 = 0 from rfl, Bool.false_or] at l
  refine ⟨anyB (fun m => F (20 * k + m)) 20 0, T', a1, l, a2, ?_⟩
  rw [← a4, anyB_iff]
  constructor
  · rintro ⟨m, m1, m2, m3⟩
    refine ⟨20 * k + m, by omega, m3, ?_⟩
    unfold bG
    rw [show (20 * k + m) / 20 = k by omega]
    simp
  · rintro ⟨q, q1, q2, q3⟩
    unfold bG at q3
    rw [Bool.and_eq_true, decide_eq_true_eq] at q3
    have e : q / 20 = k := (iN_eq (by omega) (by omega)).mp q3.1
    exact ⟨q % 20, by omega, by omega, by rw [show 20 * k + q % 20 = q by omega]; exact q2⟩
/-- a set that cuts; the best one -/
def Gd (R : RF) (f : Nat → Int32) (p G k b : Nat) : Prop := Vs f G b ∧ ¬ Hw R (mF f (iN b)) p G (fun q => bG q (iN k) (-1)) (pl0 f p)
def Bst (R : RF) (f : Nat → Int32) (p G k r : Nat) : Prop := Gd R f p G k r ∧ ∀ b, Gd R f p G k b → pcN r < pcN b ∨ (pcN r = pcN b ∧ r ≤ b)
theorem Bst.uq {R : RF} {f : Nat → Int32} {p G k r r' : Nat} (h : Bst R f p G k r) (h' : Bst R f p G k r') : r = r' := by
  have a := h.2 r' h'.1
  have b := h'.2 r h.1
  omega
theorem Gd.all {R : RF} {f : Nat → Int32} {p G k : Nat} (hp : p < 5) (hG : G ≤ 10) (hk : k < 6) (hs : pl0 f p < 120) (hne : bG (pl0 f p) (iN k) (-1) = false) : Gd R f p G k (opN f G) := by
  refine ⟨⟨Nat.le_refl _, Nat.and_self _⟩, fun ⟨m, c, h⟩ => ?_⟩
  cases m with
  | zero =>
    have h1 : bG (pl0 f p) (iN k) (-1) = true := h.1
    rw [hne] at h1
    cases h1
  | succ m =>
    obtain ⟨g, q', c', h1, h2, h3, h4, h5⟩ := h
    rw [mF_nx R f _ p g _ hp (by omega), bitI_tb _ _ (by omega), tb_iN _ _ (by omega), opN_bit, decide_eq_true h1, Bool.true_and] at h3
    by_cases z : f (25 + g) = 0
    · have : nx R f p g (pl0 f p) = -1 := by
        unfold nx
        rw [if_neg (fun y => y.2.1 z)]
      rw [this, ite_self] at h3
      exact iN_m1 (by omega) h3.symm
    · rw [decide_eq_false z, if_pos (show (!false) = true from rfl)] at h3
      exact iN_m1 (by omega) h3.symm
end CUT2
