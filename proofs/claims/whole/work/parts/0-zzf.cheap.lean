section CHEAP
def tOz : Option Nat → Int32
  | none => -1
  | some c => iN c
theorem tO_m1 {o : Option Nat} (h : ∀ c, o = some c → c < 2147483648) : tOz o = -1 ↔ o = none := by
  cases o with
  | none => exact ⟨fun _ => rfl, fun _ => rfl⟩
  | some c => exact ⟨fun z => absurd z (iN_m1 (h c rfl)), fun z => by cases z⟩
/-- the least of what is not settled -/
def MinU (tt : Nat → Option Nat) (st : Nat → Bool) (k : Nat) (b : Int32) : Prop := (b = -1 ∧ ∀ q, q < k → st q = false → tt q = none) ∨ ∃ u c, u < 120 ∧ b = iN u ∧ st u = false ∧ tt u = some c ∧ ∀ q c', q < k → st q = false → tt q = some c' → c ≤ c'
theorem least_loop (x : XT) (S : ST) (tt : Nat → Option Nat) (st : Nat → Bool) (h1 : ∀ q, q < 120 → S.2.1 76 q = tOz (tt q)) (h2 : ∀ q, q < 120 → S.2.1 77 q = bz (st q)) (hb : ∀ q c, q < 120 → tt q = some c → c < 2147483648) : ∀ (d k fuel : Nat) (b : Int32), k + d = 120 → d < fuel → MinU tt st k b → ∃ r, lfX6_cheapestUnsettled_54_4 x fuel S b (iN k) = some (r, S) ∧ MinU tt st 120 r
  | 0, k, fuel, b, hk, hf, hM => by
    obtain ⟨fuel, rfl⟩ : ∃ z, fuel = z + 1 := ⟨fuel - 1, by omega⟩
    have e : k = 120 := by omega
    subst e
    refine ⟨b, ?_, hM⟩
    rw [lfX6_cheapestUnsettled_54_4, bfX6_cheapestUnsettled_54_4, if_pos (show (120 : Int32) ≤ iN 120 by decide)]
  | d + 1, k, fuel, b, hk, hf, hM => by
    obtain ⟨fuel, rfl⟩ : ∃ z, fuel = z + 1 := ⟨fuel - 1, by omega⟩
    have rest := fun b h => least_loop x S tt st h1 h2 hb d (k + 1) fuel b (by omega) (by omega) h
    rw [lfX6_cheapestUnsettled_54_4, bfX6_cheapestUnsettled_54_4, if_neg (show ¬ (120 : Int32) ≤ iN k from fun z => by have := (iN_le (m := 120) (by omega) (by omega)).mp z; omega), inb_t (show k < 120 by omega) (by omega), cond_true, cond_true, cond_true, iN_nat (by omega), h1 k (by omega), h2 k (by omega)]
    unfold bfX6_cheapestUnsettled_54_49 bfX6_cheapestUnsettled_54_51
    rw [iN_succ]
    have keep : (st k = true ∨ tt k = none) → MinU tt st (k + 1) b := by
      intro hh
      rcases hM with ⟨a, z⟩ | ⟨u, c, u1, u2, u3, u4, u5⟩
      · refine Or.inl ⟨a, fun q hq hs => ?_⟩
        by_cases e : q = k
        · subst e
          rcases hh with w | w
          · rw [w] at hs; exact absurd hs (by decide)
          · exact w
        · exact z q (by omega) hs
      · refine Or.inr ⟨u, c, u1, u2, u3, u4, fun q c' hq hs ht => ?_⟩
        by_cases e : q = k
        · subst e
          rcases hh with w | w
          · rw [w] at hs; exact absurd hs (by decide)
          · rw [w] at ht; cases ht
        · exact u5 q c' (by omega) hs ht
    cases hs : st k with
    | true =>
      rw [if_pos (show ¬ bz true = 0 by decide)]
      exact rest b (keep (Or.inl hs))
    | false =>
      rw [if_neg (show ¬ ¬ bz false = 0 from fun z => z rfl)]
      cases ht : tt k with
      | none =>
        rw [if_pos (show tOz none = -1 from rfl)]
        exact rest b (keep (Or.inr ht))
      | some c =>
        have hc := hb k c (by omega) ht
        rw [if_neg (show ¬ tOz (some c) = -1 from iN_m1 hc)]
        rcases hM with ⟨a, z⟩ | ⟨u, c0, u1, u2, u3, u4, u5⟩
        · rw [if_pos a]
          refine rest (iN k) (Or.inr ⟨k, c, by omega, rfl, hs, ht, fun q c' hq hs' ht' => ?_⟩)
          by_cases e : q = k
          · subst e; rw [ht] at ht'; cases ht'; exact Nat.le_refl c
          · rw [z q (by omega) hs'] at ht'; cases ht'
        · have hc0 := hb u c0 u1 u4
          rw [u2, if_neg (iN_m1 (by omega)), inb_t u1 (by omega), cond_true, iN_nat (by omega), h1 u u1, u4]
          by_cases le : c0 ≤ c
          · rw [if_pos (show tOz (some c0) ≤ tOz (some c) from (iN_le hc0 hc).mpr le), ← u2]
            refine rest b (Or.inr ⟨u, c0, u1, u2, u3, u4, fun q c' hq hs' ht' => ?_⟩)
            by_cases e : q = k
            · subst e; rw [ht] at ht'; cases ht'; exact le
            · exact u5 q c' (by omega) hs' ht'
          · rw [if_neg (show ¬ tOz (some c0) ≤ tOz (some c) from fun z => le ((iN_le hc0 hc).mp z))]
            refine rest (iN k) (Or.inr ⟨k, c, by omega, rfl, hs, ht, fun q c' hq hs' ht' => ?_⟩)
            by_cases e : q = k
            · subst e; rw [ht] at ht'; cases ht'; exact Nat.le_refl c
            · have := u5 q c' (by omega) hs' ht'; omega
theorem least_eq (x : XT) (S : ST) (tt : Nat → Option Nat) (st : Nat → Bool) (h1 : ∀ q, q < 120 → S.2.1 76 q = tOz (tt q)) (h2 : ∀ q, q < 120 → S.2.1 77 q = bz (st q)) (hb : ∀ q c, q < 120 → tt q = some c → c < 2147483648) : ∃ r, gfX6_cheapestUnsettled_54 x S = some (r, S) ∧ MinU tt st 120 r := by
  obtain ⟨r, r1, r2⟩ := least_loop x S tt st h1 h2 hb 120 0 20000 (-1) (by omega) (by omega) (Or.inl ⟨rfl, fun q hq => by omega⟩)
  exact ⟨r, r1, r2⟩
/-- some PLACE of a row is not settled, and is no dearer than the row -/
theorem front {R : RF} {f : Nat → Int32} {p G : Nat} {w : Nat → Nat → Nat} {gl : Nat → Bool} {tt : Nat → Option Nat} {st : Nat → Bool} (hg : ∀ q, q < 120 → st q = true → gl q = false) (hs : ∀ q, q < 120 → st q = true → ∃ c, tt q = some c ∧ ∀ g q', g < G → q' < 120 → nx R f p g q = iN q' → ∃ c', tt q' = some c' ∧ c' ≤ c + w g q) : ∀ (n q c c0 : Nat), q < 120 → Pt R f p G w gl n q c → (∃ a, tt q = some a ∧ a ≤ c0) → ∃ u a, u < 120 ∧ st u = false ∧ tt u = some a ∧ a ≤ c0 + c
  | 0, q, c, c0, hq, hp, ⟨a, a1, a2⟩ => by
    cases h : st q with
    | false => exact ⟨q, a, hq, h, a1, by omega⟩
    | true =>
      have e := hg q hq h
      have e2 : gl q = true := hp.1
      rw [e] at e2; exact absurd e2 (by decide)
  | n + 1, q, c, c0, hq, ⟨g, q', c', h1, h2, h3, h4, h5⟩, ⟨a, a1, a2⟩ => by
    cases h : st q with
    | false => exact ⟨q, a, hq, h, a1, by omega⟩
    | true =>
      obtain ⟨b, b1, b2⟩ := hs q hq h
      rw [a1] at b1
      cases b1
      obtain ⟨d, d1, d2⟩ := b2 g q' h1 h2 h3
      obtain ⟨u, v, r1, r2, r3, r4⟩ := front hg hs n q' c' (c0 + w g q) h2 h4 ⟨d, d1, by omega⟩
      exact ⟨u, v, r1, r2, r3, by omega⟩
end CHEAP
