section CHEAP3
def DJ (x : XT) (S : ST) (f : Nat → Int32) (R : RF) (p : Nat) (L : Nat → Nat) (s : Nat) (gl : Nat → Bool) (tt : Nat → Option Nat) (st : Nat → Bool) (k : Nat) : Prop :=
  BC x S f R p ∧ (∀ q, q < 120 → S.2.1 76 q = tOz (tt q)) ∧ (∀ q, q < 120 → S.2.1 77 q = bz (st q)) ∧ (∀ q a, q < 120 → tt q = some a → a ≤ 9 * k ∧ L s ≤ a + L q) ∧ tt s = some 0 ∧ cnt st 120 = k ∧ (∀ q, q < 120 → st q = true → gl q = false) ∧ (∀ q, q < 120 → st q = true → ∃ a, tt q = some a ∧ ∀ u b, u < 120 → st u = false → tt u = some b → a ≤ b)
def EOk (R : RF) (f : Nat → Int32) (p : Nat) (tt : Nat → Option Nat) (q g : Nat) : Prop := ∀ q', q' < 120 → nx R f p g q = iN q' → ∃ c', tt q' = some c' ∧ ∀ a, tt q = some a → c' ≤ a + wt R f p 1 g q
/-- while the GATES of pl are paid into, g of them already -/
def DP (x : XT) (S : ST) (f : Nat → Int32) (R : RF) (p G : Nat) (L : Nat → Nat) (s : Nat) (gl : Nat → Bool) (tt : Nat → Option Nat) (st : Nat → Bool) (k pl c g : Nat) : Prop :=
  DJ x S f R p L s gl tt st k ∧ (∀ q, q < 120 → st q = true → q ≠ pl → ∀ g', g' < G → EOk R f p tt q g') ∧ (∀ g', g' < g → EOk R f p tt pl g') ∧ tt pl = some c ∧ c + 9 ≤ 9 * k ∧ (∀ q a, q < 120 → st q = true → tt q = some a → a ≤ c) ∧ st pl = true
theorem pay_loop (x : XT) (f : Nat → Int32) (R : RF) (p G : Nat) (hp : p < 5) (hW : WF f) (hG : G ≤ 10) (h91 : f 91 = iN G) (L : Nat → Nat) (s : Nat) (hs : s < 120) (gl : Nat → Bool) (hO : ∀ q g, q < 120 → g < G → OkE R f p (wt R f p 1) L g q) (st : Nat → Bool) (k : Nat) (hk : k ≤ 120) (pl c : Nat) (hl : pl < 120) (k28 : ST → Int32 → Int32 → Int32 → Option (Int32 × ST)) (v1 v2 v3 : Int32) : ∀ (d g fuel : Nat) (S : ST) (tt : Nat → Option Nat), g + d = G → d < fuel → DP x S f R p G L s gl tt st k pl c g → ∃ S' tt', lfX6_leastToll_54_85 x k28 fuel S v1 v2 v3 (iN pl) (iN g) = k28 S' v1 v2 (v3 + 1) ∧ DJ x S' f R p L s gl tt' st k ∧ ∀ q, q < 120 → st q = true → ∀ g', g' < G → EOk R f p tt' q g'
  | 0, g, fuel, S, tt, hg, hf, hD => by
    obtain ⟨fuel, rfl⟩ : ∃ z, fuel = z + 1 := ⟨fuel - 1, by omega⟩
    have e : g = G := by omega
    subst e
    refine ⟨S, tt, ?_, hD.1, fun q hq h1 g' hg' => ?_⟩
    · rw [lfX6_leastToll_54_85, bfX6_leastToll_54_85, hD.1.1.2.1.1, h91, if_pos ((iN_le (by omega) (by omega)).mpr (Nat.le_refl g))]
    · by_cases e : q = pl
      · subst e; exact hD.2.2.1 g' hg'
      · exact hD.2.1 q hq h1 e g' hg'
  | d + 1, g, fuel, S, tt, hg, hf, hD => by
    obtain ⟨fuel, rfl⟩ : ∃ z, fuel = z + 1 := ⟨fuel - 1, by omega⟩
    obtain ⟨⟨j1, j2, j3, j4, j5, j6, j7, j8⟩, e1, e2, e3, e4, e5, e6⟩ := hD
    obtain ⟨S1, tt1, r1, r2, r3, r4, r5⟩ := pay_eq x S f R p hp hW j1 tt j2 (fun q c hq h => by have := (j4 q c hq h).1; omega) g pl c (by omega) hl e3
    rw [lfX6_leastToll_54_85, bfX6_leastToll_54_85, j1.2.1.1, h91, if_neg (fun z => by have := (iN_le (by omega) (by omega)).mp z; omega), r1]
    dsimp only
    rw [iN_succ]
    refine pay_loop x f R p G hp hW hG h91 L s hs gl hO st k hk pl c hl k28 v1 v2 v3 d (g + 1) fuel S1 tt1 (by omega) (by omega) ?_
    have h77 : ∀ q, q < 120 → S1.2.1 77 q = bz (st q) := fun q hq => by rw [r4]; exact j3 q hq
    have hw := wt_lt R f p 1 g pl
    -- nothing changed
    have same : tt1 = tt → EOk R f p tt pl g → DP x S1 f R p G L s gl tt1 st k pl c (g + 1) := by
      intro e ok
      subst e
      refine ⟨⟨r2, r3, h77, j4, j5, j6, j7, j8⟩, e1, fun g' hg' => ?_, e3, e4, e5, e6⟩
      by_cases z : g' = g
      · subst z; exact ok
      · exact e2 g' (by omega)
    rcases r5 with ⟨n1, n2⟩ | ⟨q', hq', n1, n2⟩
    · exact same n2 (fun q2 hq2 z => by rw [n1] at z; exact absurd z.symm (iN_m1 (by omega)))
    · have hne : ∀ q2, nx R f p g pl = iN q2 → q2 < 120 → q2 = q' := fun q2 z hq2 => (iN_eq (by omega) (by omega)).mp (z.symm.trans n1)
      by_cases hle : ∃ b, tt q' = some b ∧ b ≤ c + wt R f p 1 g pl
      · obtain ⟨b, b1, b2⟩ := hle
        refine same (by rw [n2, rlx, b1]; dsimp only; rw [if_pos b2]) (fun q2 hq2 z => ?_)
        have := hne q2 z hq2
        subst this
        refine ⟨b, b1, fun a ha => ?_⟩
        rw [e3] at ha
        cases ha
        exact b2
      · have n3 : tt1 = u1 tt q' (some (c + wt R f p 1 g pl)) := by
          rw [n2, rlx]
          cases hq : tt q' with
          | none => rfl
          | some b =>
            dsimp only
            rw [if_neg (fun z => hle ⟨b, hq, z⟩)]
        have us : st q' = false := by
          cases hq : st q' with
          | false => rfl
          | true =>
            obtain ⟨a, a1, a2⟩ := j8 q' hq' hq
            have := e5 q' a hq' hq a1
            exact absurd ⟨a, a1, by omega⟩ hle
        have old : ∀ q, q ≠ q' → tt1 q = tt q := fun q hq => by rw [n3, u1_n _ _ hq]
        have new : tt1 q' = some (c + wt R f p 1 g pl) := by rw [n3, u1_s]
        have sne : ∀ q, st q = true → q ≠ q' := fun q h1 h2 => by rw [h2, us] at h1; exact absurd h1 (by decide)
        have big : ∀ b, tt q' = some b → c + wt R f p 1 g pl < b := fun b hb => Nat.lt_of_not_le (fun z => hle ⟨b, hb, z⟩)
        have eok : ∀ q g', st q = true → EOk R f p tt q g' → EOk R f p tt1 q g' := by
          intro q g' h1 h2 q2 hq2 z
          obtain ⟨c', c1, c2⟩ := h2 q2 hq2 z
          rw [old q (sne q h1)]
          by_cases e : q2 = q'
          · subst e
            refine ⟨_, new, fun a ha => ?_⟩
            have := c2 a ha
            have := big c' c1
            omega
          · exact ⟨c', (old q2 e).trans c1, c2⟩
        refine ⟨⟨r2, r3, h77, fun q a hq ha => ?_, ?_, j6, j7, fun q hq h1 => ?_⟩, fun q hq h1 h2 g' hg' => eok q g' h1 (e1 q hq h1 h2 g' hg'), fun g' hg' => ?_, (old pl (sne pl e6)).trans e3, e4, fun q a hq h1 ha => ?_, e6⟩
        · by_cases e : q = q'
          · subst e
            rw [new] at ha
            cases ha
            have a1 := (j4 pl c hl e3).2
            have a2 := hO pl g hl (by omega) q hq n1
            omega
          · rw [old q e] at ha; exact j4 q a hq ha
        · have : s ≠ q' := fun z => by
            have := big 0 (by rw [← z]; exact j5)
            omega
          rw [old s this]; exact j5
        · obtain ⟨a, a1, a2⟩ := j8 q hq h1
          refine ⟨a, (old q (sne q h1)).trans a1, fun u b hu h2 hb => ?_⟩
          by_cases e : u = q'
          · subst e
            rw [new] at hb
            cases hb
            have := e5 q a hq h1 a1
            omega
          · rw [old u e] at hb; exact a2 u b hu h2 hb
        · by_cases z : g' = g
          · subst z
            intro q2 hq2 zz
            have := hne q2 zz hq2
            subst this
            refine ⟨_, new, fun a ha => ?_⟩
            rw [old pl (sne pl e6), e3] at ha
            cases ha
            exact Nat.le_refl _
          · exact eok pl g' e6 (e2 g' (by omega))
        · rw [old q (sne q h1)] at ha; exact e5 q a hq h1 ha
end CHEAP3
