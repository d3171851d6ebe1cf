section FIND2
/-- a goal t is found over GATE g of entry i -/
def FD (x : XT) (S' : ST) (f : Nat → Int32) (R : RF) (p G s : Nat) (gl : Nat → Bool) (t : Nat) : Prop := ∃ S Q P H D n i g, FG x S f R p G s gl Q P H D n (10 * i + g) ∧ i < n ∧ g < G ∧ t < 120 ∧ nx R f p g (Q i) = iN t ∧ S.2.1 72 t = -1 ∧ gl t = true ∧ S' = (S.1, u2 (u2 (u2 S.2.1 72 t (iN (D i + 1))) 73 t (iN g)) 74 t (iN (Q i)), S.2.2.1, S.2.2.2)
theorem find_in (x : XT) (f : Nat → Int32) (R : RF) (p G : Nat) (hp : p < 5) (hW : WF f) (hG : G ≤ 10) (h91 : f 91 = iN G) (s : Nat) (b c : Int32) (k56 : ST → Int32 → Int32 → Int32 → Int32 → Option (Int32 × ST)) (i a : Nat) : ∀ (d g f1 n : Nat) (S : ST) (Q P H D : Nat → Nat), g + d = G → d < f1 → i < n → Q i = a → FG x S f R p G s (fun q => bG q b c) Q P H D n (10 * i + g) → (∃ S' Q' P' H' D' n', lfX6_find_54_84 x k56 f1 S b c (iN n) (iN i) (iN (a / 20)) (iN g) = k56 S' b c (iN n') (iN (i + 1)) ∧ i < n' ∧ FG x S' f R p G s (fun q => bG q b c) Q' P' H' D' n' (10 * (i + 1))) ∨ ∃ S' t, lfX6_find_54_84 x k56 f1 S b c (iN n) (iN i) (iN (a / 20)) (iN g) = some (iN t, S') ∧ FD x S' f R p G s (fun q => bG q b c) t
  | 0, g, f1, n, S, Q, P, H, D, hg, l1, hi, hq, hF => by
    obtain ⟨f1, rfl⟩ : ∃ z, f1 = z + 1 := ⟨f1 - 1, by omega⟩
    have e : g = G := by omega
    subst e
    refine Or.inl ⟨S, Q, P, H, D, n, ?_, hi, hF.next hG⟩
    rw [lfX6_find_54_84, bfX6_find_54_84, hF.1.2.1.1, h91, if_pos ((iN_le (by omega) (by omega)).mpr (by omega)), iN_succ]
  | d + 1, g, f1, n, S, Q, P, H, D, hg, l1, hi, hq, hF => by
    obtain ⟨f1, rfl⟩ : ∃ z, f1 = z + 1 := ⟨f1 - 1, by omega⟩
    have hn := hF.2.1
    obtain ⟨a1, a3, a5, a2, a6⟩ := hF.2.2.1 i hi
    have n91 : ¬ iN G ≤ iN g := fun q => by have := (iN_le (by omega) (by omega)).mp q; omega
    have i120 : inb (iN i) 120 = true := inb_t (by omega) (by omega)
    have hC : ∃ S1, bfX6_find_54_84 x k56 (lfX6_find_54_84 x k56 f1) S b c (iN n) (iN i) (iN (a / 20)) (iN g) = bfX6_find_54_128 x k56 (lfX6_find_54_84 x k56 f1) S1 b c (iN n) (iN i) (iN (a / 20)) (iN g) (nx R f p g (Q i)) ∧ BC x S1 f R p ∧ Agr ([], [21, 22, 70], [], []) S S1 := by
      have k1 : S.2.1 56 g = f (36 + g) := (hF.1.2.1.2.2.2.2.2.1 g (by omega)).1
      rw [bfX6_find_54_84, hF.1.2.1.1, h91, if_neg n91, inb_t (show g < 10 by omega) (by omega), cond_true, iN_nat (by omega), k1, i120, cond_true, iN_nat (by omega), a3]
      by_cases c1 : f (36 + g) = iN (a / 20)
      · obtain ⟨S1, b1, b2, b3⟩ := behind_eq x S f R p hp hW hF.1 g (Q i) (by omega) a1
        rw [if_neg (fun z => z c1), b1]
        exact ⟨S1, rfl, b2, b3⟩
      · rw [if_pos c1]
        exact ⟨S, by unfold nx; rw [hq, if_neg (fun z => c1 z.1)], hF.1, Agr.rf⟩
    obtain ⟨S1, c1, c2, c3⟩ := hC
    have hF1 := hF.cc c2 c3
    obtain ⟨-, e71, e72, -, -⟩ := hF1.2.2.1 i hi
    rw [lfX6_find_54_84, c1]
    unfold bfX6_find_54_128 bfX6_find_54_224
    rw [iN_succ]
    have rest := fun S2 Q2 P2 H2 D2 n2 h2 h3 h4 => find_in x f R p G hp hW hG h91 s b c k56 i a d (g + 1) f1 n2 S2 Q2 P2 H2 D2 (by omega) (by omega) h2 h3 h4
    rcases nx_in hW p g (Q i) (R := R) (by omega) with en | ⟨q, hq2, en⟩
    · rw [if_pos en]
      exact rest S1 Q P H D n hi hq (hF1.skip (by omega) (fun q hq z => by rw [en] at z; exact absurd z.symm (iN_m1 (by omega))))
    · rw [en, if_neg (iN_m1 (by omega)), inb_t hq2 (by omega)]
      simp only [cond_true]
      rw [iN_nat (show q < 2147483648 by omega)]
      rcases hF1.2.2.2.1 q hq2 with z1 | ⟨jq, z1, z2⟩
      · have hn2 : n < 120 := by
          rw [← hF1.2.2.2.2.1]
          exact cnt_lt hq2 (by simp [z1])
        rw [if_neg (fun z => z z1), if_pos (show iN n < 120 from (iN_lt (n := 120) (by omega) (by omega)).mpr hn2), i120, iN_nat (show i < 2147483648 by omega), e71, inb_t a1 (by omega), inb_t hn2 (by omega)]
        simp only [cond_true]
        rw [iN_nat (show Q i < 2147483648 by omega), e72, iN_succ (D i), iN_succ n, iN_nat (show n < 2147483648 by omega), isAt_eq x _ q hq2]
        dsimp only
        cases hb : bG q b c with
        | true =>
          rw [if_neg (show ¬ bz true = 0 by decide)]
          exact Or.inr ⟨_, q, rfl, S1, Q, P, H, D, n, i, g, hF1, hi, by omega, hq2, en, z1, hb, rfl⟩
        | false =>
          rw [if_pos (show bz false = 0 from rfl)]
          exact rest _ _ _ _ _ (n + 1) (by omega) (by rw [u1_n Q _ (by omega)]; exact hq) (hF1.more hi (by omega) hG hq2 z1 en hb)
      · have dq := hF1.2.2.1 jq z1
        rw [if_pos (show ¬ S1.2.1 72 q = -1 from fun z => by rw [← z2, dq.2.2.1] at z; exact iN_m1 (by omega) z)]
        exact rest S1 Q P H D n hi hq (hF1.skip (by omega) (fun q' hq' z => ⟨jq, z1, by rw [z2]; exact (iN_eq (by omega) (by omega)).mp (en.symm.trans z)⟩))
end FIND2
