section FIND3
theorem find_out (x : XT) (f : Nat → Int32) (R : RF) (p G : Nat) (hp : p < 5) (hW : WF f) (hG : G ≤ 10) (h91 : f 91 = iN G) (s : Nat) (b c : Int32) : ∀ (d i f1 n : Nat) (S : ST) (Q P H D : Nat → Nat), i + d = 120 → d < f1 → i ≤ n → FG x S f R p G s (fun q => bG q b c) Q P H D n (10 * i) → (∃ S' Q' P' H' D' n', lfX6_find_54_56 x f1 S b c (iN n) (iN i) = some (-1, S') ∧ FG x S' f R p G s (fun q => bG q b c) Q' P' H' D' n' (10 * n')) ∨ ∃ S' t, lfX6_find_54_56 x f1 S b c (iN n) (iN i) = some (iN t, S') ∧ FD x S' f R p G s (fun q => bG q b c) t
  | 0, i, f1, n, S, Q, P, H, D, hi, l1, hn, hF => by
    obtain ⟨f1, rfl⟩ : ∃ z, f1 = z + 1 := ⟨f1 - 1, by omega⟩
    have := hF.2.1
    have e : i = n := by omega
    subst e
    refine Or.inl ⟨S, Q, P, H, D, i, ?_, hF⟩
    rw [lfX6_find_54_56, bfX6_find_54_56, if_pos ((iN_le (by omega) (by omega)).mpr (Nat.le_refl i)), bfX6_find_54_236]
  | d + 1, i, f1, n, S, Q, P, H, D, hi, l1, hn, hF => by
    obtain ⟨f1, rfl⟩ : ∃ z, f1 = z + 1 := ⟨f1 - 1, by omega⟩
    have h120 := hF.2.1
    rw [lfX6_find_54_56, bfX6_find_54_56]
    by_cases e : n ≤ i
    · have e : i = n := by omega
      subst e
      rw [if_pos ((iN_le (by omega) (by omega)).mpr (Nat.le_refl i)), bfX6_find_54_236]
      exact Or.inl ⟨S, Q, P, H, D, i, rfl, hF⟩
    · obtain ⟨a1, a3, -⟩ := hF.2.2.1 i (by omega)
      rw [if_neg (fun z => e ((iN_le (by omega) (by omega)).mp z)), if_neg (show ¬ (120 : Int32) ≤ iN i from fun z => by have := (iN_le (m := 120) (by omega) (by omega)).mp z; omega), inb_t (show i < 120 by omega) (by omega), cond_true, iN_nat (by omega), a3, div20 _ a1]
      have fi := find_in x f R p G hp hW hG h91 s b c (lfX6_find_54_56 x f1) i (Q i) G 0 20000 n S Q P H D (by omega) (by omega) (by omega) rfl hF
      rw [show iN 0 = 0 from rfl] at fi
      rcases fi with ⟨S1, Q1, P1, H1, D1, n1, b1, b2, b3⟩ | ⟨S1, t, b1, b2⟩
      · rw [b1]
        exact find_out x f R p G hp hW hG h91 s b c d (i + 1) f1 n1 S1 Q1 P1 H1 D1 (by omega) (by omega) (by omega) b3
      · rw [b1]
        exact Or.inr ⟨S1, t, rfl, b2⟩
end FIND3
