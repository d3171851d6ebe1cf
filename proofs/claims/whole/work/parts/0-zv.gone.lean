section GONE2
theorem gone_out (x : XT) (f : Nat → Int32) (R : RF) (p G : Nat) (hp : p < 5) (hW : WF f) (hG : G ≤ 10) (h91 : f 91 = iN G) : ∀ (d i f1 f2 n : Nat) (S T : ST), i + d = 120 → d < f1 → d < f2 → i ≤ n → FI x S T f R p G n → ∃ S' T' n', lfX6_find_54_56 x f1 S (-1) (-1) (iN n) (iN i) = some (-1, S') ∧ lfX11_laysGone_130_43 x f2 T 0 (iN n) (iN i) = some ((), T') ∧ FI x S' T' f R p G n'
  | 0, i, f1, f2, n, S, T, hi, l1, l2, hn, hF => by
    obtain ⟨f1, rfl⟩ : ∃ z, f1 = z + 1 := ⟨f1 - 1, by omega⟩
    obtain ⟨f2, rfl⟩ : ∃ z, f2 = z + 1 := ⟨f2 - 1, by omega⟩
    have := hF.2.2.1
    have e := (iN_le (m := n) (n := i) (by omega) (by omega)).mpr (by omega)
    rw [lfX6_find_54_56, bfX6_find_54_56, if_pos e, lfX11_laysGone_130_43, bfX11_laysGone_130_43, if_pos e]
    exact ⟨S, T, n, rfl, rfl, hF⟩
  | d + 1, i, f1, f2, n, S, T, hi, l1, l2, hn, hF => by
    obtain ⟨f1, rfl⟩ : ∃ z, f1 = z + 1 := ⟨f1 - 1, by omega⟩
    obtain ⟨f2, rfl⟩ : ∃ z, f2 = z + 1 := ⟨f2 - 1, by omega⟩
    have h120 := hF.2.2.1
    rw [lfX6_find_54_56, bfX6_find_54_56, lfX11_laysGone_130_43, bfX11_laysGone_130_43]
    by_cases e : n ≤ i
    · have e := (iN_le (m := n) (n := i) (by omega) (by omega)).mpr (by omega)
      rw [if_pos e, if_pos e]
      exact ⟨S, T, n, rfl, rfl, hF⟩
    · have e2 : ¬ iN n ≤ iN i := fun z => e ((iN_le (by omega) (by omega)).mp z)
      obtain ⟨a, da, a1, a2, a3, a4, a5⟩ := hF.2.2.2.1 i (by omega)
      obtain ⟨S1, T1, n1, b1, b2, b3, b4⟩ := gone_in x f R p G hp hW hG h91 (lfX6_find_54_56 x f1) (lfX11_laysGone_130_43 x f2) i a a1 G 0 20000 20000 n S T (by omega) (by omega) (by omega) (by omega) a3 hF
      rw [show iN 0 = 0 from rfl] at b1 b2
      rw [if_neg e2, if_neg e2, if_neg (show ¬ (120 : Int32) ≤ iN i from fun z => by have := (iN_le (m := 120) (by omega) (by omega)).mp z; omega), inb_t (show i < 120 by omega) (by omega), cond_true, iN_nat (by omega), a3, div20 a a1, b1, b2]
      exact gone_out x f R p G hp hW hG h91 d (i + 1) f1 f2 n1 S1 T1 (by omega) (by omega) (by omega) (by omega) b4
theorem gone_init (x : XT) (s : Nat) (hs : s < 120) (v2 : Int32) : ∀ (d k fuel : Nat) (T : ST), k + d = 120 → d < fuel → (∀ q, q < k → T.2.1 148 q = if q = s then 0 else 1000000) → ∃ T', lfX11_laysGone_130_2 x fuel T (iN s) v2 (iN k) = lfX11_laysGone_130_43 x 20000 (T'.1, u2 T'.2.1 149 0 (iN s), T'.2.2.1, T'.2.2.2) v2 1 0 ∧ (∀ q, q < 120 → T'.2.1 148 q = if q = s then 0 else 1000000) ∧ Agr ([], [148], [], []) T T'
  | 0, k, fuel, T, hk, hf, h => by
    obtain ⟨fuel, rfl⟩ : ∃ z, fuel = z + 1 := ⟨fuel - 1, by omega⟩
    have e : k = 120 := by omega
    subst e
    rw [lfX11_laysGone_130_2, bfX11_laysGone_130_2, if_pos (show (120 : Int32) ≤ iN 120 by decide)]
    exact ⟨T, rfl, h, Agr.rf⟩
  | d + 1, k, fuel, T, hk, hf, h => by
    obtain ⟨fuel, rfl⟩ : ∃ z, fuel = z + 1 := ⟨fuel - 1, by omega⟩
    have go : ∀ v : Int32, v = (if k = s then 0 else 1000000) → ∃ T', lfX11_laysGone_130_2 x fuel (T.1, u2 T.2.1 148 k v, T.2.2.1, T.2.2.2) (iN s) v2 (iN (k + 1)) = lfX11_laysGone_130_43 x 20000 (T'.1, u2 T'.2.1 149 0 (iN s), T'.2.2.1, T'.2.2.2) v2 1 0 ∧ (∀ q, q < 120 → T'.2.1 148 q = if q = s then 0 else 1000000) ∧ Agr ([], [148], [], []) T T' := by
      intro v hv
      obtain ⟨T', r1, r2, r3⟩ := gone_init x s hs v2 d (k + 1) fuel (T.1, u2 T.2.1 148 k v, T.2.2.1, T.2.2.2) (by omega) (by omega) (fun q hq => by
        dsimp only
        by_cases e : q = k
        · subst e; rw [u2_s]; exact hv
        · rw [u2_k _ _ _ e]; exact h q (by omega))
      exact ⟨T', r1, r2, (Agr.i Agr.rf 148 k v (by decide)).tr r3⟩
    rw [lfX11_laysGone_130_2, bfX11_laysGone_130_2, if_neg (show ¬ (120 : Int32) ≤ iN k from fun z => by have := (iN_le (m := 120) (by omega) (by omega)).mp z; omega)]
    unfold bfX11_laysGone_130_24
    rw [inb_t (show k < 120 by omega) (by omega), cond_true, cond_true, iN_nat (by omega), iN_succ]
    by_cases e : k = s
    · rw [if_neg (fun z => z (by rw [e]))]
      exact go 0 (by rw [if_pos e])
    · rw [if_pos (show ¬ iN k = iN s from fun z => e ((iN_eq (by omega) (by omega)).mp z))]
      exact go 1000000 (by rw [if_neg e])
theorem cnt_none {Q : Nat → Bool} : ∀ {n : Nat}, (∀ j, j < n → Q j = false) → cnt Q n = 0
  | 0, _ => rfl
  | n + 1, h => by rw [cnt, cnt_none (fun j hj => h j (by omega)), h n (by omega)]; rfl
theorem all_eq (x : XT) (f : Nat → Int32) (R : RF) (p G : Nat) (hp : p < 5) (hW : WF f) (hG : G ≤ 10) (h91 : f 91 = iN G) (S T : ST) (hS : BC x S f R p) (hT : BR T f R p G) : ∃ S' T' n, gfX6_findAll_54 x S = some ((), S') ∧ gfX11_laysGone_130 x T (iN (pl0 f p)) 0 = some ((), T') ∧ FI x S' T' f R p G n := by
  have hs := pl0_lt hW p hp
  obtain ⟨S1, c1, c2⟩ := fill72 x S (-1)
  have b1 := frJ7_fill_53178_72 x _ _ _ _ c1
  have hS1 : BC x S1 f R p := hS.cg (b1.sm (by decide)) (b1.1 54 2 (by decide)) (b1.2.1 70 (by decide))
  obtain ⟨T1, d1, d2, d3⟩ := gone_init x (pl0 f p) hs 0 120 0 20000 T (by omega) (by omega) (fun q hq => by omega)
  generalize hp0 : pl0 f p = s at *
  have aS : Agr ([], [71, 72], [], []) S1 (S1.1, u2 (u2 S1.2.1 71 0 (iN s)) 72 s 0, S1.2.2.1, S1.2.2.2) := Agr.i (S1 := (S1.1, u2 S1.2.1 71 0 (iN s), S1.2.2.1, S1.2.2.2)) (Agr.i Agr.rf 71 0 _ (by decide)) 72 s 0 (by decide)
  have aT : Agr ([], [148, 149], [], []) T (T1.1, u2 T1.2.1 149 0 (iN s), T1.2.2.1, T1.2.2.2) := Agr.i (d3.sub (by decide)) 149 0 _ (by decide)
  have s72 : (u2 (u2 S1.2.1 71 0 (iN s)) 72 s 0) 72 = u1 (S1.2.1 72) s 0 := by rw [u2_row, u2_ro _ _ _ (by decide)]
  have s71 : (u2 (u2 S1.2.1 71 0 (iN s)) 72 s 0) 71 0 = iN s := by rw [u2_ro _ _ _ (by decide), u2_s]
  have hF : FI x (S1.1, u2 (u2 S1.2.1 71 0 (iN s)) 72 s 0, S1.2.2.1, S1.2.2.2) (T1.1, u2 T1.2.1 149 0 (iN s), T1.2.2.1, T1.2.2.2) f R p G 1 := by
    refine ⟨hS1.cg (aS.sm (by decide)) rfl (aS.2.1 70 (by decide)), ⟨(aT.2.1 132 (by decide)).trans hT.1, fun g m hg hm => by rw [aT.2.1 145 (by decide), aT.2.1 146 (by decide)]; exact hT.2 g m hg hm⟩, by omega, fun j hj => ?_, fun q hq => ?_, ?_⟩
    · have ej : j = 0 := by omega
      subst ej
      refine ⟨s, 0, hs, by omega, s71, u2_s T1.2.1 149 0 _, ?_⟩
      dsimp only
      rw [s72, u1_s]; rfl
    · dsimp only
      rw [s72, u2_ro _ _ _ (by decide), d2 q hq]
      by_cases e : q = s
      · rw [e, u1_s, if_pos rfl]; exact Or.inr ⟨0, by omega, rfl, rfl⟩
      · rw [u1_n _ _ e, if_neg e, c2 q hq]; exact Or.inl ⟨rfl, rfl⟩
    · dsimp only
      refine (cnt_eq (Q := fun q1 => decide (¬ u1 (S1.2.1 72) s 0 q1 = -1)) (fun j _ => by simp only [s72])).trans ?_
      have z : cnt (fun q => decide (¬ q = q)) 120 = 0 := cnt_none (fun j _ => by simp)
      have w := cnt_flip (Q := fun q1 => decide (¬ u1 (S1.2.1 72) s 0 q1 = -1)) (Q' := fun q1 => decide (¬ u1 (u1 (S1.2.1 72) s 0) s (-1) q1 = -1)) (n := 120) (k := s) hs (by rw [u1_s]; decide) (by rw [u1_s]; decide) (fun j hj => by rw [u1_n _ _ hj])
      rw [← w, cnt_none (fun j hj => ?_)]
      by_cases e : j = s
      · rw [e, u1_s]; decide
      · rw [u1_n _ _ e, u1_n _ _ e, c2 j hj]; decide
  obtain ⟨S', T', n, r1, r2, r3⟩ := gone_out x f R p G hp hW hG h91 120 0 20000 20000 1 _ _ (by omega) (by omega) (by omega) (by omega) hF
  rw [show iN 0 = 0 from rfl, show iN 1 = 1 from rfl] at r1 r2
  rw [show iN 0 = 0 from rfl] at d1
  refine ⟨S', T', n, ?_, ?_, r3⟩
  · unfold gfX6_findAll_54 bfX6_findAll_54_0 gfX6_find_54 bfX6_find_54_0
    rw [c1]
    dsimp only
    rw [start_eq x S1 f R p hp hW hS1, hp0]
    dsimp only
    rw [inb_t hs (by omega), cond_true, iN_nat (by omega), isAt_eq x _ s hs, bG_none s hs]
    dsimp only
    rw [if_pos (show bz false = 0 from rfl), r1]
  · show lfX11_laysGone_130_2 x 20000 T (iN s) 0 0 = _
    rw [d1, r2]
end GONE2
