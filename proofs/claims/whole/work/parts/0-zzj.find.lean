section FIND
def FG (x : XT) (S : ST) (f : Nat → Int32) (R : RF) (p G s : Nat) (gl : Nat → Bool) (Q P H D : Nat → Nat) (n e : Nat) : Prop :=
  BC x S f R p ∧ (1 ≤ n ∧ n ≤ 120) ∧ (∀ j, j < n → Q j < 120 ∧ S.2.1 71 j = iN (Q j) ∧ S.2.1 72 (Q j) = iN (D j) ∧ D j < n ∧ gl (Q j) = false) ∧ (∀ q, q < 120 → S.2.1 72 q = -1 ∨ ∃ j, j < n ∧ Q j = q) ∧ cnt (fun q => decide (¬ S.2.1 72 q = -1)) 120 = n ∧ (Q 0 = s ∧ D 0 = 0) ∧
  (∀ j, 0 < j → j < n → P j < j ∧ H j < G ∧ nx R f p (H j) (Q (P j)) = iN (Q j) ∧ D j = D (P j) + 1 ∧ S.2.1 73 (Q j) = iN (H j) ∧ S.2.1 74 (Q j) = iN (Q (P j)) ∧ 10 * P j + H j < e) ∧ (∀ j j', 0 < j → j < j' → j' < n → 10 * P j + H j < 10 * P j' + H j') ∧
  (∀ e' q, e' < e → e' % 10 < G → e' / 10 < n → q < 120 → nx R f p (e' % 10) (Q (e' / 10)) = iN q → ∃ j, j < n ∧ Q j = q ∧ (j = 0 ∨ 10 * P j + H j ≤ e'))
/-- nothing new over GATE g of entry i -/
theorem FG.skip {x : XT} {S : ST} {f : Nat → Int32} {R : RF} {p G s : Nat} {gl : Nat → Bool} {Q P H D : Nat → Nat} {n i g : Nat} (h : FG x S f R p G s gl Q P H D n (10 * i + g)) (hg : g < 10) (hk : ∀ q, q < 120 → nx R f p g (Q i) = iN q → ∃ j, j < n ∧ Q j = q) : FG x S f R p G s gl Q P H D n (10 * i + (g + 1)) := by
  obtain ⟨h1, h2, h3, h4, h5, h6, h7, h8, h9⟩ := h
  refine ⟨h1, h2, h3, h4, h5, h6, fun j a b => ?_, h8, fun e' q a b c d w => ?_⟩
  · obtain ⟨r1, r2, r3, r4, r5, r6, r7⟩ := h7 j a b
    exact ⟨r1, r2, r3, r4, r5, r6, by omega⟩
  · by_cases e : e' = 10 * i + g
    · subst e
      rw [show (10 * i + g) % 10 = g by omega, show (10 * i + g) / 10 = i by omega] at w
      obtain ⟨j, j1, j2⟩ := hk q d w
      refine ⟨j, j1, j2, ?_⟩
      rcases Nat.eq_zero_or_pos j with z | z
      · exact Or.inl z
      · have := (h7 j z j1).2.2.2.2.2.2
        exact Or.inr (by omega)
    · exact h9 e' q (by omega) b c d w
theorem FG.next {x : XT} {S : ST} {f : Nat → Int32} {R : RF} {p G s : Nat} {gl : Nat → Bool} {Q P H D : Nat → Nat} {n i : Nat} (h : FG x S f R p G s gl Q P H D n (10 * i + G)) (hG : G ≤ 10) : FG x S f R p G s gl Q P H D n (10 * (i + 1)) := by
  obtain ⟨h1, h2, h3, h4, h5, h6, h7, h8, h9⟩ := h
  refine ⟨h1, h2, h3, h4, h5, h6, fun j a b => ?_, h8, fun e' q a b c d w => h9 e' q (by omega) b c d w⟩
  obtain ⟨r1, r2, r3, r4, r5, r6, r7⟩ := h7 j a b
  exact ⟨r1, r2, r3, r4, r5, r6, by omega⟩
theorem FG.cc {x : XT} {S S1 : ST} {f : Nat → Int32} {R : RF} {p G s : Nat} {gl : Nat → Bool} {Q P H D : Nat → Nat} {n e : Nat} (h : FG x S f R p G s gl Q P H D n e) (hB : BC x S1 f R p) (a : Agr ([], [21, 22, 70], [], []) S S1) : FG x S1 f R p G s gl Q P H D n e := by
  obtain ⟨h1, h2, h3, h4, h5, h6, h7, h8, h9⟩ := h
  refine ⟨hB, h2, ?_, ?_, ?_, h6, ?_, h8, h9⟩
  · rw [a.2.1 71 (by decide), a.2.1 72 (by decide)]; exact h3
  · rw [a.2.1 72 (by decide)]; exact h4
  · rw [a.2.1 72 (by decide)]; exact h5
  · rw [a.2.1 73 (by decide), a.2.1 74 (by decide)]; exact h7
/-- entry n is found over GATE g of entry i -/
theorem FG.more {x : XT} {S : ST} {f : Nat → Int32} {R : RF} {p G s : Nat} {gl : Nat → Bool} {Q P H D : Nat → Nat} {n i g q : Nat} (h : FG x S f R p G s gl Q P H D n (10 * i + g)) (hi : i < n) (hg : g < G) (hG : G ≤ 10) (hq : q < 120) (e : S.2.1 72 q = -1) (hn : nx R f p g (Q i) = iN q) (hgl : gl q = false) : FG x (S.1, u2 (u2 (u2 (u2 S.2.1 72 q (iN (D i + 1))) 73 q (iN g)) 74 q (iN (Q i))) 71 n (iN q), S.2.2.1, S.2.2.2) f R p G s gl (u1 Q n q) (u1 P n i) (u1 H n g) (u1 D n (D i + 1)) (n + 1) (10 * i + (g + 1)) := by
  obtain ⟨h1, h2, h3, h4, h5, h6, h7, h8, h9⟩ := h
  have aS : Agr ([], [71, 72, 73, 74], [], []) S (S.1, u2 (u2 (u2 (u2 S.2.1 72 q (iN (D i + 1))) 73 q (iN g)) 74 q (iN (Q i))) 71 n (iN q), S.2.2.1, S.2.2.2) := Agr.i (S1 := (S.1, u2 (u2 (u2 S.2.1 72 q (iN (D i + 1))) 73 q (iN g)) 74 q (iN (Q i)), S.2.2.1, S.2.2.2)) (Agr.i (S1 := (S.1, u2 (u2 S.2.1 72 q (iN (D i + 1))) 73 q (iN g), S.2.2.1, S.2.2.2)) (Agr.i (S1 := (S.1, u2 S.2.1 72 q (iN (D i + 1)), S.2.2.1, S.2.2.2)) (Agr.i Agr.rf 72 q _ (by decide)) 73 q _ (by decide)) 74 q _ (by decide)) 71 n _ (by decide)
  have s72 : (u2 (u2 (u2 (u2 S.2.1 72 q (iN (D i + 1))) 73 q (iN g)) 74 q (iN (Q i))) 71 n (iN q)) 72 = u1 (S.2.1 72) q (iN (D i + 1)) := by
    rw [u2_ro _ _ _ (by decide), u2_ro _ _ _ (by decide), u2_ro _ _ _ (by decide), u2_row]
  have s71 : (u2 (u2 (u2 (u2 S.2.1 72 q (iN (D i + 1))) 73 q (iN g)) 74 q (iN (Q i))) 71 n (iN q)) 71 = u1 (S.2.1 71) n (iN q) := by
    rw [u2_row, u2_ro _ _ _ (by decide), u2_ro _ _ _ (by decide), u2_ro _ _ _ (by decide)]
  have s73 : (u2 (u2 (u2 (u2 S.2.1 72 q (iN (D i + 1))) 73 q (iN g)) 74 q (iN (Q i))) 71 n (iN q)) 73 = u1 (S.2.1 73) q (iN g) := by
    rw [u2_ro _ _ _ (by decide), u2_ro _ _ _ (by decide), u2_row, u2_ro _ _ _ (by decide)]
  have s74 : (u2 (u2 (u2 (u2 S.2.1 72 q (iN (D i + 1))) 73 q (iN g)) 74 q (iN (Q i))) 71 n (iN q)) 74 = u1 (S.2.1 74) q (iN (Q i)) := by
    rw [u2_ro _ _ _ (by decide), u2_row, u2_ro _ _ _ (by decide), u2_ro _ _ _ (by decide)]
  have hn120 : n < 120 := by
    rw [← h5]
    exact cnt_lt hq (by simp [e])
  have qne : ∀ j, j < n → Q j ≠ q := fun j hj z => by
    have := (h3 j hj).2.2.1
    have hd := (h3 j hj).2.2.2.1
    rw [z, e] at this
    exact iN_m1 (by omega) this.symm
  have dI := (h3 i hi).2.2.2.1
  refine ⟨h1.cg (aS.sm (by decide)) rfl (aS.2.1 70 (by decide)), by omega, fun j hj => ?_, fun q' hq' => ?_, ?_, ?_, fun j a b => ?_, fun j j' a b c => ?_, fun e' q' a b c d w => ?_⟩
  · dsimp only
    rw [s71, s72]
    by_cases ej : j = n
    · subst ej
      rw [u1_s, u1_s, u1_s, u1_s]
      exact ⟨hq, rfl, rfl, by omega, hgl⟩
    · obtain ⟨r1, r2, r3, r4, r5⟩ := h3 j (by omega)
      rw [u1_n _ _ ej, u1_n _ _ ej, u1_n _ _ (qne j (by omega)), u1_n _ _ ej]
      exact ⟨r1, r2, r3, by omega, r5⟩
  · dsimp only
    rw [s72]
    by_cases eq : q' = q
    · subst eq
      exact Or.inr ⟨n, by omega, u1_s _ _ _⟩
    · rw [u1_n _ _ eq]
      rcases h4 q' hq' with z | ⟨j, z1, z2⟩
      · exact Or.inl z
      · exact Or.inr ⟨j, by omega, by rw [u1_n _ _ (by omega)]; exact z2⟩
  · dsimp only
    refine (cnt_eq (Q := fun q1 => decide (¬ u1 (S.2.1 72) q (iN (D i + 1)) q1 = -1)) (fun j _ => by simp only [s72])).trans ?_
    rw [← h5]
    refine (cnt_flip (k := q) hq ?_ ?_ (fun j hj => ?_)).symm
    · rw [u1_s]; exact decide_eq_true (iN_m1 (by omega))
    · simp [e]
    · rw [u1_n _ _ hj]
  · rw [u1_n _ _ (by omega), u1_n _ _ (by omega)]; exact h6
  · dsimp only
    rw [s73, s74]
    by_cases ej : j = n
    · subst ej
      rw [u1_s, u1_s, u1_s, u1_s, u1_n Q _ (by omega), u1_n D _ (by omega), u1_s, u1_s]
      exact ⟨hi, hg, hn, rfl, rfl, rfl, by omega⟩
    · obtain ⟨r1, r2, r3, r4, r5, r6, r7⟩ := h7 j a (by omega)
      rw [u1_n P _ ej, u1_n H _ ej, u1_n Q _ ej, u1_n D _ ej, u1_n Q _ (by omega), u1_n D _ (by omega), u1_n _ _ (qne j (by omega)), u1_n _ _ (qne j (by omega))]
      exact ⟨r1, r2, r3, r4, r5, r6, by omega⟩
  · by_cases ej : j' = n
    · subst ej
      rw [u1_s, u1_s, u1_n P _ (by omega), u1_n H _ (by omega)]
      exact (h7 j a (by omega)).2.2.2.2.2.2
    · rw [u1_n P _ (by omega), u1_n H _ (by omega), u1_n P _ (by omega), u1_n H _ (by omega)]
      exact h8 j j' a b (by omega)
  · by_cases ee : e' = 10 * i + g
    · subst ee
      rw [show (10 * i + g) % 10 = g by omega, show (10 * i + g) / 10 = i by omega, u1_n Q _ (by omega), hn] at w
      have : q = q' := (iN_eq (by omega) (by omega)).mp w
      subst this
      exact ⟨n, by omega, u1_s _ _ _, Or.inr (by rw [u1_s, u1_s]; omega)⟩
    · rw [u1_n Q _ (by omega)] at w
      obtain ⟨j, j1, j2, j3⟩ := h9 e' q' (by omega) b (by omega) d w
      exact ⟨j, by omega, by rw [u1_n Q _ (by omega)]; exact j2, by rw [u1_n P _ (by omega), u1_n H _ (by omega)]; exact j3⟩
end FIND
