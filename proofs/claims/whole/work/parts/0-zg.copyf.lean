section COPYF
theorem cp1 {α : Type} {A : Nat → Nat → α} {B : Nat → α} {c k : Nat} {v : α} (h : ∀ j, j < k → A c j = B j) (hv : v = B k) : ∀ j, j < k + 1 → u2 A c k v c j = B j := by
  intro j hj
  rw [u2_row, u1_if]
  by_cases q : j = k
  · rw [if_pos q, q, hv]
  · rw [if_neg q]; exact h j (by omega)
theorem nar_b {v : Int32} (h : inb v 2 = true) : vp_nar .boolean v = v := by
  obtain ⟨k, hk, rfl⟩ := inb_ex h
  rcases (show k = 0 ∨ k = 1 by omega) with rfl | rfl <;> rfl
/-- of what was copied so far -/
def CI (S S1 : ST) (o s a b c d e : Nat) : Prop :=
  (S1.1 o 0 = S.1 s 0 ∧ S1.1 o 6 = S.1 s 6 ∧ S1.1 o 11 = S.1 s 11 ∧ S1.1 o 16 = S.1 s 16 ∧ S1.1 o 18 = S.1 s 18) ∧
  (∀ i, 1 ≤ i → i ≤ 5 → ∀ j, j < a → S1.2.1 (o + i) j = S.2.1 (s + i) j) ∧ (∀ i, 6 ≤ i → i ≤ 9 → ∀ j, j < b → S1.2.1 (o + i) j = S.2.1 (s + i) j) ∧ (∀ i, 10 ≤ i → i ≤ 12 → ∀ j, j < c → S1.2.1 (o + i) j = S.2.1 (s + i) j) ∧ (∀ j, j < d → S1.2.1 (o + 13) j = S.2.1 (s + 13) j) ∧ (∀ j, j < e → S1.2.2.2 (o + 14) j = S.2.2.2 (s + 14) j) ∧
  (∀ i, 1 ≤ i → i ≤ 13 → S1.2.1 (s + i) = S.2.1 (s + i)) ∧ S1.2.2.2 (s + 14) = S.2.2.2 (s + 14)
theorem CI.ka {S S1 : ST} {o s : Nat} {f : Nat → Int32} (h : CI S S1 o s 10 5 6 3 6) (hK : KA S s f) : KA S1 o f := by
  obtain ⟨⟨e0, e6, e11, e16, e18⟩, h1, h2, h3, h4, -, -, -⟩ := h
  obtain ⟨k0, k6, k11, k16, k18, kg, kp, ks, t0, t1, t2⟩ := hK
  refine ⟨e0.trans k0, e6.trans k6, e11.trans k11, e16.trans k16, e18.trans k18, fun g hg => ?_, fun p hp => ?_, fun q hq => ?_, (h4 0 (by omega)).trans t0, (h4 1 (by omega)).trans t1, (h4 2 (by omega)).trans t2⟩
  · obtain ⟨a1, a2, a3, a4, a5⟩ := kg g hg
    exact ⟨(h1 1 (by omega) (by omega) g hg).trans a1, (h1 2 (by omega) (by omega) g hg).trans a2, (h1 3 (by omega) (by omega) g hg).trans a3, (h1 4 (by omega) (by omega) g hg).trans a4, (h1 5 (by omega) (by omega) g hg).trans a5⟩
  · obtain ⟨a1, a2, a3, a4⟩ := kp p hp
    exact ⟨(h2 6 (by omega) (by omega) p hp).trans a1, (h2 7 (by omega) (by omega) p hp).trans a2, (h2 8 (by omega) (by omega) p hp).trans a3, (h2 9 (by omega) (by omega) p hp).trans a4⟩
  · obtain ⟨a1, a2, a3⟩ := ks q hq
    exact ⟨(h3 10 (by omega) (by omega) q hq).trans a1, (h3 11 (by omega) (by omega) q hq).trans a2, (h3 12 (by omega) (by omega) q hq).trans a3⟩
theorem CI.rk {x : XT} {S S1 : ST} {o s : Nat} {f : Nat → Int32} (h : CI S S1 o s 10 5 6 3 6) (hK : RK x S s f) (hs : ∀ a, 158 ≤ a → S1.1 a = S.1 a ∧ S1.2.1 a = S.2.1 a) : RK x S1 o f := by
  refine ⟨h.ka hK.1, hK.2.1, ?_, ?_⟩
  · intro l hl
    rw [h.2.2.2.2.2.1 l hl]; exact hK.2.2.1 l hl
  · intro l L e1 e2 e3
    obtain ⟨t, N, C, V, dS, dT, q1, q2, q3⟩ := hK.2.2.2 l L e1 e2 e3
    exact ⟨t, N, C, V, dS, dT, (h.2.2.2.2.2.1 l (by omega)).trans q1, q2, q3.cg hs (fun _ _ => ⟨rfl, rfl⟩)⟩
theorem cpl252_35_1 (x : XT) (S : ST) (hq : ∀ l, l < 6 → qk x (S.2.2.2 15 l) = true) (ho : ∀ g, g < 10 → inb (S.2.1 6 g) 2 = true) : ∀ (m k fuel : Nat) (S1 : ST), k + m = 6 → m < fuel → CI S S1 35 1 10 5 6 3 k → ∃ S2, lfX7_copyFrom_35_1_252 x fuel S1 (iN k) = some ((), S2) ∧ CI S S2 35 1 10 5 6 3 6
  | 0, k, fuel, S1, hk, hf, h => by
    obtain ⟨fuel, rfl⟩ : ∃ z, fuel = z + 1 := ⟨fuel - 1, by omega⟩
    have : k = 6 := by omega
    subst this
    rw [lfX7_copyFrom_35_1_252, bfX7_copyFrom_35_1_252, if_pos (show (6 : Int32) ≤ iN 6 by decide)]
    exact ⟨S1, rfl, h⟩
  | m + 1, k, fuel, S1, hk, hf, h => by
    obtain ⟨fuel, rfl⟩ : ∃ z, fuel = z + 1 := ⟨fuel - 1, by omega⟩
    obtain ⟨h0, h1, h2, h3, h4, h5, h6, h7⟩ := h
    rw [lfX7_copyFrom_35_1_252, bfX7_copyFrom_35_1_252, if_neg (show ¬ (6 : Int32) ≤ iN k from fun hh => by have := (iN_le (m := 6) (by omega) (by omega)).mp hh; omega), inb_t (show k < 6 by omega) (by omega), iN_nat (by omega), iN_succ]
    simp only [cond_true]
    have e7 : S1.2.2.2 15 = S.2.2.2 15 := h7
    rw [e7, hq k (by omega), cond_true]
    refine cpl252_35_1 x S hq ho m (k + 1) fuel (S1.1, S1.2.1, S1.2.2.1, u2 S1.2.2.2 49 k (S.2.2.2 15 k)) (by omega) (by omega) ⟨h0, ?_, ?_, ?_, ?_, ?_, ?_, ?_⟩
    · exact h1
    · exact h2
    · exact h3
    · exact h4
    · exact cp1 (A := S1.2.2.2) (B := S.2.2.2 15) h5 rfl
    · exact h6
    · show u2 S1.2.2.2 49 k (S.2.2.2 15 k) 15 = _
      rw [u2_ro _ _ _ (show 15 ≠ 49 by decide)]; exact h7
theorem cpl227_35_1 (x : XT) (S : ST) (hq : ∀ l, l < 6 → qk x (S.2.2.2 15 l) = true) (ho : ∀ g, g < 10 → inb (S.2.1 6 g) 2 = true) : ∀ (m k fuel : Nat) (S1 : ST), k + m = 3 → m < fuel → CI S S1 35 1 10 5 6 k 0 → ∃ S2, lfX7_copyFrom_35_1_227 x fuel S1 (iN k) = some ((), S2) ∧ CI S S2 35 1 10 5 6 3 6
  | 0, k, fuel, S1, hk, hf, h => by
    obtain ⟨fuel, rfl⟩ : ∃ z, fuel = z + 1 := ⟨fuel - 1, by omega⟩
    have : k = 3 := by omega
    subst this
    rw [lfX7_copyFrom_35_1_227, bfX7_copyFrom_35_1_227, if_pos (show (3 : Int32) ≤ iN 3 by decide)]
    rw [show (0 : Int32) = iN 0 from rfl]
    exact cpl252_35_1 x S hq ho 6 0 20000 S1 (by omega) (by omega) h
  | m + 1, k, fuel, S1, hk, hf, h => by
    obtain ⟨fuel, rfl⟩ : ∃ z, fuel = z + 1 := ⟨fuel - 1, by omega⟩
    obtain ⟨h0, h1, h2, h3, h4, h5, h6, h7⟩ := h
    rw [lfX7_copyFrom_35_1_227, bfX7_copyFrom_35_1_227, if_neg (show ¬ (3 : Int32) ≤ iN k from fun hh => by have := (iN_le (m := 3) (by omega) (by omega)).mp hh; omega), inb_t (show k < 3 by omega) (by omega), iN_nat (by omega), iN_succ]
    simp only [cond_true]
    have e13 : S1.2.1 14 = S.2.1 14 := h6 13 (by omega) (by omega)
    rw [e13]
    refine cpl227_35_1 x S hq ho m (k + 1) fuel (S1.1, (u2 S1.2.1 48 k (S.2.1 14 k)), S1.2.2.1, S1.2.2.2) (by omega) (by omega) ⟨h0, ?_, ?_, ?_, ?_, ?_, ?_, ?_⟩
    · intro i hi1 hi2
      have hi3 : i = 1 ∨ i = 2 ∨ i = 3 ∨ i = 4 ∨ i = 5 := by omega
      rcases hi3 with rfl | rfl | rfl | rfl | rfl
      · intro j hj
        show (u2 S1.2.1 48 k (S.2.1 14 k)) 36 j = S.2.1 2 j
        rw [u2_ro _ _ _ (show 36 ≠ 48 by decide)]
        exact h1 1 (by omega) (by omega) j hj
      · intro j hj
        show (u2 S1.2.1 48 k (S.2.1 14 k)) 37 j = S.2.1 3 j
        rw [u2_ro _ _ _ (show 37 ≠ 48 by decide)]
        exact h1 2 (by omega) (by omega) j hj
      · intro j hj
        show (u2 S1.2.1 48 k (S.2.1 14 k)) 38 j = S.2.1 4 j
        rw [u2_ro _ _ _ (show 38 ≠ 48 by decide)]
        exact h1 3 (by omega) (by omega) j hj
      · intro j hj
        show (u2 S1.2.1 48 k (S.2.1 14 k)) 39 j = S.2.1 5 j
        rw [u2_ro _ _ _ (show 39 ≠ 48 by decide)]
        exact h1 4 (by omega) (by omega) j hj
      · intro j hj
        show (u2 S1.2.1 48 k (S.2.1 14 k)) 40 j = S.2.1 6 j
        rw [u2_ro _ _ _ (show 40 ≠ 48 by decide)]
        exact h1 5 (by omega) (by omega) j hj
    · intro i hi1 hi2
      have hi3 : i = 6 ∨ i = 7 ∨ i = 8 ∨ i = 9 := by omega
      rcases hi3 with rfl | rfl | rfl | rfl
      · intro j hj
        show (u2 S1.2.1 48 k (S.2.1 14 k)) 41 j = S.2.1 7 j
        rw [u2_ro _ _ _ (show 41 ≠ 48 by decide)]
        exact h2 6 (by omega) (by omega) j hj
      · intro j hj
        show (u2 S1.2.1 48 k (S.2.1 14 k)) 42 j = S.2.1 8 j
        rw [u2_ro _ _ _ (show 42 ≠ 48 by decide)]
        exact h2 7 (by omega) (by omega) j hj
      · intro j hj
        show (u2 S1.2.1 48 k (S.2.1 14 k)) 43 j = S.2.1 9 j
        rw [u2_ro _ _ _ (show 43 ≠ 48 by decide)]
        exact h2 8 (by omega) (by omega) j hj
      · intro j hj
        show (u2 S1.2.1 48 k (S.2.1 14 k)) 44 j = S.2.1 10 j
        rw [u2_ro _ _ _ (show 44 ≠ 48 by decide)]
        exact h2 9 (by omega) (by omega) j hj
    · intro i hi1 hi2
      have hi3 : i = 10 ∨ i = 11 ∨ i = 12 := by omega
      rcases hi3 with rfl | rfl | rfl
      · intro j hj
        show (u2 S1.2.1 48 k (S.2.1 14 k)) 45 j = S.2.1 11 j
        rw [u2_ro _ _ _ (show 45 ≠ 48 by decide)]
        exact h3 10 (by omega) (by omega) j hj
      · intro j hj
        show (u2 S1.2.1 48 k (S.2.1 14 k)) 46 j = S.2.1 12 j
        rw [u2_ro _ _ _ (show 46 ≠ 48 by decide)]
        exact h3 11 (by omega) (by omega) j hj
      · intro j hj
        show (u2 S1.2.1 48 k (S.2.1 14 k)) 47 j = S.2.1 13 j
        rw [u2_ro _ _ _ (show 47 ≠ 48 by decide)]
        exact h3 12 (by omega) (by omega) j hj
    · exact cp1 (A := S1.2.1) (B := S.2.1 14) h4 rfl
    · exact h5
    · intro i hi1 hi2
      have hi3 : i = 1 ∨ i = 2 ∨ i = 3 ∨ i = 4 ∨ i = 5 ∨ i = 6 ∨ i = 7 ∨ i = 8 ∨ i = 9 ∨ i = 10 ∨ i = 11 ∨ i = 12 ∨ i = 13 := by omega
      rcases hi3 with rfl | rfl | rfl | rfl | rfl | rfl | rfl | rfl | rfl | rfl | rfl | rfl | rfl
      · show (u2 S1.2.1 48 k (S.2.1 14 k)) 2 = S.2.1 2
        rw [u2_ro _ _ _ (show 2 ≠ 48 by decide)]; exact h6 1 (by omega) (by omega)
      · show (u2 S1.2.1 48 k (S.2.1 14 k)) 3 = S.2.1 3
        rw [u2_ro _ _ _ (show 3 ≠ 48 by decide)]; exact h6 2 (by omega) (by omega)
      · show (u2 S1.2.1 48 k (S.2.1 14 k)) 4 = S.2.1 4
        rw [u2_ro _ _ _ (show 4 ≠ 48 by decide)]; exact h6 3 (by omega) (by omega)
      · show (u2 S1.2.1 48 k (S.2.1 14 k)) 5 = S.2.1 5
        rw [u2_ro _ _ _ (show 5 ≠ 48 by decide)]; exact h6 4 (by omega) (by omega)
      · show (u2 S1.2.1 48 k (S.2.1 14 k)) 6 = S.2.1 6
        rw [u2_ro _ _ _ (show 6 ≠ 48 by decide)]; exact h6 5 (by omega) (by omega)
      · show (u2 S1.2.1 48 k (S.2.1 14 k)) 7 = S.2.1 7
        rw [u2_ro _ _ _ (show 7 ≠ 48 by decide)]; exact h6 6 (by omega) (by omega)
      · show (u2 S1.2.1 48 k (S.2.1 14 k)) 8 = S.2.1 8
        rw [u2_ro _ _ _ (show 8 ≠ 48 by decide)]; exact h6 7 (by omega) (by omega)
      · show (u2 S1.2.1 48 k (S.2.1 14 k)) 9 = S.2.1 9
        rw [u2_ro _ _ _ (show 9 ≠ 48 by decide)]; exact h6 8 (by omega) (by omega)
      · show (u2 S1.2.1 48 k (S.2.1 14 k)) 10 = S.2.1 10
        rw [u2_ro _ _ _ (show 10 ≠ 48 by decide)]; exact h6 9 (by omega) (by omega)
      · show (u2 S1.2.1 48 k (S.2.1 14 k)) 11 = S.2.1 11
        rw [u2_ro _ _ _ (show 11 ≠ 48 by decide)]; exact h6 10 (by omega) (by omega)
      · show (u2 S1.2.1 48 k (S.2.1 14 k)) 12 = S.2.1 12
        rw [u2_ro _ _ _ (show 12 ≠ 48 by decide)]; exact h6 11 (by omega) (by omega)
      · show (u2 S1.2.1 48 k (S.2.1 14 k)) 13 = S.2.1 13
        rw [u2_ro _ _ _ (show 13 ≠ 48 by decide)]; exact h6 12 (by omega) (by omega)
      · show (u2 S1.2.1 48 k (S.2.1 14 k)) 14 = S.2.1 14
        rw [u2_ro _ _ _ (show 14 ≠ 48 by decide)]; exact h6 13 (by omega) (by omega)
    · exact h7
theorem cpl177_35_1 (x : XT) (S : ST) (hq : ∀ l, l < 6 → qk x (S.2.2.2 15 l) = true) (ho : ∀ g, g < 10 → inb (S.2.1 6 g) 2 = true) : ∀ (m k fuel : Nat) (S1 : ST), k + m = 6 → m < fuel → CI S S1 35 1 10 5 k 0 0 → ∃ S2, lfX7_copyFrom_35_1_177 x fuel S1 (iN k) = some ((), S2) ∧ CI S S2 35 1 10 5 6 3 6
  | 0, k, fuel, S1, hk, hf, h => by
    obtain ⟨fuel, rfl⟩ : ∃ z, fuel = z + 1 := ⟨fuel - 1, by omega⟩
    have : k = 6 := by omega
    subst this
    rw [lfX7_copyFrom_35_1_177, bfX7_copyFrom_35_1_177, if_pos (show (6 : Int32) ≤ iN 6 by decide)]
    rw [show (0 : Int32) = iN 0 from rfl]
    exact cpl227_35_1 x S hq ho 3 0 20000 S1 (by omega) (by omega) h
  | m + 1, k, fuel, S1, hk, hf, h => by
    obtain ⟨fuel, rfl⟩ : ∃ z, fuel = z + 1 := ⟨fuel - 1, by omega⟩
    obtain ⟨h0, h1, h2, h3, h4, h5, h6, h7⟩ := h
    rw [lfX7_copyFrom_35_1_177, bfX7_copyFrom_35_1_177, if_neg (show ¬ (6 : Int32) ≤ iN k from fun hh => by have := (iN_le (m := 6) (by omega) (by omega)).mp hh; omega), inb_t (show k < 6 by omega) (by omega), iN_nat (by omega), iN_succ]
    simp only [cond_true]
    have e10 : S1.2.1 11 = S.2.1 11 := h6 10 (by omega) (by omega)
    have e11 : S1.2.1 12 = S.2.1 12 := h6 11 (by omega) (by omega)
    have e12 : S1.2.1 13 = S.2.1 13 := h6 12 (by omega) (by omega)
    rw [e10, e11, e12]
    refine cpl177_35_1 x S hq ho m (k + 1) fuel (S1.1, (u2 (u2 (u2 S1.2.1 45 k (S.2.1 11 k)) 46 k (S.2.1 12 k)) 47 k (S.2.1 13 k)), S1.2.2.1, S1.2.2.2) (by omega) (by omega) ⟨h0, ?_, ?_, ?_, ?_, ?_, ?_, ?_⟩
    · intro i hi1 hi2
      have hi3 : i = 1 ∨ i = 2 ∨ i = 3 ∨ i = 4 ∨ i = 5 := by omega
      rcases hi3 with rfl | rfl | rfl | rfl | rfl
      · intro j hj
        show (u2 (u2 (u2 S1.2.1 45 k (S.2.1 11 k)) 46 k (S.2.1 12 k)) 47 k (S.2.1 13 k)) 36 j = S.2.1 2 j
        rw [u2_ro _ _ _ (show 36 ≠ 47 by decide), u2_ro _ _ _ (show 36 ≠ 46 by decide), u2_ro _ _ _ (show 36 ≠ 45 by decide)]
        exact h1 1 (by omega) (by omega) j hj
      · intro j hj
        show (u2 (u2 (u2 S1.2.1 45 k (S.2.1 11 k)) 46 k (S.2.1 12 k)) 47 k (S.2.1 13 k)) 37 j = S.2.1 3 j
        rw [u2_ro _ _ _ (show 37 ≠ 47 by decide), u2_ro _ _ _ (show 37 ≠ 46 by decide), u2_ro _ _ _ (show 37 ≠ 45 by decide)]
        exact h1 2 (by omega) (by omega) j hj
      · intro j hj
        show (u2 (u2 (u2 S1.2.1 45 k (S.2.1 11 k)) 46 k (S.2.1 12 k)) 47 k (S.2.1 13 k)) 38 j = S.2.1 4 j
        rw [u2_ro _ _ _ (show 38 ≠ 47 by decide), u2_ro _ _ _ (show 38 ≠ 46 by decide), u2_ro _ _ _ (show 38 ≠ 45 by decide)]
        exact h1 3 (by omega) (by omega) j hj
      · intro j hj
        show (u2 (u2 (u2 S1.2.1 45 k (S.2.1 11 k)) 46 k (S.2.1 12 k)) 47 k (S.2.1 13 k)) 39 j = S.2.1 5 j
        rw [u2_ro _ _ _ (show 39 ≠ 47 by decide), u2_ro _ _ _ (show 39 ≠ 46 by decide), u2_ro _ _ _ (show 39 ≠ 45 by decide)]
        exact h1 4 (by omega) (by omega) j hj
      · intro j hj
        show (u2 (u2 (u2 S1.2.1 45 k (S.2.1 11 k)) 46 k (S.2.1 12 k)) 47 k (S.2.1 13 k)) 40 j = S.2.1 6 j
        rw [u2_ro _ _ _ (show 40 ≠ 47 by decide), u2_ro _ _ _ (show 40 ≠ 46 by decide), u2_ro _ _ _ (show 40 ≠ 45 by decide)]
        exact h1 5 (by omega) (by omega) j hj
    · intro i hi1 hi2
      have hi3 : i = 6 ∨ i = 7 ∨ i = 8 ∨ i = 9 := by omega
      rcases hi3 with rfl | rfl | rfl | rfl
      · intro j hj
        show (u2 (u2 (u2 S1.2.1 45 k (S.2.1 11 k)) 46 k (S.2.1 12 k)) 47 k (S.2.1 13 k)) 41 j = S.2.1 7 j
        rw [u2_ro _ _ _ (show 41 ≠ 47 by decide), u2_ro _ _ _ (show 41 ≠ 46 by decide), u2_ro _ _ _ (show 41 ≠ 45 by decide)]
        exact h2 6 (by omega) (by omega) j hj
      · intro j hj
        show (u2 (u2 (u2 S1.2.1 45 k (S.2.1 11 k)) 46 k (S.2.1 12 k)) 47 k (S.2.1 13 k)) 42 j = S.2.1 8 j
        rw [u2_ro _ _ _ (show 42 ≠ 47 by decide), u2_ro _ _ _ (show 42 ≠ 46 by decide), u2_ro _ _ _ (show 42 ≠ 45 by decide)]
        exact h2 7 (by omega) (by omega) j hj
      · intro j hj
        show (u2 (u2 (u2 S1.2.1 45 k (S.2.1 11 k)) 46 k (S.2.1 12 k)) 47 k (S.2.1 13 k)) 43 j = S.2.1 9 j
        rw [u2_ro _ _ _ (show 43 ≠ 47 by decide), u2_ro _ _ _ (show 43 ≠ 46 by decide), u2_ro _ _ _ (show 43 ≠ 45 by decide)]
        exact h2 8 (by omega) (by omega) j hj
      · intro j hj
        show (u2 (u2 (u2 S1.2.1 45 k (S.2.1 11 k)) 46 k (S.2.1 12 k)) 47 k (S.2.1 13 k)) 44 j = S.2.1 10 j
        rw [u2_ro _ _ _ (show 44 ≠ 47 by decide), u2_ro _ _ _ (show 44 ≠ 46 by decide), u2_ro _ _ _ (show 44 ≠ 45 by decide)]
        exact h2 9 (by omega) (by omega) j hj
    · intro i hi1 hi2
      have hi3 : i = 10 ∨ i = 11 ∨ i = 12 := by omega
      rcases hi3 with rfl | rfl | rfl
      · intro j hj
        show (u2 (u2 (u2 S1.2.1 45 k (S.2.1 11 k)) 46 k (S.2.1 12 k)) 47 k (S.2.1 13 k)) 45 j = S.2.1 11 j
        rw [u2_ro _ _ _ (show 45 ≠ 47 by decide), u2_ro _ _ _ (show 45 ≠ 46 by decide)]
        refine cp1 (B := S.2.1 11) (fun j hj => ?_) rfl j hj
        exact h3 10 (by omega) (by omega) j hj
      · intro j hj
        show (u2 (u2 (u2 S1.2.1 45 k (S.2.1 11 k)) 46 k (S.2.1 12 k)) 47 k (S.2.1 13 k)) 46 j = S.2.1 12 j
        rw [u2_ro _ _ _ (show 46 ≠ 47 by decide)]
        refine cp1 (B := S.2.1 12) (fun j hj => ?_) rfl j hj
        rw [u2_ro _ _ _ (show 46 ≠ 45 by decide)]
        exact h3 11 (by omega) (by omega) j hj
      · intro j hj
        show (u2 (u2 (u2 S1.2.1 45 k (S.2.1 11 k)) 46 k (S.2.1 12 k)) 47 k (S.2.1 13 k)) 47 j = S.2.1 13 j
        refine cp1 (B := S.2.1 13) (fun j hj => ?_) rfl j hj
        rw [u2_ro _ _ _ (show 47 ≠ 46 by decide), u2_ro _ _ _ (show 47 ≠ 45 by decide)]
        exact h3 12 (by omega) (by omega) j hj
    · intro j hj
      show (u2 (u2 (u2 S1.2.1 45 k (S.2.1 11 k)) 46 k (S.2.1 12 k)) 47 k (S.2.1 13 k)) 48 j = S.2.1 14 j
      rw [u2_ro _ _ _ (show 48 ≠ 47 by decide), u2_ro _ _ _ (show 48 ≠ 46 by decide), u2_ro _ _ _ (show 48 ≠ 45 by decide)]
      exact h4 j hj
    · exact h5
    · intro i hi1 hi2
      have hi3 : i = 1 ∨ i = 2 ∨ i = 3 ∨ i = 4 ∨ i = 5 ∨ i = 6 ∨ i = 7 ∨ i = 8 ∨ i = 9 ∨ i = 10 ∨ i = 11 ∨ i = 12 ∨ i = 13 := by omega
      rcases hi3 with rfl | rfl | rfl | rfl | rfl | rfl | rfl | rfl | rfl | rfl | rfl | rfl | rfl
      · show (u2 (u2 (u2 S1.2.1 45 k (S.2.1 11 k)) 46 k (S.2.1 12 k)) 47 k (S.2.1 13 k)) 2 = S.2.1 2
        rw [u2_ro _ _ _ (show 2 ≠ 47 by decide), u2_ro _ _ _ (show 2 ≠ 46 by decide), u2_ro _ _ _ (show 2 ≠ 45 by decide)]; exact h6 1 (by omega) (by omega)
      · show (u2 (u2 (u2 S1.2.1 45 k (S.2.1 11 k)) 46 k (S.2.1 12 k)) 47 k (S.2.1 13 k)) 3 = S.2.1 3
        rw [u2_ro _ _ _ (show 3 ≠ 47 by decide), u2_ro _ _ _ (show 3 ≠ 46 by decide), u2_ro _ _ _ (show 3 ≠ 45 by decide)]; exact h6 2 (by omega) (by omega)
      · show (u2 (u2 (u2 S1.2.1 45 k (S.2.1 11 k)) 46 k (S.2.1 12 k)) 47 k (S.2.1 13 k)) 4 = S.2.1 4
        rw [u2_ro _ _ _ (show 4 ≠ 47 by decide), u2_ro _ _ _ (show 4 ≠ 46 by decide), u2_ro _ _ _ (show 4 ≠ 45 by decide)]; exact h6 3 (by omega) (by omega)
      · show (u2 (u2 (u2 S1.2.1 45 k (S.2.1 11 k)) 46 k (S.2.1 12 k)) 47 k (S.2.1 13 k)) 5 = S.2.1 5
        rw [u2_ro _ _ _ (show 5 ≠ 47 by decide), u2_ro _ _ _ (show 5 ≠ 46 by decide), u2_ro _ _ _ (show 5 ≠ 45 by decide)]; exact h6 4 (by omega) (by omega)
      · show (u2 (u2 (u2 S1.2.1 45 k (S.2.1 11 k)) 46 k (S.2.1 12 k)) 47 k (S.2.1 13 k)) 6 = S.2.1 6
        rw [u2_ro _ _ _ (show 6 ≠ 47 by decide), u2_ro _ _ _ (show 6 ≠ 46 by decide), u2_ro _ _ _ (show 6 ≠ 45 by decide)]; exact h6 5 (by omega) (by omega)
      · show (u2 (u2 (u2 S1.2.1 45 k (S.2.1 11 k)) 46 k (S.2.1 12 k)) 47 k (S.2.1 13 k)) 7 = S.2.1 7
        rw [u2_ro _ _ _ (show 7 ≠ 47 by decide), u2_ro _ _ _ (show 7 ≠ 46 by decide), u2_ro _ _ _ (show 7 ≠ 45 by decide)]; exact h6 6 (by omega) (by omega)
      · show (u2 (u2 (u2 S1.2.1 45 k (S.2.1 11 k)) 46 k (S.2.1 12 k)) 47 k (S.2.1 13 k)) 8 = S.2.1 8
        rw [u2_ro _ _ _ (show 8 ≠ 47 by decide), u2_ro _ _ _ (show 8 ≠ 46 by decide), u2_ro _ _ _ (show 8 ≠ 45 by decide)]; exact h6 7 (by omega) (by omega)
      · show (u2 (u2 (u2 S1.2.1 45 k (S.2.1 11 k)) 46 k (S.2.1 12 k)) 47 k (S.2.1 13 k)) 9 = S.2.1 9
        rw [u2_ro _ _ _ (show 9 ≠ 47 by decide), u2_ro _ _ _ (show 9 ≠ 46 by decide), u2_ro _ _ _ (show 9 ≠ 45 by decide)]; exact h6 8 (by omega) (by omega)
      · show (u2 (u2 (u2 S1.2.1 45 k (S.2.1 11 k)) 46 k (S.2.1 12 k)) 47 k (S.2.1 13 k)) 10 = S.2.1 10
        rw [u2_ro _ _ _ (show 10 ≠ 47 by decide), u2_ro _ _ _ (show 10 ≠ 46 by decide), u2_ro _ _ _ (show 10 ≠ 45 by decide)]; exact h6 9 (by omega) (by omega)
      · show (u2 (u2 (u2 S1.2.1 45 k (S.2.1 11 k)) 46 k (S.2.1 12 k)) 47 k (S.2.1 13 k)) 11 = S.2.1 11
        rw [u2_ro _ _ _ (show 11 ≠ 47 by decide), u2_ro _ _ _ (show 11 ≠ 46 by decide), u2_ro _ _ _ (show 11 ≠ 45 by decide)]; exact h6 10 (by omega) (by omega)
      · show (u2 (u2 (u2 S1.2.1 45 k (S.2.1 11 k)) 46 k (S.2.1 12 k)) 47 k (S.2.1 13 k)) 12 = S.2.1 12
        rw [u2_ro _ _ _ (show 12 ≠ 47 by decide), u2_ro _ _ _ (show 12 ≠ 46 by decide), u2_ro _ _ _ (show 12 ≠ 45 by decide)]; exact h6 11 (by omega) (by omega)
      · show (u2 (u2 (u2 S1.2.1 45 k (S.2.1 11 k)) 46 k (S.2.1 12 k)) 47 k (S.2.1 13 k)) 13 = S.2.1 13
        rw [u2_ro _ _ _ (show 13 ≠ 47 by decide), u2_ro _ _ _ (show 13 ≠ 46 by decide), u2_ro _ _ _ (show 13 ≠ 45 by decide)]; exact h6 12 (by omega) (by omega)
      · show (u2 (u2 (u2 S1.2.1 45 k (S.2.1 11 k)) 46 k (S.2.1 12 k)) 47 k (S.2.1 13 k)) 14 = S.2.1 14
        rw [u2_ro _ _ _ (show 14 ≠ 47 by decide), u2_ro _ _ _ (show 14 ≠ 46 by decide), u2_ro _ _ _ (show 14 ≠ 45 by decide)]; exact h6 13 (by omega) (by omega)
    · exact h7
theorem cpl116_35_1 (x : XT) (S : ST) (hq : ∀ l, l < 6 → qk x (S.2.2.2 15 l) = true) (ho : ∀ g, g < 10 → inb (S.2.1 6 g) 2 = true) : ∀ (m k fuel : Nat) (S1 : ST), k + m = 5 → m < fuel → CI S S1 35 1 10 k 0 0 0 → ∃ S2, lfX7_copyFrom_35_1_116 x fuel S1 (iN k) = some ((), S2) ∧ CI S S2 35 1 10 5 6 3 6
  | 0, k, fuel, S1, hk, hf, h => by
    obtain ⟨fuel, rfl⟩ : ∃ z, fuel = z + 1 := ⟨fuel - 1, by omega⟩
    have : k = 5 := by omega
    subst this
    rw [lfX7_copyFrom_35_1_116, bfX7_copyFrom_35_1_116, if_pos (show (5 : Int32) ≤ iN 5 by decide)]
    rw [show (0 : Int32) = iN 0 from rfl]
    exact cpl177_35_1 x S hq ho 6 0 20000 S1 (by omega) (by omega) h
  | m + 1, k, fuel, S1, hk, hf, h => by
    obtain ⟨fuel, rfl⟩ : ∃ z, fuel = z + 1 := ⟨fuel - 1, by omega⟩
    obtain ⟨h0, h1, h2, h3, h4, h5, h6, h7⟩ := h
    rw [lfX7_copyFrom_35_1_116, bfX7_copyFrom_35_1_116, if_neg (show ¬ (5 : Int32) ≤ iN k from fun hh => by have := (iN_le (m := 5) (by omega) (by omega)).mp hh; omega), inb_t (show k < 5 by omega) (by omega), iN_nat (by omega), iN_succ]
    simp only [cond_true]
    have e6 : S1.2.1 7 = S.2.1 7 := h6 6 (by omega) (by omega)
    have e7 : S1.2.1 8 = S.2.1 8 := h6 7 (by omega) (by omega)
    have e8 : S1.2.1 9 = S.2.1 9 := h6 8 (by omega) (by omega)
    have e9 : S1.2.1 10 = S.2.1 10 := h6 9 (by omega) (by omega)
    rw [e6, e7, e8, e9]
    refine cpl116_35_1 x S hq ho m (k + 1) fuel (S1.1, (u2 (u2 (u2 (u2 S1.2.1 41 k (S.2.1 7 k)) 42 k (S.2.1 8 k)) 43 k (S.2.1 9 k)) 44 k (S.2.1 10 k)), S1.2.2.1, S1.2.2.2) (by omega) (by omega) ⟨h0, ?_, ?_, ?_, ?_, ?_, ?_, ?_⟩
    · intro i hi1 hi2
      have hi3 : i = 1 ∨ i = 2 ∨ i = 3 ∨ i = 4 ∨ i = 5 := by omega
      rcases hi3 with rfl | rfl | rfl | rfl | rfl
      · intro j hj
        show (u2 (u2 (u2 (u2 S1.2.1 41 k (S.2.1 7 k)) 42 k (S.2.1 8 k)) 43 k (S.2.1 9 k)) 44 k (S.2.1 10 k)) 36 j = S.2.1 2 j
        rw [u2_ro _ _ _ (show 36 ≠ 44 by decide), u2_ro _ _ _ (show 36 ≠ 43 by decide), u2_ro _ _ _ (show 36 ≠ 42 by decide), u2_ro _ _ _ (show 36 ≠ 41 by decide)]
        exact h1 1 (by omega) (by omega) j hj
      · intro j hj
        show (u2 (u2 (u2 (u2 S1.2.1 41 k (S.2.1 7 k)) 42 k (S.2.1 8 k)) 43 k (S.2.1 9 k)) 44 k (S.2.1 10 k)) 37 j = S.2.1 3 j
        rw [u2_ro _ _ _ (show 37 ≠ 44 by decide), u2_ro _ _ _ (show 37 ≠ 43 by decide), u2_ro _ _ _ (show 37 ≠ 42 by decide), u2_ro _ _ _ (show 37 ≠ 41 by decide)]
        exact h1 2 (by omega) (by omega) j hj
      · intro j hj
        show (u2 (u2 (u2 (u2 S1.2.1 41 k (S.2.1 7 k)) 42 k (S.2.1 8 k)) 43 k (S.2.1 9 k)) 44 k (S.2.1 10 k)) 38 j = S.2.1 4 j
        rw [u2_ro _ _ _ (show 38 ≠ 44 by decide), u2_ro _ _ _ (show 38 ≠ 43 by decide), u2_ro _ _ _ (show 38 ≠ 42 by decide), u2_ro _ _ _ (show 38 ≠ 41 by decide)]
        exact h1 3 (by omega) (by omega) j hj
      · intro j hj
        show (u2 (u2 (u2 (u2 S1.2.1 41 k (S.2.1 7 k)) 42 k (S.2.1 8 k)) 43 k (S.2.1 9 k)) 44 k (S.2.1 10 k)) 39 j = S.2.1 5 j
        rw [u2_ro _ _ _ (show 39 ≠ 44 by decide), u2_ro _ _ _ (show 39 ≠ 43 by decide), u2_ro _ _ _ (show 39 ≠ 42 by decide), u2_ro _ _ _ (show 39 ≠ 41 by decide)]
        exact h1 4 (by omega) (by omega) j hj
      · intro j hj
        show (u2 (u2 (u2 (u2 S1.2.1 41 k (S.2.1 7 k)) 42 k (S.2.1 8 k)) 43 k (S.2.1 9 k)) 44 k (S.2.1 10 k)) 40 j = S.2.1 6 j
        rw [u2_ro _ _ _ (show 40 ≠ 44 by decide), u2_ro _ _ _ (show 40 ≠ 43 by decide), u2_ro _ _ _ (show 40 ≠ 42 by decide), u2_ro _ _ _ (show 40 ≠ 41 by decide)]
        exact h1 5 (by omega) (by omega) j hj
    · intro i hi1 hi2
      have hi3 : i = 6 ∨ i = 7 ∨ i = 8 ∨ i = 9 := by omega
      rcases hi3 with rfl | rfl | rfl | rfl
      · intro j hj
        show (u2 (u2 (u2 (u2 S1.2.1 41 k (S.2.1 7 k)) 42 k (S.2.1 8 k)) 43 k (S.2.1 9 k)) 44 k (S.2.1 10 k)) 41 j = S.2.1 7 j
        rw [u2_ro _ _ _ (show 41 ≠ 44 by decide), u2_ro _ _ _ (show 41 ≠ 43 by decide), u2_ro _ _ _ (show 41 ≠ 42 by decide)]
        refine cp1 (B := S.2.1 7) (fun j hj => ?_) rfl j hj
        exact h2 6 (by omega) (by omega) j hj
      · intro j hj
        show (u2 (u2 (u2 (u2 S1.2.1 41 k (S.2.1 7 k)) 42 k (S.2.1 8 k)) 43 k (S.2.1 9 k)) 44 k (S.2.1 10 k)) 42 j = S.2.1 8 j
        rw [u2_ro _ _ _ (show 42 ≠ 44 by decide), u2_ro _ _ _ (show 42 ≠ 43 by decide)]
        refine cp1 (B := S.2.1 8) (fun j hj => ?_) rfl j hj
        rw [u2_ro _ _ _ (show 42 ≠ 41 by decide)]
        exact h2 7 (by omega) (by omega) j hj
      · intro j hj
        show (u2 (u2 (u2 (u2 S1.2.1 41 k (S.2.1 7 k)) 42 k (S.2.1 8 k)) 43 k (S.2.1 9 k)) 44 k (S.2.1 10 k)) 43 j = S.2.1 9 j
        rw [u2_ro _ _ _ (show 43 ≠ 44 by decide)]
        refine cp1 (B := S.2.1 9) (fun j hj => ?_) rfl j hj
        rw [u2_ro _ _ _ (show 43 ≠ 42 by decide), u2_ro _ _ _ (show 43 ≠ 41 by decide)]
        exact h2 8 (by omega) (by omega) j hj
      · intro j hj
        show (u2 (u2 (u2 (u2 S1.2.1 41 k (S.2.1 7 k)) 42 k (S.2.1 8 k)) 43 k (S.2.1 9 k)) 44 k (S.2.1 10 k)) 44 j = S.2.1 10 j
        refine cp1 (B := S.2.1 10) (fun j hj => ?_) rfl j hj
        rw [u2_ro _ _ _ (show 44 ≠ 43 by decide), u2_ro _ _ _ (show 44 ≠ 42 by decide), u2_ro _ _ _ (show 44 ≠ 41 by decide)]
        exact h2 9 (by omega) (by omega) j hj
    · intro i hi1 hi2
      have hi3 : i = 10 ∨ i = 11 ∨ i = 12 := by omega
      rcases hi3 with rfl | rfl | rfl
      · intro j hj
        show (u2 (u2 (u2 (u2 S1.2.1 41 k (S.2.1 7 k)) 42 k (S.2.1 8 k)) 43 k (S.2.1 9 k)) 44 k (S.2.1 10 k)) 45 j = S.2.1 11 j
        rw [u2_ro _ _ _ (show 45 ≠ 44 by decide), u2_ro _ _ _ (show 45 ≠ 43 by decide), u2_ro _ _ _ (show 45 ≠ 42 by decide), u2_ro _ _ _ (show 45 ≠ 41 by decide)]
        exact h3 10 (by omega) (by omega) j hj
      · intro j hj
        show (u2 (u2 (u2 (u2 S1.2.1 41 k (S.2.1 7 k)) 42 k (S.2.1 8 k)) 43 k (S.2.1 9 k)) 44 k (S.2.1 10 k)) 46 j = S.2.1 12 j
        rw [u2_ro _ _ _ (show 46 ≠ 44 by decide), u2_ro _ _ _ (show 46 ≠ 43 by decide), u2_ro _ _ _ (show 46 ≠ 42 by decide), u2_ro _ _ _ (show 46 ≠ 41 by decide)]
        exact h3 11 (by omega) (by omega) j hj
      · intro j hj
        show (u2 (u2 (u2 (u2 S1.2.1 41 k (S.2.1 7 k)) 42 k (S.2.1 8 k)) 43 k (S.2.1 9 k)) 44 k (S.2.1 10 k)) 47 j = S.2.1 13 j
        rw [u2_ro _ _ _ (show 47 ≠ 44 by decide), u2_ro _ _ _ (show 47 ≠ 43 by decide), u2_ro _ _ _ (show 47 ≠ 42 by decide), u2_ro _ _ _ (show 47 ≠ 41 by decide)]
        exact h3 12 (by omega) (by omega) j hj
    · intro j hj
      show (u2 (u2 (u2 (u2 S1.2.1 41 k (S.2.1 7 k)) 42 k (S.2.1 8 k)) 43 k (S.2.1 9 k)) 44 k (S.2.1 10 k)) 48 j = S.2.1 14 j
      rw [u2_ro _ _ _ (show 48 ≠ 44 by decide), u2_ro _ _ _ (show 48 ≠ 43 by decide), u2_ro _ _ _ (show 48 ≠ 42 by decide), u2_ro _ _ _ (show 48 ≠ 41 by decide)]
      exact h4 j hj
    · exact h5
    · intro i hi1 hi2
      have hi3 : i = 1 ∨ i = 2 ∨ i = 3 ∨ i = 4 ∨ i = 5 ∨ i = 6 ∨ i = 7 ∨ i = 8 ∨ i = 9 ∨ i = 10 ∨ i = 11 ∨ i = 12 ∨ i = 13 := by omega
      rcases hi3 with rfl | rfl | rfl | rfl | rfl | rfl | rfl | rfl | rfl | rfl | rfl | rfl | rfl
      · show (u2 (u2 (u2 (u2 S1.2.1 41 k (S.2.1 7 k)) 42 k (S.2.1 8 k)) 43 k (S.2.1 9 k)) 44 k (S.2.1 10 k)) 2 = S.2.1 2
        rw [u2_ro _ _ _ (show 2 ≠ 44 by decide), u2_ro _ _ _ (show 2 ≠ 43 by decide), u2_ro _ _ _ (show 2 ≠ 42 by decide), u2_ro _ _ _ (show 2 ≠ 41 by decide)]; exact h6 1 (by omega) (by omega)
      · show (u2 (u2 (u2 (u2 S1.2.1 41 k (S.2.1 7 k)) 42 k (S.2.1 8 k)) 43 k (S.2.1 9 k)) 44 k (S.2.1 10 k)) 3 = S.2.1 3
        rw [u2_ro _ _ _ (show 3 ≠ 44 by decide), u2_ro _ _ _ (show 3 ≠ 43 by decide), u2_ro _ _ _ (show 3 ≠ 42 by decide), u2_ro _ _ _ (show 3 ≠ 41 by decide)]; exact h6 2 (by omega) (by omega)
      · show (u2 (u2 (u2 (u2 S1.2.1 41 k (S.2.1 7 k)) 42 k (S.2.1 8 k)) 43 k (S.2.1 9 k)) 44 k (S.2.1 10 k)) 4 = S.2.1 4
        rw [u2_ro _ _ _ (show 4 ≠ 44 by decide), u2_ro _ _ _ (show 4 ≠ 43 by decide), u2_ro _ _ _ (show 4 ≠ 42 by decide), u2_ro _ _ _ (show 4 ≠ 41 by decide)]; exact h6 3 (by omega) (by omega)
      · show (u2 (u2 (u2 (u2 S1.2.1 41 k (S.2.1 7 k)) 42 k (S.2.1 8 k)) 43 k (S.2.1 9 k)) 44 k (S.2.1 10 k)) 5 = S.2.1 5
        rw [u2_ro _ _ _ (show 5 ≠ 44 by decide), u2_ro _ _ _ (show 5 ≠ 43 by decide), u2_ro _ _ _ (show 5 ≠ 42 by decide), u2_ro _ _ _ (show 5 ≠ 41 by decide)]; exact h6 4 (by omega) (by omega)
      · show (u2 (u2 (u2 (u2 S1.2.1 41 k (S.2.1 7 k)) 42 k (S.2.1 8 k)) 43 k (S.2.1 9 k)) 44 k (S.2.1 10 k)) 6 = S.2.1 6
        rw [u2_ro _ _ _ (show 6 ≠ 44 by decide), u2_ro _ _ _ (show 6 ≠ 43 by decide), u2_ro _ _ _ (show 6 ≠ 42 by decide), u2_ro _ _ _ (show 6 ≠ 41 by decide)]; exact h6 5 (by omega) (by omega)
      · show (u2 (u2 (u2 (u2 S1.2.1 41 k (S.2.1 7 k)) 42 k (S.2.1 8 k)) 43 k (S.2.1 9 k)) 44 k (S.2.1 10 k)) 7 = S.2.1 7
        rw [u2_ro _ _ _ (show 7 ≠ 44 by decide), u2_ro _ _ _ (show 7 ≠ 43 by decide), u2_ro _ _ _ (show 7 ≠ 42 by decide), u2_ro _ _ _ (show 7 ≠ 41 by decide)]; exact h6 6 (by omega) (by omega)
      · show (u2 (u2 (u2 (u2 S1.2.1 41 k (S.2.1 7 k)) 42 k (S.2.1 8 k)) 43 k (S.2.1 9 k)) 44 k (S.2.1 10 k)) 8 = S.2.1 8
        rw [u2_ro _ _ _ (show 8 ≠ 44 by decide), u2_ro _ _ _ (show 8 ≠ 43 by decide), u2_ro _ _ _ (show 8 ≠ 42 by decide), u2_ro _ _ _ (show 8 ≠ 41 by decide)]; exact h6 7 (by omega) (by omega)
      · show (u2 (u2 (u2 (u2 S1.2.1 41 k (S.2.1 7 k)) 42 k (S.2.1 8 k)) 43 k (S.2.1 9 k)) 44 k (S.2.1 10 k)) 9 = S.2.1 9
        rw [u2_ro _ _ _ (show 9 ≠ 44 by decide), u2_ro _ _ _ (show 9 ≠ 43 by decide), u2_ro _ _ _ (show 9 ≠ 42 by decide), u2_ro _ _ _ (show 9 ≠ 41 by decide)]; exact h6 8 (by omega) (by omega)
      · show (u2 (u2 (u2 (u2 S1.2.1 41 k (S.2.1 7 k)) 42 k (S.2.1 8 k)) 43 k (S.2.1 9 k)) 44 k (S.2.1 10 k)) 10 = S.2.1 10
        rw [u2_ro _ _ _ (show 10 ≠ 44 by decide), u2_ro _ _ _ (show 10 ≠ 43 by decide), u2_ro _ _ _ (show 10 ≠ 42 by decide), u2_ro _ _ _ (show 10 ≠ 41 by decide)]; exact h6 9 (by omega) (by omega)
      · show (u2 (u2 (u2 (u2 S1.2.1 41 k (S.2.1 7 k)) 42 k (S.2.1 8 k)) 43 k (S.2.1 9 k)) 44 k (S.2.1 10 k)) 11 = S.2.1 11
        rw [u2_ro _ _ _ (show 11 ≠ 44 by decide), u2_ro _ _ _ (show 11 ≠ 43 by decide), u2_ro _ _ _ (show 11 ≠ 42 by decide), u2_ro _ _ _ (show 11 ≠ 41 by decide)]; exact h6 10 (by omega) (by omega)
      · show (u2 (u2 (u2 (u2 S1.2.1 41 k (S.2.1 7 k)) 42 k (S.2.1 8 k)) 43 k (S.2.1 9 k)) 44 k (S.2.1 10 k)) 12 = S.2.1 12
        rw [u2_ro _ _ _ (show 12 ≠ 44 by decide), u2_ro _ _ _ (show 12 ≠ 43 by decide), u2_ro _ _ _ (show 12 ≠ 42 by decide), u2_ro _ _ _ (show 12 ≠ 41 by decide)]; exact h6 11 (by omega) (by omega)
      · show (u2 (u2 (u2 (u2 S1.2.1 41 k (S.2.1 7 k)) 42 k (S.2.1 8 k)) 43 k (S.2.1 9 k)) 44 k (S.2.1 10 k)) 13 = S.2.1 13
        rw [u2_ro _ _ _ (show 13 ≠ 44 by decide), u2_ro _ _ _ (show 13 ≠ 43 by decide), u2_ro _ _ _ (show 13 ≠ 42 by decide), u2_ro _ _ _ (show 13 ≠ 41 by decide)]; exact h6 12 (by omega) (by omega)
      · show (u2 (u2 (u2 (u2 S1.2.1 41 k (S.2.1 7 k)) 42 k (S.2.1 8 k)) 43 k (S.2.1 9 k)) 44 k (S.2.1 10 k)) 14 = S.2.1 14
        rw [u2_ro _ _ _ (show 14 ≠ 44 by decide), u2_ro _ _ _ (show 14 ≠ 43 by decide), u2_ro _ _ _ (show 14 ≠ 42 by decide), u2_ro _ _ _ (show 14 ≠ 41 by decide)]; exact h6 13 (by omega) (by omega)
    · exact h7
theorem cpl42_35_1 (x : XT) (S : ST) (hq : ∀ l, l < 6 → qk x (S.2.2.2 15 l) = true) (ho : ∀ g, g < 10 → inb (S.2.1 6 g) 2 = true) : ∀ (m k fuel : Nat) (S1 : ST), k + m = 10 → m < fuel → CI S S1 35 1 k 0 0 0 0 → ∃ S2, lfX7_copyFrom_35_1_42 x fuel S1 (iN k) = some ((), S2) ∧ CI S S2 35 1 10 5 6 3 6
  | 0, k, fuel, S1, hk, hf, h => by
    obtain ⟨fuel, rfl⟩ : ∃ z, fuel = z + 1 := ⟨fuel - 1, by omega⟩
    have : k = 10 := by omega
    subst this
    rw [lfX7_copyFrom_35_1_42, bfX7_copyFrom_35_1_42, if_pos (show (10 : Int32) ≤ iN 10 by decide)]
    rw [show (0 : Int32) = iN 0 from rfl]
    exact cpl116_35_1 x S hq ho 5 0 20000 S1 (by omega) (by omega) h
  | m + 1, k, fuel, S1, hk, hf, h => by
    obtain ⟨fuel, rfl⟩ : ∃ z, fuel = z + 1 := ⟨fuel - 1, by omega⟩
    obtain ⟨h0, h1, h2, h3, h4, h5, h6, h7⟩ := h
    rw [lfX7_copyFrom_35_1_42, bfX7_copyFrom_35_1_42, if_neg (show ¬ (10 : Int32) ≤ iN k from fun hh => by have := (iN_le (m := 10) (by omega) (by omega)).mp hh; omega), inb_t (show k < 10 by omega) (by omega), iN_nat (by omega), iN_succ]
    simp only [cond_true]
    have e1 : S1.2.1 2 = S.2.1 2 := h6 1 (by omega) (by omega)
    have e2 : S1.2.1 3 = S.2.1 3 := h6 2 (by omega) (by omega)
    have e3 : S1.2.1 4 = S.2.1 4 := h6 3 (by omega) (by omega)
    have e4 : S1.2.1 5 = S.2.1 5 := h6 4 (by omega) (by omega)
    have e5 : S1.2.1 6 = S.2.1 6 := h6 5 (by omega) (by omega)
    rw [e1, e2, e3, e4, e5]
    rw [nar_b (ho k (by omega))]
    refine cpl42_35_1 x S hq ho m (k + 1) fuel (S1.1, (u2 (u2 (u2 (u2 (u2 S1.2.1 36 k (S.2.1 2 k)) 37 k (S.2.1 3 k)) 38 k (S.2.1 4 k)) 39 k (S.2.1 5 k)) 40 k (S.2.1 6 k)), S1.2.2.1, S1.2.2.2) (by omega) (by omega) ⟨h0, ?_, ?_, ?_, ?_, ?_, ?_, ?_⟩
    · intro i hi1 hi2
      have hi3 : i = 1 ∨ i = 2 ∨ i = 3 ∨ i = 4 ∨ i = 5 := by omega
      rcases hi3 with rfl | rfl | rfl | rfl | rfl
      · intro j hj
        show (u2 (u2 (u2 (u2 (u2 S1.2.1 36 k (S.2.1 2 k)) 37 k (S.2.1 3 k)) 38 k (S.2.1 4 k)) 39 k (S.2.1 5 k)) 40 k (S.2.1 6 k)) 36 j = S.2.1 2 j
        rw [u2_ro _ _ _ (show 36 ≠ 40 by decide), u2_ro _ _ _ (show 36 ≠ 39 by decide), u2_ro _ _ _ (show 36 ≠ 38 by decide), u2_ro _ _ _ (show 36 ≠ 37 by decide)]
        refine cp1 (B := S.2.1 2) (fun j hj => ?_) rfl j hj
        exact h1 1 (by omega) (by omega) j hj
      · intro j hj
        show (u2 (u2 (u2 (u2 (u2 S1.2.1 36 k (S.2.1 2 k)) 37 k (S.2.1 3 k)) 38 k (S.2.1 4 k)) 39 k (S.2.1 5 k)) 40 k (S.2.1 6 k)) 37 j = S.2.1 3 j
        rw [u2_ro _ _ _ (show 37 ≠ 40 by decide), u2_ro _ _ _ (show 37 ≠ 39 by decide), u2_ro _ _ _ (show 37 ≠ 38 by decide)]
        refine cp1 (B := S.2.1 3) (fun j hj => ?_) rfl j hj
        rw [u2_ro _ _ _ (show 37 ≠ 36 by decide)]
        exact h1 2 (by omega) (by omega) j hj
      · intro j hj
        show (u2 (u2 (u2 (u2 (u2 S1.2.1 36 k (S.2.1 2 k)) 37 k (S.2.1 3 k)) 38 k (S.2.1 4 k)) 39 k (S.2.1 5 k)) 40 k (S.2.1 6 k)) 38 j = S.2.1 4 j
        rw [u2_ro _ _ _ (show 38 ≠ 40 by decide), u2_ro _ _ _ (show 38 ≠ 39 by decide)]
        refine cp1 (B := S.2.1 4) (fun j hj => ?_) rfl j hj
        rw [u2_ro _ _ _ (show 38 ≠ 37 by decide), u2_ro _ _ _ (show 38 ≠ 36 by decide)]
        exact h1 3 (by omega) (by omega) j hj
      · intro j hj
        show (u2 (u2 (u2 (u2 (u2 S1.2.1 36 k (S.2.1 2 k)) 37 k (S.2.1 3 k)) 38 k (S.2.1 4 k)) 39 k (S.2.1 5 k)) 40 k (S.2.1 6 k)) 39 j = S.2.1 5 j
        rw [u2_ro _ _ _ (show 39 ≠ 40 by decide)]
        refine cp1 (B := S.2.1 5) (fun j hj => ?_) rfl j hj
        rw [u2_ro _ _ _ (show 39 ≠ 38 by decide), u2_ro _ _ _ (show 39 ≠ 37 by decide), u2_ro _ _ _ (show 39 ≠ 36 by decide)]
        exact h1 4 (by omega) (by omega) j hj
      · intro j hj
        show (u2 (u2 (u2 (u2 (u2 S1.2.1 36 k (S.2.1 2 k)) 37 k (S.2.1 3 k)) 38 k (S.2.1 4 k)) 39 k (S.2.1 5 k)) 40 k (S.2.1 6 k)) 40 j = S.2.1 6 j
        refine cp1 (B := S.2.1 6) (fun j hj => ?_) rfl j hj
        rw [u2_ro _ _ _ (show 40 ≠ 39 by decide), u2_ro _ _ _ (show 40 ≠ 38 by decide), u2_ro _ _ _ (show 40 ≠ 37 by decide), u2_ro _ _ _ (show 40 ≠ 36 by decide)]
        exact h1 5 (by omega) (by omega) j hj
    · intro i hi1 hi2
      have hi3 : i = 6 ∨ i = 7 ∨ i = 8 ∨ i = 9 := by omega
      rcases hi3 with rfl | rfl | rfl | rfl
      · intro j hj
        show (u2 (u2 (u2 (u2 (u2 S1.2.1 36 k (S.2.1 2 k)) 37 k (S.2.1 3 k)) 38 k (S.2.1 4 k)) 39 k (S.2.1 5 k)) 40 k (S.2.1 6 k)) 41 j = S.2.1 7 j
        rw [u2_ro _ _ _ (show 41 ≠ 40 by decide), u2_ro _ _ _ (show 41 ≠ 39 by decide), u2_ro _ _ _ (show 41 ≠ 38 by decide), u2_ro _ _ _ (show 41 ≠ 37 by decide), u2_ro _ _ _ (show 41 ≠ 36 by decide)]
        exact h2 6 (by omega) (by omega) j hj
      · intro j hj
        show (u2 (u2 (u2 (u2 (u2 S1.2.1 36 k (S.2.1 2 k)) 37 k (S.2.1 3 k)) 38 k (S.2.1 4 k)) 39 k (S.2.1 5 k)) 40 k (S.2.1 6 k)) 42 j = S.2.1 8 j
        rw [u2_ro _ _ _ (show 42 ≠ 40 by decide), u2_ro _ _ _ (show 42 ≠ 39 by decide), u2_ro _ _ _ (show 42 ≠ 38 by decide), u2_ro _ _ _ (show 42 ≠ 37 by decide), u2_ro _ _ _ (show 42 ≠ 36 by decide)]
        exact h2 7 (by omega) (by omega) j hj
      · intro j hj
        show (u2 (u2 (u2 (u2 (u2 S1.2.1 36 k (S.2.1 2 k)) 37 k (S.2.1 3 k)) 38 k (S.2.1 4 k)) 39 k (S.2.1 5 k)) 40 k (S.2.1 6 k)) 43 j = S.2.1 9 j
        rw [u2_ro _ _ _ (show 43 ≠ 40 by decide), u2_ro _ _ _ (show 43 ≠ 39 by decide), u2_ro _ _ _ (show 43 ≠ 38 by decide), u2_ro _ _ _ (show 43 ≠ 37 by decide), u2_ro _ _ _ (show 43 ≠ 36 by decide)]
        exact h2 8 (by omega) (by omega) j hj
      · intro j hj
        show (u2 (u2 (u2 (u2 (u2 S1.2.1 36 k (S.2.1 2 k)) 37 k (S.2.1 3 k)) 38 k (S.2.1 4 k)) 39 k (S.2.1 5 k)) 40 k (S.2.1 6 k)) 44 j = S.2.1 10 j
        rw [u2_ro _ _ _ (show 44 ≠ 40 by decide), u2_ro _ _ _ (show 44 ≠ 39 by decide), u2_ro _ _ _ (show 44 ≠ 38 by decide), u2_ro _ _ _ (show 44 ≠ 37 by decide), u2_ro _ _ _ (show 44 ≠ 36 by decide)]
        exact h2 9 (by omega) (by omega) j hj
    · intro i hi1 hi2
      have hi3 : i = 10 ∨ i = 11 ∨ i = 12 := by omega
      rcases hi3 with rfl | rfl | rfl
      · intro j hj
        show (u2 (u2 (u2 (u2 (u2 S1.2.1 36 k (S.2.1 2 k)) 37 k (S.2.1 3 k)) 38 k (S.2.1 4 k)) 39 k (S.2.1 5 k)) 40 k (S.2.1 6 k)) 45 j = S.2.1 11 j
        rw [u2_ro _ _ _ (show 45 ≠ 40 by decide), u2_ro _ _ _ (show 45 ≠ 39 by decide), u2_ro _ _ _ (show 45 ≠ 38 by decide), u2_ro _ _ _ (show 45 ≠ 37 by decide), u2_ro _ _ _ (show 45 ≠ 36 by decide)]
        exact h3 10 (by omega) (by omega) j hj
      · intro j hj
        show (u2 (u2 (u2 (u2 (u2 S1.2.1 36 k (S.2.1 2 k)) 37 k (S.2.1 3 k)) 38 k (S.2.1 4 k)) 39 k (S.2.1 5 k)) 40 k (S.2.1 6 k)) 46 j = S.2.1 12 j
        rw [u2_ro _ _ _ (show 46 ≠ 40 by decide), u2_ro _ _ _ (show 46 ≠ 39 by decide), u2_ro _ _ _ (show 46 ≠ 38 by decide), u2_ro _ _ _ (show 46 ≠ 37 by decide), u2_ro _ _ _ (show 46 ≠ 36 by decide)]
        exact h3 11 (by omega) (by omega) j hj
      · intro j hj
        show (u2 (u2 (u2 (u2 (u2 S1.2.1 36 k (S.2.1 2 k)) 37 k (S.2.1 3 k)) 38 k (S.2.1 4 k)) 39 k (S.2.1 5 k)) 40 k (S.2.1 6 k)) 47 j = S.2.1 13 j
        rw [u2_ro _ _ _ (show 47 ≠ 40 by decide), u2_ro _ _ _ (show 47 ≠ 39 by decide), u2_ro _ _ _ (show 47 ≠ 38 by decide), u2_ro _ _ _ (show 47 ≠ 37 by decide), u2_ro _ _ _ (show 47 ≠ 36 by decide)]
        exact h3 12 (by omega) (by omega) j hj
    · intro j hj
      show (u2 (u2 (u2 (u2 (u2 S1.2.1 36 k (S.2.1 2 k)) 37 k (S.2.1 3 k)) 38 k (S.2.1 4 k)) 39 k (S.2.1 5 k)) 40 k (S.2.1 6 k)) 48 j = S.2.1 14 j
      rw [u2_ro _ _ _ (show 48 ≠ 40 by decide), u2_ro _ _ _ (show 48 ≠ 39 by decide), u2_ro _ _ _ (show 48 ≠ 38 by decide), u2_ro _ _ _ (show 48 ≠ 37 by decide), u2_ro _ _ _ (show 48 ≠ 36 by decide)]
      exact h4 j hj
    · exact h5
    · intro i hi1 hi2
      have hi3 : i = 1 ∨ i = 2 ∨ i = 3 ∨ i = 4 ∨ i = 5 ∨ i = 6 ∨ i = 7 ∨ i = 8 ∨ i = 9 ∨ i = 10 ∨ i = 11 ∨ i = 12 ∨ i = 13 := by omega
      rcases hi3 with rfl | rfl | rfl | rfl | rfl | rfl | rfl | rfl | rfl | rfl | rfl | rfl | rfl
      · show (u2 (u2 (u2 (u2 (u2 S1.2.1 36 k (S.2.1 2 k)) 37 k (S.2.1 3 k)) 38 k (S.2.1 4 k)) 39 k (S.2.1 5 k)) 40 k (S.2.1 6 k)) 2 = S.2.1 2
        rw [u2_ro _ _ _ (show 2 ≠ 40 by decide), u2_ro _ _ _ (show 2 ≠ 39 by decide), u2_ro _ _ _ (show 2 ≠ 38 by decide), u2_ro _ _ _ (show 2 ≠ 37 by decide), u2_ro _ _ _ (show 2 ≠ 36 by decide)]; exact h6 1 (by omega) (by omega)
      · show (u2 (u2 (u2 (u2 (u2 S1.2.1 36 k (S.2.1 2 k)) 37 k (S.2.1 3 k)) 38 k (S.2.1 4 k)) 39 k (S.2.1 5 k)) 40 k (S.2.1 6 k)) 3 = S.2.1 3
        rw [u2_ro _ _ _ (show 3 ≠ 40 by decide), u2_ro _ _ _ (show 3 ≠ 39 by decide), u2_ro _ _ _ (show 3 ≠ 38 by decide), u2_ro _ _ _ (show 3 ≠ 37 by decide), u2_ro _ _ _ (show 3 ≠ 36 by decide)]; exact h6 2 (by omega) (by omega)
      · show (u2 (u2 (u2 (u2 (u2 S1.2.1 36 k (S.2.1 2 k)) 37 k (S.2.1 3 k)) 38 k (S.2.1 4 k)) 39 k (S.2.1 5 k)) 40 k (S.2.1 6 k)) 4 = S.2.1 4
        rw [u2_ro _ _ _ (show 4 ≠ 40 by decide), u2_ro _ _ _ (show 4 ≠ 39 by decide), u2_ro _ _ _ (show 4 ≠ 38 by decide), u2_ro _ _ _ (show 4 ≠ 37 by decide), u2_ro _ _ _ (show 4 ≠ 36 by decide)]; exact h6 3 (by omega) (by omega)
      · show (u2 (u2 (u2 (u2 (u2 S1.2.1 36 k (S.2.1 2 k)) 37 k (S.2.1 3 k)) 38 k (S.2.1 4 k)) 39 k (S.2.1 5 k)) 40 k (S.2.1 6 k)) 5 = S.2.1 5
        rw [u2_ro _ _ _ (show 5 ≠ 40 by decide), u2_ro _ _ _ (show 5 ≠ 39 by decide), u2_ro _ _ _ (show 5 ≠ 38 by decide), u2_ro _ _ _ (show 5 ≠ 37 by decide), u2_ro _ _ _ (show 5 ≠ 36 by decide)]; exact h6 4 (by omega) (by omega)
      · show (u2 (u2 (u2 (u2 (u2 S1.2.1 36 k (S.2.1 2 k)) 37 k (S.2.1 3 k)) 38 k (S.2.1 4 k)) 39 k (S.2.1 5 k)) 40 k (S.2.1 6 k)) 6 = S.2.1 6
        rw [u2_ro _ _ _ (show 6 ≠ 40 by decide), u2_ro _ _ _ (show 6 ≠ 39 by decide), u2_ro _ _ _ (show 6 ≠ 38 by decide), u2_ro _ _ _ (show 6 ≠ 37 by decide), u2_ro _ _ _ (show 6 ≠ 36 by decide)]; exact h6 5 (by omega) (by omega)
      · show (u2 (u2 (u2 (u2 (u2 S1.2.1 36 k (S.2.1 2 k)) 37 k (S.2.1 3 k)) 38 k (S.2.1 4 k)) 39 k (S.2.1 5 k)) 40 k (S.2.1 6 k)) 7 = S.2.1 7
        rw [u2_ro _ _ _ (show 7 ≠ 40 by decide), u2_ro _ _ _ (show 7 ≠ 39 by decide), u2_ro _ _ _ (show 7 ≠ 38 by decide), u2_ro _ _ _ (show 7 ≠ 37 by decide), u2_ro _ _ _ (show 7 ≠ 36 by decide)]; exact h6 6 (by omega) (by omega)
      · show (u2 (u2 (u2 (u2 (u2 S1.2.1 36 k (S.2.1 2 k)) 37 k (S.2.1 3 k)) 38 k (S.2.1 4 k)) 39 k (S.2.1 5 k)) 40 k (S.2.1 6 k)) 8 = S.2.1 8
        rw [u2_ro _ _ _ (show 8 ≠ 40 by decide), u2_ro _ _ _ (show 8 ≠ 39 by decide), u2_ro _ _ _ (show 8 ≠ 38 by decide), u2_ro _ _ _ (show 8 ≠ 37 by decide), u2_ro _ _ _ (show 8 ≠ 36 by decide)]; exact h6 7 (by omega) (by omega)
      · show (u2 (u2 (u2 (u2 (u2 S1.2.1 36 k (S.2.1 2 k)) 37 k (S.2.1 3 k)) 38 k (S.2.1 4 k)) 39 k (S.2.1 5 k)) 40 k (S.2.1 6 k)) 9 = S.2.1 9
        rw [u2_ro _ _ _ (show 9 ≠ 40 by decide), u2_ro _ _ _ (show 9 ≠ 39 by decide), u2_ro _ _ _ (show 9 ≠ 38 by decide), u2_ro _ _ _ (show 9 ≠ 37 by decide), u2_ro _ _ _ (show 9 ≠ 36 by decide)]; exact h6 8 (by omega) (by omega)
      · show (u2 (u2 (u2 (u2 (u2 S1.2.1 36 k (S.2.1 2 k)) 37 k (S.2.1 3 k)) 38 k (S.2.1 4 k)) 39 k (S.2.1 5 k)) 40 k (S.2.1 6 k)) 10 = S.2.1 10
        rw [u2_ro _ _ _ (show 10 ≠ 40 by decide), u2_ro _ _ _ (show 10 ≠ 39 by decide), u2_ro _ _ _ (show 10 ≠ 38 by decide), u2_ro _ _ _ (show 10 ≠ 37 by decide), u2_ro _ _ _ (show 10 ≠ 36 by decide)]; exact h6 9 (by omega) (by omega)
      · show (u2 (u2 (u2 (u2 (u2 S1.2.1 36 k (S.2.1 2 k)) 37 k (S.2.1 3 k)) 38 k (S.2.1 4 k)) 39 k (S.2.1 5 k)) 40 k (S.2.1 6 k)) 11 = S.2.1 11
        rw [u2_ro _ _ _ (show 11 ≠ 40 by decide), u2_ro _ _ _ (show 11 ≠ 39 by decide), u2_ro _ _ _ (show 11 ≠ 38 by decide), u2_ro _ _ _ (show 11 ≠ 37 by decide), u2_ro _ _ _ (show 11 ≠ 36 by decide)]; exact h6 10 (by omega) (by omega)
      · show (u2 (u2 (u2 (u2 (u2 S1.2.1 36 k (S.2.1 2 k)) 37 k (S.2.1 3 k)) 38 k (S.2.1 4 k)) 39 k (S.2.1 5 k)) 40 k (S.2.1 6 k)) 12 = S.2.1 12
        rw [u2_ro _ _ _ (show 12 ≠ 40 by decide), u2_ro _ _ _ (show 12 ≠ 39 by decide), u2_ro _ _ _ (show 12 ≠ 38 by decide), u2_ro _ _ _ (show 12 ≠ 37 by decide), u2_ro _ _ _ (show 12 ≠ 36 by decide)]; exact h6 11 (by omega) (by omega)
      · show (u2 (u2 (u2 (u2 (u2 S1.2.1 36 k (S.2.1 2 k)) 37 k (S.2.1 3 k)) 38 k (S.2.1 4 k)) 39 k (S.2.1 5 k)) 40 k (S.2.1 6 k)) 13 = S.2.1 13
        rw [u2_ro _ _ _ (show 13 ≠ 40 by decide), u2_ro _ _ _ (show 13 ≠ 39 by decide), u2_ro _ _ _ (show 13 ≠ 38 by decide), u2_ro _ _ _ (show 13 ≠ 37 by decide), u2_ro _ _ _ (show 13 ≠ 36 by decide)]; exact h6 12 (by omega) (by omega)
      · show (u2 (u2 (u2 (u2 (u2 S1.2.1 36 k (S.2.1 2 k)) 37 k (S.2.1 3 k)) 38 k (S.2.1 4 k)) 39 k (S.2.1 5 k)) 40 k (S.2.1 6 k)) 14 = S.2.1 14
        rw [u2_ro _ _ _ (show 14 ≠ 40 by decide), u2_ro _ _ _ (show 14 ≠ 39 by decide), u2_ro _ _ _ (show 14 ≠ 38 by decide), u2_ro _ _ _ (show 14 ≠ 37 by decide), u2_ro _ _ _ (show 14 ≠ 36 by decide)]; exact h6 13 (by omega) (by omega)
    · exact h7
theorem copy35_1 (x : XT) (S : ST) (hq : ∀ l, l < 6 → qk x (S.2.2.2 15 l) = true) (ho : ∀ g, g < 10 → inb (S.2.1 6 g) 2 = true) : ∃ S2, gfX7_copyFrom_35_1 x S = some ((), S2) ∧ CI S S2 35 1 10 5 6 3 6 := by
  unfold gfX7_copyFrom_35_1 bfX7_copyFrom_35_1_0
  rw [show (0 : Int32) = iN 0 from rfl]
  refine cpl42_35_1 x S hq ho 10 0 20000 _ (by omega) (by omega) ⟨⟨?_, ?_, ?_, ?_, ?_⟩, fun i _ _ j hj => by omega, fun i _ _ j hj => by omega, fun i _ _ j hj => by omega, fun j hj => by omega, fun j hj => by omega, fun _ _ _ => rfl, rfl⟩
  · show (u2 (u2 (u2 (u2 (u2 S.1 35 0 (S.1 1 0)) 35 6 (S.1 1 6)) 35 11 (S.1 1 11)) 35 16 (S.1 1 16)) 35 18 (S.1 1 18)) 35 0 = _
    rw [u2_k _ _ _ (show 0 ≠ 18 by decide), u2_k _ _ _ (show 0 ≠ 16 by decide), u2_k _ _ _ (show 0 ≠ 11 by decide), u2_k _ _ _ (show 0 ≠ 6 by decide), u2_s]
  · show (u2 (u2 (u2 (u2 (u2 S.1 35 0 (S.1 1 0)) 35 6 (S.1 1 6)) 35 11 (S.1 1 11)) 35 16 (S.1 1 16)) 35 18 (S.1 1 18)) 35 6 = _
    rw [u2_k _ _ _ (show 6 ≠ 18 by decide), u2_k _ _ _ (show 6 ≠ 16 by decide), u2_k _ _ _ (show 6 ≠ 11 by decide), u2_s]
  · show (u2 (u2 (u2 (u2 (u2 S.1 35 0 (S.1 1 0)) 35 6 (S.1 1 6)) 35 11 (S.1 1 11)) 35 16 (S.1 1 16)) 35 18 (S.1 1 18)) 35 11 = _
    rw [u2_k _ _ _ (show 11 ≠ 18 by decide), u2_k _ _ _ (show 11 ≠ 16 by decide), u2_s]
  · show (u2 (u2 (u2 (u2 (u2 S.1 35 0 (S.1 1 0)) 35 6 (S.1 1 6)) 35 11 (S.1 1 11)) 35 16 (S.1 1 16)) 35 18 (S.1 1 18)) 35 16 = _
    rw [u2_k _ _ _ (show 16 ≠ 18 by decide), u2_s]
  · show (u2 (u2 (u2 (u2 (u2 S.1 35 0 (S.1 1 0)) 35 6 (S.1 1 6)) 35 11 (S.1 1 11)) 35 16 (S.1 1 16)) 35 18 (S.1 1 18)) 35 18 = _
    rw [u2_s]
theorem cpl252_1_35 (x : XT) (S : ST) (hq : ∀ l, l < 6 → qk x (S.2.2.2 49 l) = true) (ho : ∀ g, g < 10 → inb (S.2.1 40 g) 2 = true) : ∀ (m k fuel : Nat) (S1 : ST), k + m = 6 → m < fuel → CI S S1 1 35 10 5 6 3 k → ∃ S2, lfX7_copyFrom_1_35_252 x fuel S1 (iN k) = some ((), S2) ∧ CI S S2 1 35 10 5 6 3 6
  | 0, k, fuel, S1, hk, hf, h => by
    obtain ⟨fuel, rfl⟩ : ∃ z, fuel = z + 1 := ⟨fuel - 1, by omega⟩
    have : k = 6 := by omega
    subst this
    rw [lfX7_copyFrom_1_35_252, bfX7_copyFrom_1_35_252, if_pos (show (6 : Int32) ≤ iN 6 by decide)]
    exact ⟨S1, rfl, h⟩
  | m + 1, k, fuel, S1, hk, hf, h => by
    obtain ⟨fuel, rfl⟩ : ∃ z, fuel = z + 1 := ⟨fuel - 1, by omega⟩
    obtain ⟨h0, h1, h2, h3, h4, h5, h6, h7⟩ := h
    rw [lfX7_copyFrom_1_35_252, bfX7_copyFrom_1_35_252, if_neg (show ¬ (6 : Int32) ≤ iN k from fun hh => by have := (iN_le (m := 6) (by omega) (by omega)).mp hh; omega), inb_t (show k < 6 by omega) (by omega), iN_nat (by omega), iN_succ]
    simp only [cond_true]
    have e7 : S1.2.2.2 49 = S.2.2.2 49 := h7
    rw [e7, hq k (by omega), cond_true]
    refine cpl252_1_35 x S hq ho m (k + 1) fuel (S1.1, S1.2.1, S1.2.2.1, u2 S1.2.2.2 15 k (S.2.2.2 49 k)) (by omega) (by omega) ⟨h0, ?_, ?_, ?_, ?_, ?_, ?_, ?_⟩
    · exact h1
    · exact h2
    · exact h3
    · exact h4
    · exact cp1 (A := S1.2.2.2) (B := S.2.2.2 49) h5 rfl
    · exact h6
    · show u2 S1.2.2.2 15 k (S.2.2.2 49 k) 49 = _
      rw [u2_ro _ _ _ (show 49 ≠ 15 by decide)]; exact h7
theorem cpl227_1_35 (x : XT) (S : ST) (hq : ∀ l, l < 6 → qk x (S.2.2.2 49 l) = true) (ho : ∀ g, g < 10 → inb (S.2.1 40 g) 2 = true) : ∀ (m k fuel : Nat) (S1 : ST), k + m = 3 → m < fuel → CI S S1 1 35 10 5 6 k 0 → ∃ S2, lfX7_copyFrom_1_35_227 x fuel S1 (iN k) = some ((), S2) ∧ CI S S2 1 35 10 5 6 3 6
  | 0, k, fuel, S1, hk, hf, h => by
    obtain ⟨fuel, rfl⟩ : ∃ z, fuel = z + 1 := ⟨fuel - 1, by omega⟩
    have : k = 3 := by omega
    subst this
    rw [lfX7_copyFrom_1_35_227, bfX7_copyFrom_1_35_227, if_pos (show (3 : Int32) ≤ iN 3 by decide)]
    rw [show (0 : Int32) = iN 0 from rfl]
    exact cpl252_1_35 x S hq ho 6 0 20000 S1 (by omega) (by omega) h
  | m + 1, k, fuel, S1, hk, hf, h => by
    obtain ⟨fuel, rfl⟩ : ∃ z, fuel = z + 1 := ⟨fuel - 1, by omega⟩
    obtain ⟨h0, h1, h2, h3, h4, h5, h6, h7⟩ := h
    rw [lfX7_copyFrom_1_35_227, bfX7_copyFrom_1_35_227, if_neg (show ¬ (3 : Int32) ≤ iN k from fun hh => by have := (iN_le (m := 3) (by omega) (by omega)).mp hh; omega), inb_t (show k < 3 by omega) (by omega), iN_nat (by omega), iN_succ]
    simp only [cond_true]
    have e13 : S1.2.1 48 = S.2.1 48 := h6 13 (by omega) (by omega)
    rw [e13]
    refine cpl227_1_35 x S hq ho m (k + 1) fuel (S1.1, (u2 S1.2.1 14 k (S.2.1 48 k)), S1.2.2.1, S1.2.2.2) (by omega) (by omega) ⟨h0, ?_, ?_, ?_, ?_, ?_, ?_, ?_⟩
    · intro i hi1 hi2
      have hi3 : i = 1 ∨ i = 2 ∨ i = 3 ∨ i = 4 ∨ i = 5 := by omega
      rcases hi3 with rfl | rfl | rfl | rfl | rfl
      · intro j hj
        show (u2 S1.2.1 14 k (S.2.1 48 k)) 2 j = S.2.1 36 j
        rw [u2_ro _ _ _ (show 2 ≠ 14 by decide)]
        exact h1 1 (by omega) (by omega) j hj
      · intro j hj
        show (u2 S1.2.1 14 k (S.2.1 48 k)) 3 j = S.2.1 37 j
        rw [u2_ro _ _ _ (show 3 ≠ 14 by decide)]
        exact h1 2 (by omega) (by omega) j hj
      · intro j hj
        show (u2 S1.2.1 14 k (S.2.1 48 k)) 4 j = S.2.1 38 j
        rw [u2_ro _ _ _ (show 4 ≠ 14 by decide)]
        exact h1 3 (by omega) (by omega) j hj
      · intro j hj
        show (u2 S1.2.1 14 k (S.2.1 48 k)) 5 j = S.2.1 39 j
        rw [u2_ro _ _ _ (show 5 ≠ 14 by decide)]
        exact h1 4 (by omega) (by omega) j hj
      · intro j hj
        show (u2 S1.2.1 14 k (S.2.1 48 k)) 6 j = S.2.1 40 j
        rw [u2_ro _ _ _ (show 6 ≠ 14 by decide)]
        exact h1 5 (by omega) (by omega) j hj
    · intro i hi1 hi2
      have hi3 : i = 6 ∨ i = 7 ∨ i = 8 ∨ i = 9 := by omega
      rcases hi3 with rfl | rfl | rfl | rfl
      · intro j hj
        show (u2 S1.2.1 14 k (S.2.1 48 k)) 7 j = S.2.1 41 j
        rw [u2_ro _ _ _ (show 7 ≠ 14 by decide)]
        exact h2 6 (by omega) (by omega) j hj
      · intro j hj
        show (u2 S1.2.1 14 k (S.2.1 48 k)) 8 j = S.2.1 42 j
        rw [u2_ro _ _ _ (show 8 ≠ 14 by decide)]
        exact h2 7 (by omega) (by omega) j hj
      · intro j hj
        show (u2 S1.2.1 14 k (S.2.1 48 k)) 9 j = S.2.1 43 j
        rw [u2_ro _ _ _ (show 9 ≠ 14 by decide)]
        exact h2 8 (by omega) (by omega) j hj
      · intro j hj
        show (u2 S1.2.1 14 k (S.2.1 48 k)) 10 j = S.2.1 44 j
        rw [u2_ro _ _ _ (show 10 ≠ 14 by decide)]
        exact h2 9 (by omega) (by omega) j hj
    · intro i hi1 hi2
      have hi3 : i = 10 ∨ i = 11 ∨ i = 12 := by omega
      rcases hi3 with rfl | rfl | rfl
      · intro j hj
        show (u2 S1.2.1 14 k (S.2.1 48 k)) 11 j = S.2.1 45 j
        rw [u2_ro _ _ _ (show 11 ≠ 14 by decide)]
        exact h3 10 (by omega) (by omega) j hj
      · intro j hj
        show (u2 S1.2.1 14 k (S.2.1 48 k)) 12 j = S.2.1 46 j
        rw [u2_ro _ _ _ (show 12 ≠ 14 by decide)]
        exact h3 11 (by omega) (by omega) j hj
      · intro j hj
        show (u2 S1.2.1 14 k (S.2.1 48 k)) 13 j = S.2.1 47 j
        rw [u2_ro _ _ _ (show 13 ≠ 14 by decide)]
        exact h3 12 (by omega) (by omega) j hj
    · exact cp1 (A := S1.2.1) (B := S.2.1 48) h4 rfl
    · exact h5
    · intro i hi1 hi2
      have hi3 : i = 1 ∨ i = 2 ∨ i = 3 ∨ i = 4 ∨ i = 5 ∨ i = 6 ∨ i = 7 ∨ i = 8 ∨ i = 9 ∨ i = 10 ∨ i = 11 ∨ i = 12 ∨ i = 13 := by omega
      rcases hi3 with rfl | rfl | rfl | rfl | rfl | rfl | rfl | rfl | rfl | rfl | rfl | rfl | rfl
      · show (u2 S1.2.1 14 k (S.2.1 48 k)) 36 = S.2.1 36
        rw [u2_ro _ _ _ (show 36 ≠ 14 by decide)]; exact h6 1 (by omega) (by omega)
      · show (u2 S1.2.1 14 k (S.2.1 48 k)) 37 = S.2.1 37
        rw [u2_ro _ _ _ (show 37 ≠ 14 by decide)]; exact h6 2 (by omega) (by omega)
      · show (u2 S1.2.1 14 k (S.2.1 48 k)) 38 = S.2.1 38
        rw [u2_ro _ _ _ (show 38 ≠ 14 by decide)]; exact h6 3 (by omega) (by omega)
      · show (u2 S1.2.1 14 k (S.2.1 48 k)) 39 = S.2.1 39
        rw [u2_ro _ _ _ (show 39 ≠ 14 by decide)]; exact h6 4 (by omega) (by omega)
      · show (u2 S1.2.1 14 k (S.2.1 48 k)) 40 = S.2.1 40
        rw [u2_ro _ _ _ (show 40 ≠ 14 by decide)]; exact h6 5 (by omega) (by omega)
      · show (u2 S1.2.1 14 k (S.2.1 48 k)) 41 = S.2.1 41
        rw [u2_ro _ _ _ (show 41 ≠ 14 by decide)]; exact h6 6 (by omega) (by omega)
      · show (u2 S1.2.1 14 k (S.2.1 48 k)) 42 = S.2.1 42
        rw [u2_ro _ _ _ (show 42 ≠ 14 by decide)]; exact h6 7 (by omega) (by omega)
      · show (u2 S1.2.1 14 k (S.2.1 48 k)) 43 = S.2.1 43
        rw [u2_ro _ _ _ (show 43 ≠ 14 by decide)]; exact h6 8 (by omega) (by omega)
      · show (u2 S1.2.1 14 k (S.2.1 48 k)) 44 = S.2.1 44
        rw [u2_ro _ _ _ (show 44 ≠ 14 by decide)]; exact h6 9 (by omega) (by omega)
      · show (u2 S1.2.1 14 k (S.2.1 48 k)) 45 = S.2.1 45
        rw [u2_ro _ _ _ (show 45 ≠ 14 by decide)]; exact h6 10 (by omega) (by omega)
      · show (u2 S1.2.1 14 k (S.2.1 48 k)) 46 = S.2.1 46
        rw [u2_ro _ _ _ (show 46 ≠ 14 by decide)]; exact h6 11 (by omega) (by omega)
      · show (u2 S1.2.1 14 k (S.2.1 48 k)) 47 = S.2.1 47
        rw [u2_ro _ _ _ (show 47 ≠ 14 by decide)]; exact h6 12 (by omega) (by omega)
      · show (u2 S1.2.1 14 k (S.2.1 48 k)) 48 = S.2.1 48
        rw [u2_ro _ _ _ (show 48 ≠ 14 by decide)]; exact h6 13 (by omega) (by omega)
    · exact h7
theorem cpl177_1_35 (x : XT) (S : ST) (hq : ∀ l, l < 6 → qk x (S.2.2.2 49 l) = true) (ho : ∀ g, g < 10 → inb (S.2.1 40 g) 2 = true) : ∀ (m k fuel : Nat) (S1 : ST), k + m = 6 → m < fuel → CI S S1 1 35 10 5 k 0 0 → ∃ S2, lfX7_copyFrom_1_35_177 x fuel S1 (iN k) = some ((), S2) ∧ CI S S2 1 35 10 5 6 3 6
  | 0, k, fuel, S1, hk, hf, h => by
    obtain ⟨fuel, rfl⟩ : ∃ z, fuel = z + 1 := ⟨fuel - 1, by omega⟩
    have : k = 6 := by omega
    subst this
    rw [lfX7_copyFrom_1_35_177, bfX7_copyFrom_1_35_177, if_pos (show (6 : Int32) ≤ iN 6 by decide)]
    rw [show (0 : Int32) = iN 0 from rfl]
    exact cpl227_1_35 x S hq ho 3 0 20000 S1 (by omega) (by omega) h
  | m + 1, k, fuel, S1, hk, hf, h => by
    obtain ⟨fuel, rfl⟩ : ∃ z, fuel = z + 1 := ⟨fuel - 1, by omega⟩
    obtain ⟨h0, h1, h2, h3, h4, h5, h6, h7⟩ := h
    rw [lfX7_copyFrom_1_35_177, bfX7_copyFrom_1_35_177, if_neg (show ¬ (6 : Int32) ≤ iN k from fun hh => by have := (iN_le (m := 6) (by omega) (by omega)).mp hh; omega), inb_t (show k < 6 by omega) (by omega), iN_nat (by omega), iN_succ]
    simp only [cond_true]
    have e10 : S1.2.1 45 = S.2.1 45 := h6 10 (by omega) (by omega)
    have e11 : S1.2.1 46 = S.2.1 46 := h6 11 (by omega) (by omega)
    have e12 : S1.2.1 47 = S.2.1 47 := h6 12 (by omega) (by omega)
    rw [e10, e11, e12]
    refine cpl177_1_35 x S hq ho m (k + 1) fuel (S1.1, (u2 (u2 (u2 S1.2.1 11 k (S.2.1 45 k)) 12 k (S.2.1 46 k)) 13 k (S.2.1 47 k)), S1.2.2.1, S1.2.2.2) (by omega) (by omega) ⟨h0, ?_, ?_, ?_, ?_, ?_, ?_, ?_⟩
    · intro i hi1 hi2
      have hi3 : i = 1 ∨ i = 2 ∨ i = 3 ∨ i = 4 ∨ i = 5 := by omega
      rcases hi3 with rfl | rfl | rfl | rfl | rfl
      · intro j hj
        show (u2 (u2 (u2 S1.2.1 11 k (S.2.1 45 k)) 12 k (S.2.1 46 k)) 13 k (S.2.1 47 k)) 2 j = S.2.1 36 j
        rw [u2_ro _ _ _ (show 2 ≠ 13 by decide), u2_ro _ _ _ (show 2 ≠ 12 by decide), u2_ro _ _ _ (show 2 ≠ 11 by decide)]
        exact h1 1 (by omega) (by omega) j hj
      · intro j hj
        show (u2 (u2 (u2 S1.2.1 11 k (S.2.1 45 k)) 12 k (S.2.1 46 k)) 13 k (S.2.1 47 k)) 3 j = S.2.1 37 j
        rw [u2_ro _ _ _ (show 3 ≠ 13 by decide), u2_ro _ _ _ (show 3 ≠ 12 by decide), u2_ro _ _ _ (show 3 ≠ 11 by decide)]
        exact h1 2 (by omega) (by omega) j hj
      · intro j hj
        show (u2 (u2 (u2 S1.2.1 11 k (S.2.1 45 k)) 12 k (S.2.1 46 k)) 13 k (S.2.1 47 k)) 4 j = S.2.1 38 j
        rw [u2_ro _ _ _ (show 4 ≠ 13 by decide), u2_ro _ _ _ (show 4 ≠ 12 by decide), u2_ro _ _ _ (show 4 ≠ 11 by decide)]
        exact h1 3 (by omega) (by omega) j hj
      · intro j hj
        show (u2 (u2 (u2 S1.2.1 11 k (S.2.1 45 k)) 12 k (S.2.1 46 k)) 13 k (S.2.1 47 k)) 5 j = S.2.1 39 j
        rw [u2_ro _ _ _ (show 5 ≠ 13 by decide), u2_ro _ _ _ (show 5 ≠ 12 by decide), u2_ro _ _ _ (show 5 ≠ 11 by decide)]
        exact h1 4 (by omega) (by omega) j hj
      · intro j hj
        show (u2 (u2 (u2 S1.2.1 11 k (S.2.1 45 k)) 12 k (S.2.1 46 k)) 13 k (S.2.1 47 k)) 6 j = S.2.1 40 j
        rw [u2_ro _ _ _ (show 6 ≠ 13 by decide), u2_ro _ _ _ (show 6 ≠ 12 by decide), u2_ro _ _ _ (show 6 ≠ 11 by decide)]
        exact h1 5 (by omega) (by omega) j hj
    · intro i hi1 hi2
      have hi3 : i = 6 ∨ i = 7 ∨ i = 8 ∨ i = 9 := by omega
      rcases hi3 with rfl | rfl | rfl | rfl
      · intro j hj
        show (u2 (u2 (u2 S1.2.1 11 k (S.2.1 45 k)) 12 k (S.2.1 46 k)) 13 k (S.2.1 47 k)) 7 j = S.2.1 41 j
        rw [u2_ro _ _ _ (show 7 ≠ 13 by decide), u2_ro _ _ _ (show 7 ≠ 12 by decide), u2_ro _ _ _ (show 7 ≠ 11 by decide)]
        exact h2 6 (by omega) (by omega) j hj
      · intro j hj
        show (u2 (u2 (u2 S1.2.1 11 k (S.2.1 45 k)) 12 k (S.2.1 46 k)) 13 k (S.2.1 47 k)) 8 j = S.2.1 42 j
        rw [u2_ro _ _ _ (show 8 ≠ 13 by decide), u2_ro _ _ _ (show 8 ≠ 12 by decide), u2_ro _ _ _ (show 8 ≠ 11 by decide)]
        exact h2 7 (by omega) (by omega) j hj
      · intro j hj
        show (u2 (u2 (u2 S1.2.1 11 k (S.2.1 45 k)) 12 k (S.2.1 46 k)) 13 k (S.2.1 47 k)) 9 j = S.2.1 43 j
        rw [u2_ro _ _ _ (show 9 ≠ 13 by decide), u2_ro _ _ _ (show 9 ≠ 12 by decide), u2_ro _ _ _ (show 9 ≠ 11 by decide)]
        exact h2 8 (by omega) (by omega) j hj
      · intro j hj
        show (u2 (u2 (u2 S1.2.1 11 k (S.2.1 45 k)) 12 k (S.2.1 46 k)) 13 k (S.2.1 47 k)) 10 j = S.2.1 44 j
        rw [u2_ro _ _ _ (show 10 ≠ 13 by decide), u2_ro _ _ _ (show 10 ≠ 12 by decide), u2_ro _ _ _ (show 10 ≠ 11 by decide)]
        exact h2 9 (by omega) (by omega) j hj
    · intro i hi1 hi2
      have hi3 : i = 10 ∨ i = 11 ∨ i = 12 := by omega
      rcases hi3 with rfl | rfl | rfl
      · intro j hj
        show (u2 (u2 (u2 S1.2.1 11 k (S.2.1 45 k)) 12 k (S.2.1 46 k)) 13 k (S.2.1 47 k)) 11 j = S.2.1 45 j
        rw [u2_ro _ _ _ (show 11 ≠ 13 by decide), u2_ro _ _ _ (show 11 ≠ 12 by decide)]
        refine cp1 (B := S.2.1 45) (fun j hj => ?_) rfl j hj
        exact h3 10 (by omega) (by omega) j hj
      · intro j hj
        show (u2 (u2 (u2 S1.2.1 11 k (S.2.1 45 k)) 12 k (S.2.1 46 k)) 13 k (S.2.1 47 k)) 12 j = S.2.1 46 j
        rw [u2_ro _ _ _ (show 12 ≠ 13 by decide)]
        refine cp1 (B := S.2.1 46) (fun j hj => ?_) rfl j hj
        rw [u2_ro _ _ _ (show 12 ≠ 11 by decide)]
        exact h3 11 (by omega) (by omega) j hj
      · intro j hj
        show (u2 (u2 (u2 S1.2.1 11 k (S.2.1 45 k)) 12 k (S.2.1 46 k)) 13 k (S.2.1 47 k)) 13 j = S.2.1 47 j
        refine cp1 (B := S.2.1 47) (fun j hj => ?_) rfl j hj
        rw [u2_ro _ _ _ (show 13 ≠ 12 by decide), u2_ro _ _ _ (show 13 ≠ 11 by decide)]
        exact h3 12 (by omega) (by omega) j hj
    · intro j hj
      show (u2 (u2 (u2 S1.2.1 11 k (S.2.1 45 k)) 12 k (S.2.1 46 k)) 13 k (S.2.1 47 k)) 14 j = S.2.1 48 j
      rw [u2_ro _ _ _ (show 14 ≠ 13 by decide), u2_ro _ _ _ (show 14 ≠ 12 by decide), u2_ro _ _ _ (show 14 ≠ 11 by decide)]
      exact h4 j hj
    · exact h5
    · intro i hi1 hi2
      have hi3 : i = 1 ∨ i = 2 ∨ i = 3 ∨ i = 4 ∨ i = 5 ∨ i = 6 ∨ i = 7 ∨ i = 8 ∨ i = 9 ∨ i = 10 ∨ i = 11 ∨ i = 12 ∨ i = 13 := by omega
      rcases hi3 with rfl | rfl | rfl | rfl | rfl | rfl | rfl | rfl | rfl | rfl | rfl | rfl | rfl
      · show (u2 (u2 (u2 S1.2.1 11 k (S.2.1 45 k)) 12 k (S.2.1 46 k)) 13 k (S.2.1 47 k)) 36 = S.2.1 36
        rw [u2_ro _ _ _ (show 36 ≠ 13 by decide), u2_ro _ _ _ (show 36 ≠ 12 by decide), u2_ro _ _ _ (show 36 ≠ 11 by decide)]; exact h6 1 (by omega) (by omega)
      · show (u2 (u2 (u2 S1.2.1 11 k (S.2.1 45 k)) 12 k (S.2.1 46 k)) 13 k (S.2.1 47 k)) 37 = S.2.1 37
        rw [u2_ro _ _ _ (show 37 ≠ 13 by decide), u2_ro _ _ _ (show 37 ≠ 12 by decide), u2_ro _ _ _ (show 37 ≠ 11 by decide)]; exact h6 2 (by omega) (by omega)
      · show (u2 (u2 (u2 S1.2.1 11 k (S.2.1 45 k)) 12 k (S.2.1 46 k)) 13 k (S.2.1 47 k)) 38 = S.2.1 38
        rw [u2_ro _ _ _ (show 38 ≠ 13 by decide), u2_ro _ _ _ (show 38 ≠ 12 by decide), u2_ro _ _ _ (show 38 ≠ 11 by decide)]; exact h6 3 (by omega) (by omega)
      · show (u2 (u2 (u2 S1.2.1 11 k (S.2.1 45 k)) 12 k (S.2.1 46 k)) 13 k (S.2.1 47 k)) 39 = S.2.1 39
        rw [u2_ro _ _ _ (show 39 ≠ 13 by decide), u2_ro _ _ _ (show 39 ≠ 12 by decide), u2_ro _ _ _ (show 39 ≠ 11 by decide)]; exact h6 4 (by omega) (by omega)
      · show (u2 (u2 (u2 S1.2.1 11 k (S.2.1 45 k)) 12 k (S.2.1 46 k)) 13 k (S.2.1 47 k)) 40 = S.2.1 40
        rw [u2_ro _ _ _ (show 40 ≠ 13 by decide), u2_ro _ _ _ (show 40 ≠ 12 by decide), u2_ro _ _ _ (show 40 ≠ 11 by decide)]; exact h6 5 (by omega) (by omega)
      · show (u2 (u2 (u2 S1.2.1 11 k (S.2.1 45 k)) 12 k (S.2.1 46 k)) 13 k (S.2.1 47 k)) 41 = S.2.1 41
        rw [u2_ro _ _ _ (show 41 ≠ 13 by decide), u2_ro _ _ _ (show 41 ≠ 12 by decide), u2_ro _ _ _ (show 41 ≠ 11 by decide)]; exact h6 6 (by omega) (by omega)
      · show (u2 (u2 (u2 S1.2.1 11 k (S.2.1 45 k)) 12 k (S.2.1 46 k)) 13 k (S.2.1 47 k)) 42 = S.2.1 42
        rw [u2_ro _ _ _ (show 42 ≠ 13 by decide), u2_ro _ _ _ (show 42 ≠ 12 by decide), u2_ro _ _ _ (show 42 ≠ 11 by decide)]; exact h6 7 (by omega) (by omega)
      · show (u2 (u2 (u2 S1.2.1 11 k (S.2.1 45 k)) 12 k (S.2.1 46 k)) 13 k (S.2.1 47 k)) 43 = S.2.1 43
        rw [u2_ro _ _ _ (show 43 ≠ 13 by decide), u2_ro _ _ _ (show 43 ≠ 12 by decide), u2_ro _ _ _ (show 43 ≠ 11 by decide)]; exact h6 8 (by omega) (by omega)
      · show (u2 (u2 (u2 S1.2.1 11 k (S.2.1 45 k)) 12 k (S.2.1 46 k)) 13 k (S.2.1 47 k)) 44 = S.2.1 44
        rw [u2_ro _ _ _ (show 44 ≠ 13 by decide), u2_ro _ _ _ (show 44 ≠ 12 by decide), u2_ro _ _ _ (show 44 ≠ 11 by decide)]; exact h6 9 (by omega) (by omega)
      · show (u2 (u2 (u2 S1.2.1 11 k (S.2.1 45 k)) 12 k (S.2.1 46 k)) 13 k (S.2.1 47 k)) 45 = S.2.1 45
        rw [u2_ro _ _ _ (show 45 ≠ 13 by decide), u2_ro _ _ _ (show 45 ≠ 12 by decide), u2_ro _ _ _ (show 45 ≠ 11 by decide)]; exact h6 10 (by omega) (by omega)
      · show (u2 (u2 (u2 S1.2.1 11 k (S.2.1 45 k)) 12 k (S.2.1 46 k)) 13 k (S.2.1 47 k)) 46 = S.2.1 46
        rw [u2_ro _ _ _ (show 46 ≠ 13 by decide), u2_ro _ _ _ (show 46 ≠ 12 by decide), u2_ro _ _ _ (show 46 ≠ 11 by decide)]; exact h6 11 (by omega) (by omega)
      · show (u2 (u2 (u2 S1.2.1 11 k (S.2.1 45 k)) 12 k (S.2.1 46 k)) 13 k (S.2.1 47 k)) 47 = S.2.1 47
        rw [u2_ro _ _ _ (show 47 ≠ 13 by decide), u2_ro _ _ _ (show 47 ≠ 12 by decide), u2_ro _ _ _ (show 47 ≠ 11 by decide)]; exact h6 12 (by omega) (by omega)
      · show (u2 (u2 (u2 S1.2.1 11 k (S.2.1 45 k)) 12 k (S.2.1 46 k)) 13 k (S.2.1 47 k)) 48 = S.2.1 48
        rw [u2_ro _ _ _ (show 48 ≠ 13 by decide), u2_ro _ _ _ (show 48 ≠ 12 by decide), u2_ro _ _ _ (show 48 ≠ 11 by decide)]; exact h6 13 (by omega) (by omega)
    · exact h7
theorem cpl116_1_35 (x : XT) (S : ST) (hq : ∀ l, l < 6 → qk x (S.2.2.2 49 l) = true) (ho : ∀ g, g < 10 → inb (S.2.1 40 g) 2 = true) : ∀ (m k fuel : Nat) (S1 : ST), k + m = 5 → m < fuel → CI S S1 1 35 10 k 0 0 0 → ∃ S2, lfX7_copyFrom_1_35_116 x fuel S1 (iN k) = some ((), S2) ∧ CI S S2 1 35 10 5 6 3 6
  | 0, k, fuel, S1, hk, hf, h => by
    obtain ⟨fuel, rfl⟩ : ∃ z, fuel = z + 1 := ⟨fuel - 1, by omega⟩
    have : k = 5 := by omega
    subst this
    rw [lfX7_copyFrom_1_35_116, bfX7_copyFrom_1_35_116, if_pos (show (5 : Int32) ≤ iN 5 by decide)]
    rw [show (0 : Int32) = iN 0 from rfl]
    exact cpl177_1_35 x S hq ho 6 0 20000 S1 (by omega) (by omega) h
  | m + 1, k, fuel, S1, hk, hf, h => by
    obtain ⟨fuel, rfl⟩ : ∃ z, fuel = z + 1 := ⟨fuel - 1, by omega⟩
    obtain ⟨h0, h1, h2, h3, h4, h5, h6, h7⟩ := h
    rw [lfX7_copyFrom_1_35_116, bfX7_copyFrom_1_35_116, if_neg (show ¬ (5 : Int32) ≤ iN k from fun hh => by have := (iN_le (m := 5) (by omega) (by omega)).mp hh; omega), inb_t (show k < 5 by omega) (by omega), iN_nat (by omega), iN_succ]
    simp only [cond_true]
    have e6 : S1.2.1 41 = S.2.1 41 := h6 6 (by omega) (by omega)
    have e7 : S1.2.1 42 = S.2.1 42 := h6 7 (by omega) (by omega)
    have e8 : S1.2.1 43 = S.2.1 43 := h6 8 (by omega) (by omega)
    have e9 : S1.2.1 44 = S.2.1 44 := h6 9 (by omega) (by omega)
    rw [e6, e7, e8, e9]
    refine cpl116_1_35 x S hq ho m (k + 1) fuel (S1.1, (u2 (u2 (u2 (u2 S1.2.1 7 k (S.2.1 41 k)) 8 k (S.2.1 42 k)) 9 k (S.2.1 43 k)) 10 k (S.2.1 44 k)), S1.2.2.1, S1.2.2.2) (by omega) (by omega) ⟨h0, ?_, ?_, ?_, ?_, ?_, ?_, ?_⟩
    · intro i hi1 hi2
      have hi3 : i = 1 ∨ i = 2 ∨ i = 3 ∨ i = 4 ∨ i = 5 := by omega
      rcases hi3 with rfl | rfl | rfl | rfl | rfl
      · intro j hj
        show (u2 (u2 (u2 (u2 S1.2.1 7 k (S.2.1 41 k)) 8 k (S.2.1 42 k)) 9 k (S.2.1 43 k)) 10 k (S.2.1 44 k)) 2 j = S.2.1 36 j
        rw [u2_ro _ _ _ (show 2 ≠ 10 by decide), u2_ro _ _ _ (show 2 ≠ 9 by decide), u2_ro _ _ _ (show 2 ≠ 8 by decide), u2_ro _ _ _ (show 2 ≠ 7 by decide)]
        exact h1 1 (by omega) (by omega) j hj
      · intro j hj
        show (u2 (u2 (u2 (u2 S1.2.1 7 k (S.2.1 41 k)) 8 k (S.2.1 42 k)) 9 k (S.2.1 43 k)) 10 k (S.2.1 44 k)) 3 j = S.2.1 37 j
        rw [u2_ro _ _ _ (show 3 ≠ 10 by decide), u2_ro _ _ _ (show 3 ≠ 9 by decide), u2_ro _ _ _ (show 3 ≠ 8 by decide), u2_ro _ _ _ (show 3 ≠ 7 by decide)]
        exact h1 2 (by omega) (by omega) j hj
      · intro j hj
        show (u2 (u2 (u2 (u2 S1.2.1 7 k (S.2.1 41 k)) 8 k (S.2.1 42 k)) 9 k (S.2.1 43 k)) 10 k (S.2.1 44 k)) 4 j = S.2.1 38 j
        rw [u2_ro _ _ _ (show 4 ≠ 10 by decide), u2_ro _ _ _ (show 4 ≠ 9 by decide), u2_ro _ _ _ (show 4 ≠ 8 by decide), u2_ro _ _ _ (show 4 ≠ 7 by decide)]
        exact h1 3 (by omega) (by omega) j hj
      · intro j hj
        show (u2 (u2 (u2 (u2 S1.2.1 7 k (S.2.1 41 k)) 8 k (S.2.1 42 k)) 9 k (S.2.1 43 k)) 10 k (S.2.1 44 k)) 5 j = S.2.1 39 j
        rw [u2_ro _ _ _ (show 5 ≠ 10 by decide), u2_ro _ _ _ (show 5 ≠ 9 by decide), u2_ro _ _ _ (show 5 ≠ 8 by decide), u2_ro _ _ _ (show 5 ≠ 7 by decide)]
        exact h1 4 (by omega) (by omega) j hj
      · intro j hj
        show (u2 (u2 (u2 (u2 S1.2.1 7 k (S.2.1 41 k)) 8 k (S.2.1 42 k)) 9 k (S.2.1 43 k)) 10 k (S.2.1 44 k)) 6 j = S.2.1 40 j
        rw [u2_ro _ _ _ (show 6 ≠ 10 by decide), u2_ro _ _ _ (show 6 ≠ 9 by decide), u2_ro _ _ _ (show 6 ≠ 8 by decide), u2_ro _ _ _ (show 6 ≠ 7 by decide)]
        exact h1 5 (by omega) (by omega) j hj
    · intro i hi1 hi2
      have hi3 : i = 6 ∨ i = 7 ∨ i = 8 ∨ i = 9 := by omega
      rcases hi3 with rfl | rfl | rfl | rfl
      · intro j hj
        show (u2 (u2 (u2 (u2 S1.2.1 7 k (S.2.1 41 k)) 8 k (S.2.1 42 k)) 9 k (S.2.1 43 k)) 10 k (S.2.1 44 k)) 7 j = S.2.1 41 j
        rw [u2_ro _ _ _ (show 7 ≠ 10 by decide), u2_ro _ _ _ (show 7 ≠ 9 by decide), u2_ro _ _ _ (show 7 ≠ 8 by decide)]
        refine cp1 (B := S.2.1 41) (fun j hj => ?_) rfl j hj
        exact h2 6 (by omega) (by omega) j hj
      · intro j hj
        show (u2 (u2 (u2 (u2 S1.2.1 7 k (S.2.1 41 k)) 8 k (S.2.1 42 k)) 9 k (S.2.1 43 k)) 10 k (S.2.1 44 k)) 8 j = S.2.1 42 j
        rw [u2_ro _ _ _ (show 8 ≠ 10 by decide), u2_ro _ _ _ (show 8 ≠ 9 by decide)]
        refine cp1 (B := S.2.1 42) (fun j hj => ?_) rfl j hj
        rw [u2_ro _ _ _ (show 8 ≠ 7 by decide)]
        exact h2 7 (by omega) (by omega) j hj
      · intro j hj
        show (u2 (u2 (u2 (u2 S1.2.1 7 k (S.2.1 41 k)) 8 k (S.2.1 42 k)) 9 k (S.2.1 43 k)) 10 k (S.2.1 44 k)) 9 j = S.2.1 43 j
        rw [u2_ro _ _ _ (show 9 ≠ 10 by decide)]
        refine cp1 (B := S.2.1 43) (fun j hj => ?_) rfl j hj
        rw [u2_ro _ _ _ (show 9 ≠ 8 by decide), u2_ro _ _ _ (show 9 ≠ 7 by decide)]
        exact h2 8 (by omega) (by omega) j hj
      · intro j hj
        show (u2 (u2 (u2 (u2 S1.2.1 7 k (S.2.1 41 k)) 8 k (S.2.1 42 k)) 9 k (S.2.1 43 k)) 10 k (S.2.1 44 k)) 10 j = S.2.1 44 j
        refine cp1 (B := S.2.1 44) (fun j hj => ?_) rfl j hj
        rw [u2_ro _ _ _ (show 10 ≠ 9 by decide), u2_ro _ _ _ (show 10 ≠ 8 by decide), u2_ro _ _ _ (show 10 ≠ 7 by decide)]
        exact h2 9 (by omega) (by omega) j hj
    · intro i hi1 hi2
      have hi3 : i = 10 ∨ i = 11 ∨ i = 12 := by omega
      rcases hi3 with rfl | rfl | rfl
      · intro j hj
        show (u2 (u2 (u2 (u2 S1.2.1 7 k (S.2.1 41 k)) 8 k (S.2.1 42 k)) 9 k (S.2.1 43 k)) 10 k (S.2.1 44 k)) 11 j = S.2.1 45 j
        rw [u2_ro _ _ _ (show 11 ≠ 10 by decide), u2_ro _ _ _ (show 11 ≠ 9 by decide), u2_ro _ _ _ (show 11 ≠ 8 by decide), u2_ro _ _ _ (show 11 ≠ 7 by decide)]
        exact h3 10 (by omega) (by omega) j hj
      · intro j hj
        show (u2 (u2 (u2 (u2 S1.2.1 7 k (S.2.1 41 k)) 8 k (S.2.1 42 k)) 9 k (S.2.1 43 k)) 10 k (S.2.1 44 k)) 12 j = S.2.1 46 j
        rw [u2_ro _ _ _ (show 12 ≠ 10 by decide), u2_ro _ _ _ (show 12 ≠ 9 by decide), u2_ro _ _ _ (show 12 ≠ 8 by decide), u2_ro _ _ _ (show 12 ≠ 7 by decide)]
        exact h3 11 (by omega) (by omega) j hj
      · intro j hj
        show (u2 (u2 (u2 (u2 S1.2.1 7 k (S.2.1 41 k)) 8 k (S.2.1 42 k)) 9 k (S.2.1 43 k)) 10 k (S.2.1 44 k)) 13 j = S.2.1 47 j
        rw [u2_ro _ _ _ (show 13 ≠ 10 by decide), u2_ro _ _ _ (show 13 ≠ 9 by decide), u2_ro _ _ _ (show 13 ≠ 8 by decide), u2_ro _ _ _ (show 13 ≠ 7 by decide)]
        exact h3 12 (by omega) (by omega) j hj
    · intro j hj
      show (u2 (u2 (u2 (u2 S1.2.1 7 k (S.2.1 41 k)) 8 k (S.2.1 42 k)) 9 k (S.2.1 43 k)) 10 k (S.2.1 44 k)) 14 j = S.2.1 48 j
      rw [u2_ro _ _ _ (show 14 ≠ 10 by decide), u2_ro _ _ _ (show 14 ≠ 9 by decide), u2_ro _ _ _ (show 14 ≠ 8 by decide), u2_ro _ _ _ (show 14 ≠ 7 by decide)]
      exact h4 j hj
    · exact h5
    · intro i hi1 hi2
      have hi3 : i = 1 ∨ i = 2 ∨ i = 3 ∨ i = 4 ∨ i = 5 ∨ i = 6 ∨ i = 7 ∨ i = 8 ∨ i = 9 ∨ i = 10 ∨ i = 11 ∨ i = 12 ∨ i = 13 := by omega
      rcases hi3 with rfl | rfl | rfl | rfl | rfl | rfl | rfl | rfl | rfl | rfl | rfl | rfl | rfl
      · show (u2 (u2 (u2 (u2 S1.2.1 7 k (S.2.1 41 k)) 8 k (S.2.1 42 k)) 9 k (S.2.1 43 k)) 10 k (S.2.1 44 k)) 36 = S.2.1 36
        rw [u2_ro _ _ _ (show 36 ≠ 10 by decide), u2_ro _ _ _ (show 36 ≠ 9 by decide), u2_ro _ _ _ (show 36 ≠ 8 by decide), u2_ro _ _ _ (show 36 ≠ 7 by decide)]; exact h6 1 (by omega) (by omega)
      · show (u2 (u2 (u2 (u2 S1.2.1 7 k (S.2.1 41 k)) 8 k (S.2.1 42 k)) 9 k (S.2.1 43 k)) 10 k (S.2.1 44 k)) 37 = S.2.1 37
        rw [u2_ro _ _ _ (show 37 ≠ 10 by decide), u2_ro _ _ _ (show 37 ≠ 9 by decide), u2_ro _ _ _ (show 37 ≠ 8 by decide), u2_ro _ _ _ (show 37 ≠ 7 by decide)]; exact h6 2 (by omega) (by omega)
      · show (u2 (u2 (u2 (u2 S1.2.1 7 k (S.2.1 41 k)) 8 k (S.2.1 42 k)) 9 k (S.2.1 43 k)) 10 k (S.2.1 44 k)) 38 = S.2.1 38
        rw [u2_ro _ _ _ (show 38 ≠ 10 by decide), u2_ro _ _ _ (show 38 ≠ 9 by decide), u2_ro _ _ _ (show 38 ≠ 8 by decide), u2_ro _ _ _ (show 38 ≠ 7 by decide)]; exact h6 3 (by omega) (by omega)
      · show (u2 (u2 (u2 (u2 S1.2.1 7 k (S.2.1 41 k)) 8 k (S.2.1 42 k)) 9 k (S.2.1 43 k)) 10 k (S.2.1 44 k)) 39 = S.2.1 39
        rw [u2_ro _ _ _ (show 39 ≠ 10 by decide), u2_ro _ _ _ (show 39 ≠ 9 by decide), u2_ro _ _ _ (show 39 ≠ 8 by decide), u2_ro _ _ _ (show 39 ≠ 7 by decide)]; exact h6 4 (by omega) (by omega)
      · show (u2 (u2 (u2 (u2 S1.2.1 7 k (S.2.1 41 k)) 8 k (S.2.1 42 k)) 9 k (S.2.1 43 k)) 10 k (S.2.1 44 k)) 40 = S.2.1 40
        rw [u2_ro _ _ _ (show 40 ≠ 10 by decide), u2_ro _ _ _ (show 40 ≠ 9 by decide), u2_ro _ _ _ (show 40 ≠ 8 by decide), u2_ro _ _ _ (show 40 ≠ 7 by decide)]; exact h6 5 (by omega) (by omega)
      · show (u2 (u2 (u2 (u2 S1.2.1 7 k (S.2.1 41 k)) 8 k (S.2.1 42 k)) 9 k (S.2.1 43 k)) 10 k (S.2.1 44 k)) 41 = S.2.1 41
        rw [u2_ro _ _ _ (show 41 ≠ 10 by decide), u2_ro _ _ _ (show 41 ≠ 9 by decide), u2_ro _ _ _ (show 41 ≠ 8 by decide), u2_ro _ _ _ (show 41 ≠ 7 by decide)]; exact h6 6 (by omega) (by omega)
      · show (u2 (u2 (u2 (u2 S1.2.1 7 k (S.2.1 41 k)) 8 k (S.2.1 42 k)) 9 k (S.2.1 43 k)) 10 k (S.2.1 44 k)) 42 = S.2.1 42
        rw [u2_ro _ _ _ (show 42 ≠ 10 by decide), u2_ro _ _ _ (show 42 ≠ 9 by decide), u2_ro _ _ _ (show 42 ≠ 8 by decide), u2_ro _ _ _ (show 42 ≠ 7 by decide)]; exact h6 7 (by omega) (by omega)
      · show (u2 (u2 (u2 (u2 S1.2.1 7 k (S.2.1 41 k)) 8 k (S.2.1 42 k)) 9 k (S.2.1 43 k)) 10 k (S.2.1 44 k)) 43 = S.2.1 43
        rw [u2_ro _ _ _ (show 43 ≠ 10 by decide), u2_ro _ _ _ (show 43 ≠ 9 by decide), u2_ro _ _ _ (show 43 ≠ 8 by decide), u2_ro _ _ _ (show 43 ≠ 7 by decide)]; exact h6 8 (by omega) (by omega)
      · show (u2 (u2 (u2 (u2 S1.2.1 7 k (S.2.1 41 k)) 8 k (S.2.1 42 k)) 9 k (S.2.1 43 k)) 10 k (S.2.1 44 k)) 44 = S.2.1 44
        rw [u2_ro _ _ _ (show 44 ≠ 10 by decide), u2_ro _ _ _ (show 44 ≠ 9 by decide), u2_ro _ _ _ (show 44 ≠ 8 by decide), u2_ro _ _ _ (show 44 ≠ 7 by decide)]; exact h6 9 (by omega) (by omega)
      · show (u2 (u2 (u2 (u2 S1.2.1 7 k (S.2.1 41 k)) 8 k (S.2.1 42 k)) 9 k (S.2.1 43 k)) 10 k (S.2.1 44 k)) 45 = S.2.1 45
        rw [u2_ro _ _ _ (show 45 ≠ 10 by decide), u2_ro _ _ _ (show 45 ≠ 9 by decide), u2_ro _ _ _ (show 45 ≠ 8 by decide), u2_ro _ _ _ (show 45 ≠ 7 by decide)]; exact h6 10 (by omega) (by omega)
      · show (u2 (u2 (u2 (u2 S1.2.1 7 k (S.2.1 41 k)) 8 k (S.2.1 42 k)) 9 k (S.2.1 43 k)) 10 k (S.2.1 44 k)) 46 = S.2.1 46
        rw [u2_ro _ _ _ (show 46 ≠ 10 by decide), u2_ro _ _ _ (show 46 ≠ 9 by decide), u2_ro _ _ _ (show 46 ≠ 8 by decide), u2_ro _ _ _ (show 46 ≠ 7 by decide)]; exact h6 11 (by omega) (by omega)
      · show (u2 (u2 (u2 (u2 S1.2.1 7 k (S.2.1 41 k)) 8 k (S.2.1 42 k)) 9 k (S.2.1 43 k)) 10 k (S.2.1 44 k)) 47 = S.2.1 47
        rw [u2_ro _ _ _ (show 47 ≠ 10 by decide), u2_ro _ _ _ (show 47 ≠ 9 by decide), u2_ro _ _ _ (show 47 ≠ 8 by decide), u2_ro _ _ _ (show 47 ≠ 7 by decide)]; exact h6 12 (by omega) (by omega)
      · show (u2 (u2 (u2 (u2 S1.2.1 7 k (S.2.1 41 k)) 8 k (S.2.1 42 k)) 9 k (S.2.1 43 k)) 10 k (S.2.1 44 k)) 48 = S.2.1 48
        rw [u2_ro _ _ _ (show 48 ≠ 10 by decide), u2_ro _ _ _ (show 48 ≠ 9 by decide), u2_ro _ _ _ (show 48 ≠ 8 by decide), u2_ro _ _ _ (show 48 ≠ 7 by decide)]; exact h6 13 (by omega) (by omega)
    · exact h7
theorem cpl42_1_35 (x : XT) (S : ST) (hq : ∀ l, l < 6 → qk x (S.2.2.2 49 l) = true) (ho : ∀ g, g < 10 → inb (S.2.1 40 g) 2 = true) : ∀ (m k fuel : Nat) (S1 : ST), k + m = 10 → m < fuel → CI S S1 1 35 k 0 0 0 0 → ∃ S2, lfX7_copyFrom_1_35_42 x fuel S1 (iN k) = some ((), S2) ∧ CI S S2 1 35 10 5 6 3 6
  | 0, k, fuel, S1, hk, hf, h => by
    obtain ⟨fuel, rfl⟩ : ∃ z, fuel = z + 1 := ⟨fuel - 1, by omega⟩
    have : k = 10 := by omega
    subst this
    rw [lfX7_copyFrom_1_35_42, bfX7_copyFrom_1_35_42, if_pos (show (10 : Int32) ≤ iN 10 by decide)]
    rw [show (0 : Int32) = iN 0 from rfl]
    exact cpl116_1_35 x S hq ho 5 0 20000 S1 (by omega) (by omega) h
  | m + 1, k, fuel, S1, hk, hf, h => by
    obtain ⟨fuel, rfl⟩ : ∃ z, fuel = z + 1 := ⟨fuel - 1, by omega⟩
    obtain ⟨h0, h1, h2, h3, h4, h5, h6, h7⟩ := h
    rw [lfX7_copyFrom_1_35_42, bfX7_copyFrom_1_35_42, if_neg (show ¬ (10 : Int32) ≤ iN k from fun hh => by have := (iN_le (m := 10) (by omega) (by omega)).mp hh; omega), inb_t (show k < 10 by omega) (by omega), iN_nat (by omega), iN_succ]
    simp only [cond_true]
    have e1 : S1.2.1 36 = S.2.1 36 := h6 1 (by omega) (by omega)
    have e2 : S1.2.1 37 = S.2.1 37 := h6 2 (by omega) (by omega)
    have e3 : S1.2.1 38 = S.2.1 38 := h6 3 (by omega) (by omega)
    have e4 : S1.2.1 39 = S.2.1 39 := h6 4 (by omega) (by omega)
    have e5 : S1.2.1 40 = S.2.1 40 := h6 5 (by omega) (by omega)
    rw [e1, e2, e3, e4, e5]
    rw [nar_b (ho k (by omega))]
    refine cpl42_1_35 x S hq ho m (k + 1) fuel (S1.1, (u2 (u2 (u2 (u2 (u2 S1.2.1 2 k (S.2.1 36 k)) 3 k (S.2.1 37 k)) 4 k (S.2.1 38 k)) 5 k (S.2.1 39 k)) 6 k (S.2.1 40 k)), S1.2.2.1, S1.2.2.2) (by omega) (by omega) ⟨h0, ?_, ?_, ?_, ?_, ?_, ?_, ?_⟩
    · intro i hi1 hi2
      have hi3 : i = 1 ∨ i = 2 ∨ i = 3 ∨ i = 4 ∨ i = 5 := by omega
      rcases hi3 with rfl | rfl | rfl | rfl | rfl
      · intro j hj
        show (u2 (u2 (u2 (u2 (u2 S1.2.1 2 k (S.2.1 36 k)) 3 k (S.2.1 37 k)) 4 k (S.2.1 38 k)) 5 k (S.2.1 39 k)) 6 k (S.2.1 40 k)) 2 j = S.2.1 36 j
        rw [u2_ro _ _ _ (show 2 ≠ 6 by decide), u2_ro _ _ _ (show 2 ≠ 5 by decide), u2_ro _ _ _ (show 2 ≠ 4 by decide), u2_ro _ _ _ (show 2 ≠ 3 by decide)]
        refine cp1 (B := S.2.1 36) (fun j hj => ?_) rfl j hj
        exact h1 1 (by omega) (by omega) j hj
      · intro j hj
        show (u2 (u2 (u2 (u2 (u2 S1.2.1 2 k (S.2.1 36 k)) 3 k (S.2.1 37 k)) 4 k (S.2.1 38 k)) 5 k (S.2.1 39 k)) 6 k (S.2.1 40 k)) 3 j = S.2.1 37 j
        rw [u2_ro _ _ _ (show 3 ≠ 6 by decide), u2_ro _ _ _ (show 3 ≠ 5 by decide), u2_ro _ _ _ (show 3 ≠ 4 by decide)]
        refine cp1 (B := S.2.1 37) (fun j hj => ?_) rfl j hj
        rw [u2_ro _ _ _ (show 3 ≠ 2 by decide)]
        exact h1 2 (by omega) (by omega) j hj
      · intro j hj
        show (u2 (u2 (u2 (u2 (u2 S1.2.1 2 k (S.2.1 36 k)) 3 k (S.2.1 37 k)) 4 k (S.2.1 38 k)) 5 k (S.2.1 39 k)) 6 k (S.2.1 40 k)) 4 j = S.2.1 38 j
        rw [u2_ro _ _ _ (show 4 ≠ 6 by decide), u2_ro _ _ _ (show 4 ≠ 5 by decide)]
        refine cp1 (B := S.2.1 38) (fun j hj => ?_) rfl j hj
        rw [u2_ro _ _ _ (show 4 ≠ 3 by decide), u2_ro _ _ _ (show 4 ≠ 2 by decide)]
        exact h1 3 (by omega) (by omega) j hj
      · intro j hj
        show (u2 (u2 (u2 (u2 (u2 S1.2.1 2 k (S.2.1 36 k)) 3 k (S.2.1 37 k)) 4 k (S.2.1 38 k)) 5 k (S.2.1 39 k)) 6 k (S.2.1 40 k)) 5 j = S.2.1 39 j
        rw [u2_ro _ _ _ (show 5 ≠ 6 by decide)]
        refine cp1 (B := S.2.1 39) (fun j hj => ?_) rfl j hj
        rw [u2_ro _ _ _ (show 5 ≠ 4 by decide), u2_ro _ _ _ (show 5 ≠ 3 by decide), u2_ro _ _ _ (show 5 ≠ 2 by decide)]
        exact h1 4 (by omega) (by omega) j hj
      · intro j hj
        show (u2 (u2 (u2 (u2 (u2 S1.2.1 2 k (S.2.1 36 k)) 3 k (S.2.1 37 k)) 4 k (S.2.1 38 k)) 5 k (S.2.1 39 k)) 6 k (S.2.1 40 k)) 6 j = S.2.1 40 j
        refine cp1 (B := S.2.1 40) (fun j hj => ?_) rfl j hj
        rw [u2_ro _ _ _ (show 6 ≠ 5 by decide), u2_ro _ _ _ (show 6 ≠ 4 by decide), u2_ro _ _ _ (show 6 ≠ 3 by decide), u2_ro _ _ _ (show 6 ≠ 2 by decide)]
        exact h1 5 (by omega) (by omega) j hj
    · intro i hi1 hi2
      have hi3 : i = 6 ∨ i = 7 ∨ i = 8 ∨ i = 9 := by omega
      rcases hi3 with rfl | rfl | rfl | rfl
      · intro j hj
        show (u2 (u2 (u2 (u2 (u2 S1.2.1 2 k (S.2.1 36 k)) 3 k (S.2.1 37 k)) 4 k (S.2.1 38 k)) 5 k (S.2.1 39 k)) 6 k (S.2.1 40 k)) 7 j = S.2.1 41 j
        rw [u2_ro _ _ _ (show 7 ≠ 6 by decide), u2_ro _ _ _ (show 7 ≠ 5 by decide), u2_ro _ _ _ (show 7 ≠ 4 by decide), u2_ro _ _ _ (show 7 ≠ 3 by decide), u2_ro _ _ _ (show 7 ≠ 2 by decide)]
        exact h2 6 (by omega) (by omega) j hj
      · intro j hj
        show (u2 (u2 (u2 (u2 (u2 S1.2.1 2 k (S.2.1 36 k)) 3 k (S.2.1 37 k)) 4 k (S.2.1 38 k)) 5 k (S.2.1 39 k)) 6 k (S.2.1 40 k)) 8 j = S.2.1 42 j
        rw [u2_ro _ _ _ (show 8 ≠ 6 by decide), u2_ro _ _ _ (show 8 ≠ 5 by decide), u2_ro _ _ _ (show 8 ≠ 4 by decide), u2_ro _ _ _ (show 8 ≠ 3 by decide), u2_ro _ _ _ (show 8 ≠ 2 by decide)]
        exact h2 7 (by omega) (by omega) j hj
      · intro j hj
        show (u2 (u2 (u2 (u2 (u2 S1.2.1 2 k (S.2.1 36 k)) 3 k (S.2.1 37 k)) 4 k (S.2.1 38 k)) 5 k (S.2.1 39 k)) 6 k (S.2.1 40 k)) 9 j = S.2.1 43 j
        rw [u2_ro _ _ _ (show 9 ≠ 6 by decide), u2_ro _ _ _ (show 9 ≠ 5 by decide), u2_ro _ _ _ (show 9 ≠ 4 by decide), u2_ro _ _ _ (show 9 ≠ 3 by decide), u2_ro _ _ _ (show 9 ≠ 2 by decide)]
        exact h2 8 (by omega) (by omega) j hj
      · intro j hj
        show (u2 (u2 (u2 (u2 (u2 S1.2.1 2 k (S.2.1 36 k)) 3 k (S.2.1 37 k)) 4 k (S.2.1 38 k)) 5 k (S.2.1 39 k)) 6 k (S.2.1 40 k)) 10 j = S.2.1 44 j
        rw [u2_ro _ _ _ (show 10 ≠ 6 by decide), u2_ro _ _ _ (show 10 ≠ 5 by decide), u2_ro _ _ _ (show 10 ≠ 4 by decide), u2_ro _ _ _ (show 10 ≠ 3 by decide), u2_ro _ _ _ (show 10 ≠ 2 by decide)]
        exact h2 9 (by omega) (by omega) j hj
    · intro i hi1 hi2
      have hi3 : i = 10 ∨ i = 11 ∨ i = 12 := by omega
      rcases hi3 with rfl | rfl | rfl
      · intro j hj
        show (u2 (u2 (u2 (u2 (u2 S1.2.1 2 k (S.2.1 36 k)) 3 k (S.2.1 37 k)) 4 k (S.2.1 38 k)) 5 k (S.2.1 39 k)) 6 k (S.2.1 40 k)) 11 j = S.2.1 45 j
        rw [u2_ro _ _ _ (show 11 ≠ 6 by decide), u2_ro _ _ _ (show 11 ≠ 5 by decide), u2_ro _ _ _ (show 11 ≠ 4 by decide), u2_ro _ _ _ (show 11 ≠ 3 by decide), u2_ro _ _ _ (show 11 ≠ 2 by decide)]
        exact h3 10 (by omega) (by omega) j hj
      · intro j hj
        show (u2 (u2 (u2 (u2 (u2 S1.2.1 2 k (S.2.1 36 k)) 3 k (S.2.1 37 k)) 4 k (S.2.1 38 k)) 5 k (S.2.1 39 k)) 6 k (S.2.1 40 k)) 12 j = S.2.1 46 j
        rw [u2_ro _ _ _ (show 12 ≠ 6 by decide), u2_ro _ _ _ (show 12 ≠ 5 by decide), u2_ro _ _ _ (show 12 ≠ 4 by decide), u2_ro _ _ _ (show 12 ≠ 3 by decide), u2_ro _ _ _ (show 12 ≠ 2 by decide)]
        exact h3 11 (by omega) (by omega) j hj
      · intro j hj
        show (u2 (u2 (u2 (u2 (u2 S1.2.1 2 k (S.2.1 36 k)) 3 k (S.2.1 37 k)) 4 k (S.2.1 38 k)) 5 k (S.2.1 39 k)) 6 k (S.2.1 40 k)) 13 j = S.2.1 47 j
        rw [u2_ro _ _ _ (show 13 ≠ 6 by decide), u2_ro _ _ _ (show 13 ≠ 5 by decide), u2_ro _ _ _ (show 13 ≠ 4 by decide), u2_ro _ _ _ (show 13 ≠ 3 by decide), u2_ro _ _ _ (show 13 ≠ 2 by decide)]
        exact h3 12 (by omega) (by omega) j hj
    · intro j hj
      show (u2 (u2 (u2 (u2 (u2 S1.2.1 2 k (S.2.1 36 k)) 3 k (S.2.1 37 k)) 4 k (S.2.1 38 k)) 5 k (S.2.1 39 k)) 6 k (S.2.1 40 k)) 14 j = S.2.1 48 j
      rw [u2_ro _ _ _ (show 14 ≠ 6 by decide), u2_ro _ _ _ (show 14 ≠ 5 by decide), u2_ro _ _ _ (show 14 ≠ 4 by decide), u2_ro _ _ _ (show 14 ≠ 3 by decide), u2_ro _ _ _ (show 14 ≠ 2 by decide)]
      exact h4 j hj
    · exact h5
    · intro i hi1 hi2
      have hi3 : i = 1 ∨ i = 2 ∨ i = 3 ∨ i = 4 ∨ i = 5 ∨ i = 6 ∨ i = 7 ∨ i = 8 ∨ i = 9 ∨ i = 10 ∨ i = 11 ∨ i = 12 ∨ i = 13 := by omega
      rcases hi3 with rfl | rfl | rfl | rfl | rfl | rfl | rfl | rfl | rfl | rfl | rfl | rfl | rfl
      · show (u2 (u2 (u2 (u2 (u2 S1.2.1 2 k (S.2.1 36 k)) 3 k (S.2.1 37 k)) 4 k (S.2.1 38 k)) 5 k (S.2.1 39 k)) 6 k (S.2.1 40 k)) 36 = S.2.1 36
        rw [u2_ro _ _ _ (show 36 ≠ 6 by decide), u2_ro _ _ _ (show 36 ≠ 5 by decide), u2_ro _ _ _ (show 36 ≠ 4 by decide), u2_ro _ _ _ (show 36 ≠ 3 by decide), u2_ro _ _ _ (show 36 ≠ 2 by decide)]; exact h6 1 (by omega) (by omega)
      · show (u2 (u2 (u2 (u2 (u2 S1.2.1 2 k (S.2.1 36 k)) 3 k (S.2.1 37 k)) 4 k (S.2.1 38 k)) 5 k (S.2.1 39 k)) 6 k (S.2.1 40 k)) 37 = S.2.1 37
        rw [u2_ro _ _ _ (show 37 ≠ 6 by decide), u2_ro _ _ _ (show 37 ≠ 5 by decide), u2_ro _ _ _ (show 37 ≠ 4 by decide), u2_ro _ _ _ (show 37 ≠ 3 by decide), u2_ro _ _ _ (show 37 ≠ 2 by decide)]; exact h6 2 (by omega) (by omega)
      · show (u2 (u2 (u2 (u2 (u2 S1.2.1 2 k (S.2.1 36 k)) 3 k (S.2.1 37 k)) 4 k (S.2.1 38 k)) 5 k (S.2.1 39 k)) 6 k (S.2.1 40 k)) 38 = S.2.1 38
        rw [u2_ro _ _ _ (show 38 ≠ 6 by decide), u2_ro _ _ _ (show 38 ≠ 5 by decide), u2_ro _ _ _ (show 38 ≠ 4 by decide), u2_ro _ _ _ (show 38 ≠ 3 by decide), u2_ro _ _ _ (show 38 ≠ 2 by decide)]; exact h6 3 (by omega) (by omega)
      · show (u2 (u2 (u2 (u2 (u2 S1.2.1 2 k (S.2.1 36 k)) 3 k (S.2.1 37 k)) 4 k (S.2.1 38 k)) 5 k (S.2.1 39 k)) 6 k (S.2.1 40 k)) 39 = S.2.1 39
        rw [u2_ro _ _ _ (show 39 ≠ 6 by decide), u2_ro _ _ _ (show 39 ≠ 5 by decide), u2_ro _ _ _ (show 39 ≠ 4 by decide), u2_ro _ _ _ (show 39 ≠ 3 by decide), u2_ro _ _ _ (show 39 ≠ 2 by decide)]; exact h6 4 (by omega) (by omega)
      · show (u2 (u2 (u2 (u2 (u2 S1.2.1 2 k (S.2.1 36 k)) 3 k (S.2.1 37 k)) 4 k (S.2.1 38 k)) 5 k (S.2.1 39 k)) 6 k (S.2.1 40 k)) 40 = S.2.1 40
        rw [u2_ro _ _ _ (show 40 ≠ 6 by decide), u2_ro _ _ _ (show 40 ≠ 5 by decide), u2_ro _ _ _ (show 40 ≠ 4 by decide), u2_ro _ _ _ (show 40 ≠ 3 by decide), u2_ro _ _ _ (show 40 ≠ 2 by decide)]; exact h6 5 (by omega) (by omega)
      · show (u2 (u2 (u2 (u2 (u2 S1.2.1 2 k (S.2.1 36 k)) 3 k (S.2.1 37 k)) 4 k (S.2.1 38 k)) 5 k (S.2.1 39 k)) 6 k (S.2.1 40 k)) 41 = S.2.1 41
        rw [u2_ro _ _ _ (show 41 ≠ 6 by decide), u2_ro _ _ _ (show 41 ≠ 5 by decide), u2_ro _ _ _ (show 41 ≠ 4 by decide), u2_ro _ _ _ (show 41 ≠ 3 by decide), u2_ro _ _ _ (show 41 ≠ 2 by decide)]; exact h6 6 (by omega) (by omega)
      · show (u2 (u2 (u2 (u2 (u2 S1.2.1 2 k (S.2.1 36 k)) 3 k (S.2.1 37 k)) 4 k (S.2.1 38 k)) 5 k (S.2.1 39 k)) 6 k (S.2.1 40 k)) 42 = S.2.1 42
        rw [u2_ro _ _ _ (show 42 ≠ 6 by decide), u2_ro _ _ _ (show 42 ≠ 5 by decide), u2_ro _ _ _ (show 42 ≠ 4 by decide), u2_ro _ _ _ (show 42 ≠ 3 by decide), u2_ro _ _ _ (show 42 ≠ 2 by decide)]; exact h6 7 (by omega) (by omega)
      · show (u2 (u2 (u2 (u2 (u2 S1.2.1 2 k (S.2.1 36 k)) 3 k (S.2.1 37 k)) 4 k (S.2.1 38 k)) 5 k (S.2.1 39 k)) 6 k (S.2.1 40 k)) 43 = S.2.1 43
        rw [u2_ro _ _ _ (show 43 ≠ 6 by decide), u2_ro _ _ _ (show 43 ≠ 5 by decide), u2_ro _ _ _ (show 43 ≠ 4 by decide), u2_ro _ _ _ (show 43 ≠ 3 by decide), u2_ro _ _ _ (show 43 ≠ 2 by decide)]; exact h6 8 (by omega) (by omega)
      · show (u2 (u2 (u2 (u2 (u2 S1.2.1 2 k (S.2.1 36 k)) 3 k (S.2.1 37 k)) 4 k (S.2.1 38 k)) 5 k (S.2.1 39 k)) 6 k (S.2.1 40 k)) 44 = S.2.1 44
        rw [u2_ro _ _ _ (show 44 ≠ 6 by decide), u2_ro _ _ _ (show 44 ≠ 5 by decide), u2_ro _ _ _ (show 44 ≠ 4 by decide), u2_ro _ _ _ (show 44 ≠ 3 by decide), u2_ro _ _ _ (show 44 ≠ 2 by decide)]; exact h6 9 (by omega) (by omega)
      · show (u2 (u2 (u2 (u2 (u2 S1.2.1 2 k (S.2.1 36 k)) 3 k (S.2.1 37 k)) 4 k (S.2.1 38 k)) 5 k (S.2.1 39 k)) 6 k (S.2.1 40 k)) 45 = S.2.1 45
        rw [u2_ro _ _ _ (show 45 ≠ 6 by decide), u2_ro _ _ _ (show 45 ≠ 5 by decide), u2_ro _ _ _ (show 45 ≠ 4 by decide), u2_ro _ _ _ (show 45 ≠ 3 by decide), u2_ro _ _ _ (show 45 ≠ 2 by decide)]; exact h6 10 (by omega) (by omega)
      · show (u2 (u2 (u2 (u2 (u2 S1.2.1 2 k (S.2.1 36 k)) 3 k (S.2.1 37 k)) 4 k (S.2.1 38 k)) 5 k (S.2.1 39 k)) 6 k (S.2.1 40 k)) 46 = S.2.1 46
        rw [u2_ro _ _ _ (show 46 ≠ 6 by decide), u2_ro _ _ _ (show 46 ≠ 5 by decide), u2_ro _ _ _ (show 46 ≠ 4 by decide), u2_ro _ _ _ (show 46 ≠ 3 by decide), u2_ro _ _ _ (show 46 ≠ 2 by decide)]; exact h6 11 (by omega) (by omega)
      · show (u2 (u2 (u2 (u2 (u2 S1.2.1 2 k (S.2.1 36 k)) 3 k (S.2.1 37 k)) 4 k (S.2.1 38 k)) 5 k (S.2.1 39 k)) 6 k (S.2.1 40 k)) 47 = S.2.1 47
        rw [u2_ro _ _ _ (show 47 ≠ 6 by decide), u2_ro _ _ _ (show 47 ≠ 5 by decide), u2_ro _ _ _ (show 47 ≠ 4 by decide), u2_ro _ _ _ (show 47 ≠ 3 by decide), u2_ro _ _ _ (show 47 ≠ 2 by decide)]; exact h6 12 (by omega) (by omega)
      · show (u2 (u2 (u2 (u2 (u2 S1.2.1 2 k (S.2.1 36 k)) 3 k (S.2.1 37 k)) 4 k (S.2.1 38 k)) 5 k (S.2.1 39 k)) 6 k (S.2.1 40 k)) 48 = S.2.1 48
        rw [u2_ro _ _ _ (show 48 ≠ 6 by decide), u2_ro _ _ _ (show 48 ≠ 5 by decide), u2_ro _ _ _ (show 48 ≠ 4 by decide), u2_ro _ _ _ (show 48 ≠ 3 by decide), u2_ro _ _ _ (show 48 ≠ 2 by decide)]; exact h6 13 (by omega) (by omega)
    · exact h7
theorem copy1_35 (x : XT) (S : ST) (hq : ∀ l, l < 6 → qk x (S.2.2.2 49 l) = true) (ho : ∀ g, g < 10 → inb (S.2.1 40 g) 2 = true) : ∃ S2, gfX7_copyFrom_1_35 x S = some ((), S2) ∧ CI S S2 1 35 10 5 6 3 6 := by
  unfold gfX7_copyFrom_1_35 bfX7_copyFrom_1_35_0
  rw [show (0 : Int32) = iN 0 from rfl]
  refine cpl42_1_35 x S hq ho 10 0 20000 _ (by omega) (by omega) ⟨⟨?_, ?_, ?_, ?_, ?_⟩, fun i _ _ j hj => by omega, fun i _ _ j hj => by omega, fun i _ _ j hj => by omega, fun j hj => by omega, fun j hj => by omega, fun _ _ _ => rfl, rfl⟩
  · show (u2 (u2 (u2 (u2 (u2 S.1 1 0 (S.1 35 0)) 1 6 (S.1 35 6)) 1 11 (S.1 35 11)) 1 16 (S.1 35 16)) 1 18 (S.1 35 18)) 1 0 = _
    rw [u2_k _ _ _ (show 0 ≠ 18 by decide), u2_k _ _ _ (show 0 ≠ 16 by decide), u2_k _ _ _ (show 0 ≠ 11 by decide), u2_k _ _ _ (show 0 ≠ 6 by decide), u2_s]
  · show (u2 (u2 (u2 (u2 (u2 S.1 1 0 (S.1 35 0)) 1 6 (S.1 35 6)) 1 11 (S.1 35 11)) 1 16 (S.1 35 16)) 1 18 (S.1 35 18)) 1 6 = _
    rw [u2_k _ _ _ (show 6 ≠ 18 by decide), u2_k _ _ _ (show 6 ≠ 16 by decide), u2_k _ _ _ (show 6 ≠ 11 by decide), u2_s]
  · show (u2 (u2 (u2 (u2 (u2 S.1 1 0 (S.1 35 0)) 1 6 (S.1 35 6)) 1 11 (S.1 35 11)) 1 16 (S.1 35 16)) 1 18 (S.1 35 18)) 1 11 = _
    rw [u2_k _ _ _ (show 11 ≠ 18 by decide), u2_k _ _ _ (show 11 ≠ 16 by decide), u2_s]
  · show (u2 (u2 (u2 (u2 (u2 S.1 1 0 (S.1 35 0)) 1 6 (S.1 35 6)) 1 11 (S.1 35 11)) 1 16 (S.1 35 16)) 1 18 (S.1 35 18)) 1 16 = _
    rw [u2_k _ _ _ (show 16 ≠ 18 by decide), u2_s]
  · show (u2 (u2 (u2 (u2 (u2 S.1 1 0 (S.1 35 0)) 1 6 (S.1 35 6)) 1 11 (S.1 35 11)) 1 16 (S.1 35 16)) 1 18 (S.1 35 18)) 1 18 = _
    rw [u2_s]
theorem cpl252_55_1 (x : XT) (S : ST) (hq : ∀ l, l < 6 → qk x (S.2.2.2 15 l) = true) (ho : ∀ g, g < 10 → inb (S.2.1 6 g) 2 = true) : ∀ (m k fuel : Nat) (S1 : ST), k + m = 6 → m < fuel → CI S S1 55 1 10 5 6 3 k → ∃ S2, lfX7_copyFrom_55_1_252 x fuel S1 (iN k) = some ((), S2) ∧ CI S S2 55 1 10 5 6 3 6
  | 0, k, fuel, S1, hk, hf, h => by
    obtain ⟨fuel, rfl⟩ : ∃ z, fuel = z + 1 := ⟨fuel - 1, by omega⟩
    have : k = 6 := by omega
    subst this
    rw [lfX7_copyFrom_55_1_252, bfX7_copyFrom_55_1_252, if_pos (show (6 : Int32) ≤ iN 6 by decide)]
    exact ⟨S1, rfl, h⟩
  | m + 1, k, fuel, S1, hk, hf, h => by
    obtain ⟨fuel, rfl⟩ : ∃ z, fuel = z + 1 := ⟨fuel - 1, by omega⟩
    obtain ⟨h0, h1, h2, h3, h4, h5, h6, h7⟩ := h
    rw [lfX7_copyFrom_55_1_252, bfX7_copyFrom_55_1_252, if_neg (show ¬ (6 : Int32) ≤ iN k from fun hh => by have := (iN_le (m := 6) (by omega) (by omega)).mp hh; omega), inb_t (show k < 6 by omega) (by omega), iN_nat (by omega), iN_succ]
    simp only [cond_true]
    have e7 : S1.2.2.2 15 = S.2.2.2 15 := h7
    rw [e7, hq k (by omega), cond_true]
    refine cpl252_55_1 x S hq ho m (k + 1) fuel (S1.1, S1.2.1, S1.2.2.1, u2 S1.2.2.2 69 k (S.2.2.2 15 k)) (by omega) (by omega) ⟨h0, ?_, ?_, ?_, ?_, ?_, ?_, ?_⟩
    · exact h1
    · exact h2
    · exact h3
    · exact h4
    · exact cp1 (A := S1.2.2.2) (B := S.2.2.2 15) h5 rfl
    · exact h6
    · show u2 S1.2.2.2 69 k (S.2.2.2 15 k) 15 = _
      rw [u2_ro _ _ _ (show 15 ≠ 69 by decide)]; exact h7
theorem cpl227_55_1 (x : XT) (S : ST) (hq : ∀ l, l < 6 → qk x (S.2.2.2 15 l) = true) (ho : ∀ g, g < 10 → inb (S.2.1 6 g) 2 = true) : ∀ (m k fuel : Nat) (S1 : ST), k + m = 3 → m < fuel → CI S S1 55 1 10 5 6 k 0 → ∃ S2, lfX7_copyFrom_55_1_227 x fuel S1 (iN k) = some ((), S2) ∧ CI S S2 55 1 10 5 6 3 6
  | 0, k, fuel, S1, hk, hf, h => by
    obtain ⟨fuel, rfl⟩ : ∃ z, fuel = z + 1 := ⟨fuel - 1, by omega⟩
    have : k = 3 := by omega
    subst this
    rw [lfX7_copyFrom_55_1_227, bfX7_copyFrom_55_1_227, if_pos (show (3 : Int32) ≤ iN 3 by decide)]
    rw [show (0 : Int32) = iN 0 from rfl]
    exact cpl252_55_1 x S hq ho 6 0 20000 S1 (by omega) (by omega) h
  | m + 1, k, fuel, S1, hk, hf, h => by
    obtain ⟨fuel, rfl⟩ : ∃ z, fuel = z + 1 := ⟨fuel - 1, by omega⟩
    obtain ⟨h0, h1, h2, h3, h4, h5, h6, h7⟩ := h
    rw [lfX7_copyFrom_55_1_227, bfX7_copyFrom_55_1_227, if_neg (show ¬ (3 : Int32) ≤ iN k from fun hh => by have := (iN_le (m := 3) (by omega) (by omega)).mp hh; omega), inb_t (show k < 3 by omega) (by omega), iN_nat (by omega), iN_succ]
    simp only [cond_true]
    have e13 : S1.2.1 14 = S.2.1 14 := h6 13 (by omega) (by omega)
    rw [e13]
    refine cpl227_55_1 x S hq ho m (k + 1) fuel (S1.1, (u2 S1.2.1 68 k (S.2.1 14 k)), S1.2.2.1, S1.2.2.2) (by omega) (by omega) ⟨h0, ?_, ?_, ?_, ?_, ?_, ?_, ?_⟩
    · intro i hi1 hi2
      have hi3 : i = 1 ∨ i = 2 ∨ i = 3 ∨ i = 4 ∨ i = 5 := by omega
      rcases hi3 with rfl | rfl | rfl | rfl | rfl
      · intro j hj
        show (u2 S1.2.1 68 k (S.2.1 14 k)) 56 j = S.2.1 2 j
        rw [u2_ro _ _ _ (show 56 ≠ 68 by decide)]
        exact h1 1 (by omega) (by omega) j hj
      · intro j hj
        show (u2 S1.2.1 68 k (S.2.1 14 k)) 57 j = S.2.1 3 j
        rw [u2_ro _ _ _ (show 57 ≠ 68 by decide)]
        exact h1 2 (by omega) (by omega) j hj
      · intro j hj
        show (u2 S1.2.1 68 k (S.2.1 14 k)) 58 j = S.2.1 4 j
        rw [u2_ro _ _ _ (show 58 ≠ 68 by decide)]
        exact h1 3 (by omega) (by omega) j hj
      · intro j hj
        show (u2 S1.2.1 68 k (S.2.1 14 k)) 59 j = S.2.1 5 j
        rw [u2_ro _ _ _ (show 59 ≠ 68 by decide)]
        exact h1 4 (by omega) (by omega) j hj
      · intro j hj
        show (u2 S1.2.1 68 k (S.2.1 14 k)) 60 j = S.2.1 6 j
        rw [u2_ro _ _ _ (show 60 ≠ 68 by decide)]
        exact h1 5 (by omega) (by omega) j hj
    · intro i hi1 hi2
      have hi3 : i = 6 ∨ i = 7 ∨ i = 8 ∨ i = 9 := by omega
      rcases hi3 with rfl | rfl | rfl | rfl
      · intro j hj
        show (u2 S1.2.1 68 k (S.2.1 14 k)) 61 j = S.2.1 7 j
        rw [u2_ro _ _ _ (show 61 ≠ 68 by decide)]
        exact h2 6 (by omega) (by omega) j hj
      · intro j hj
        show (u2 S1.2.1 68 k (S.2.1 14 k)) 62 j = S.2.1 8 j
        rw [u2_ro _ _ _ (show 62 ≠ 68 by decide)]
        exact h2 7 (by omega) (by omega) j hj
      · intro j hj
        show (u2 S1.2.1 68 k (S.2.1 14 k)) 63 j = S.2.1 9 j
        rw [u2_ro _ _ _ (show 63 ≠ 68 by decide)]
        exact h2 8 (by omega) (by omega) j hj
      · intro j hj
        show (u2 S1.2.1 68 k (S.2.1 14 k)) 64 j = S.2.1 10 j
        rw [u2_ro _ _ _ (show 64 ≠ 68 by decide)]
        exact h2 9 (by omega) (by omega) j hj
    · intro i hi1 hi2
      have hi3 : i = 10 ∨ i = 11 ∨ i = 12 := by omega
      rcases hi3 with rfl | rfl | rfl
      · intro j hj
        show (u2 S1.2.1 68 k (S.2.1 14 k)) 65 j = S.2.1 11 j
        rw [u2_ro _ _ _ (show 65 ≠ 68 by decide)]
        exact h3 10 (by omega) (by omega) j hj
      · intro j hj
        show (u2 S1.2.1 68 k (S.2.1 14 k)) 66 j = S.2.1 12 j
        rw [u2_ro _ _ _ (show 66 ≠ 68 by decide)]
        exact h3 11 (by omega) (by omega) j hj
      · intro j hj
        show (u2 S1.2.1 68 k (S.2.1 14 k)) 67 j = S.2.1 13 j
        rw [u2_ro _ _ _ (show 67 ≠ 68 by decide)]
        exact h3 12 (by omega) (by omega) j hj
    · exact cp1 (A := S1.2.1) (B := S.2.1 14) h4 rfl
    · exact h5
    · intro i hi1 hi2
      have hi3 : i = 1 ∨ i = 2 ∨ i = 3 ∨ i = 4 ∨ i = 5 ∨ i = 6 ∨ i = 7 ∨ i = 8 ∨ i = 9 ∨ i = 10 ∨ i = 11 ∨ i = 12 ∨ i = 13 := by omega
      rcases hi3 with rfl | rfl | rfl | rfl | rfl | rfl | rfl | rfl | rfl | rfl | rfl | rfl | rfl
      · show (u2 S1.2.1 68 k (S.2.1 14 k)) 2 = S.2.1 2
        rw [u2_ro _ _ _ (show 2 ≠ 68 by decide)]; exact h6 1 (by omega) (by omega)
      · show (u2 S1.2.1 68 k (S.2.1 14 k)) 3 = S.2.1 3
        rw [u2_ro _ _ _ (show 3 ≠ 68 by decide)]; exact h6 2 (by omega) (by omega)
      · show (u2 S1.2.1 68 k (S.2.1 14 k)) 4 = S.2.1 4
        rw [u2_ro _ _ _ (show 4 ≠ 68 by decide)]; exact h6 3 (by omega) (by omega)
      · show (u2 S1.2.1 68 k (S.2.1 14 k)) 5 = S.2.1 5
        rw [u2_ro _ _ _ (show 5 ≠ 68 by decide)]; exact h6 4 (by omega) (by omega)
      · show (u2 S1.2.1 68 k (S.2.1 14 k)) 6 = S.2.1 6
        rw [u2_ro _ _ _ (show 6 ≠ 68 by decide)]; exact h6 5 (by omega) (by omega)
      · show (u2 S1.2.1 68 k (S.2.1 14 k)) 7 = S.2.1 7
        rw [u2_ro _ _ _ (show 7 ≠ 68 by decide)]; exact h6 6 (by omega) (by omega)
      · show (u2 S1.2.1 68 k (S.2.1 14 k)) 8 = S.2.1 8
        rw [u2_ro _ _ _ (show 8 ≠ 68 by decide)]; exact h6 7 (by omega) (by omega)
      · show (u2 S1.2.1 68 k (S.2.1 14 k)) 9 = S.2.1 9
        rw [u2_ro _ _ _ (show 9 ≠ 68 by decide)]; exact h6 8 (by omega) (by omega)
      · show (u2 S1.2.1 68 k (S.2.1 14 k)) 10 = S.2.1 10
        rw [u2_ro _ _ _ (show 10 ≠ 68 by decide)]; exact h6 9 (by omega) (by omega)
      · show (u2 S1.2.1 68 k (S.2.1 14 k)) 11 = S.2.1 11
        rw [u2_ro _ _ _ (show 11 ≠ 68 by decide)]; exact h6 10 (by omega) (by omega)
      · show (u2 S1.2.1 68 k (S.2.1 14 k)) 12 = S.2.1 12
        rw [u2_ro _ _ _ (show 12 ≠ 68 by decide)]; exact h6 11 (by omega) (by omega)
      · show (u2 S1.2.1 68 k (S.2.1 14 k)) 13 = S.2.1 13
        rw [u2_ro _ _ _ (show 13 ≠ 68 by decide)]; exact h6 12 (by omega) (by omega)
      · show (u2 S1.2.1 68 k (S.2.1 14 k)) 14 = S.2.1 14
        rw [u2_ro _ _ _ (show 14 ≠ 68 by decide)]; exact h6 13 (by omega) (by omega)
    · exact h7
theorem cpl177_55_1 (x : XT) (S : ST) (hq : ∀ l, l < 6 → qk x (S.2.2.2 15 l) = true) (ho : ∀ g, g < 10 → inb (S.2.1 6 g) 2 = true) : ∀ (m k fuel : Nat) (S1 : ST), k + m = 6 → m < fuel → CI S S1 55 1 10 5 k 0 0 → ∃ S2, lfX7_copyFrom_55_1_177 x fuel S1 (iN k) = some ((), S2) ∧ CI S S2 55 1 10 5 6 3 6
  | 0, k, fuel, S1, hk, hf, h => by
    obtain ⟨fuel, rfl⟩ : ∃ z, fuel = z + 1 := ⟨fuel - 1, by omega⟩
    have : k = 6 := by omega
    subst this
    rw [lfX7_copyFrom_55_1_177, bfX7_copyFrom_55_1_177, if_pos (show (6 : Int32) ≤ iN 6 by decide)]
    rw [show (0 : Int32) = iN 0 from rfl]
    exact cpl227_55_1 x S hq ho 3 0 20000 S1 (by omega) (by omega) h
  | m + 1, k, fuel, S1, hk, hf, h => by
    obtain ⟨fuel, rfl⟩ : ∃ z, fuel = z + 1 := ⟨fuel - 1, by omega⟩
    obtain ⟨h0, h1, h2, h3, h4, h5, h6, h7⟩ := h
    rw [lfX7_copyFrom_55_1_177, bfX7_copyFrom_55_1_177, if_neg (show ¬ (6 : Int32) ≤ iN k from fun hh => by have := (iN_le (m := 6) (by omega) (by omega)).mp hh; omega), inb_t (show k < 6 by omega) (by omega), iN_nat (by omega), iN_succ]
    simp only [cond_true]
    have e10 : S1.2.1 11 = S.2.1 11 := h6 10 (by omega) (by omega)
    have e11 : S1.2.1 12 = S.2.1 12 := h6 11 (by omega) (by omega)
    have e12 : S1.2.1 13 = S.2.1 13 := h6 12 (by omega) (by omega)
    rw [e10, e11, e12]
    refine cpl177_55_1 x S hq ho m (k + 1) fuel (S1.1, (u2 (u2 (u2 S1.2.1 65 k (S.2.1 11 k)) 66 k (S.2.1 12 k)) 67 k (S.2.1 13 k)), S1.2.2.1, S1.2.2.2) (by omega) (by omega) ⟨h0, ?_, ?_, ?_, ?_, ?_, ?_, ?_⟩
    · intro i hi1 hi2
      have hi3 : i = 1 ∨ i = 2 ∨ i = 3 ∨ i = 4 ∨ i = 5 := by omega
      rcases hi3 with rfl | rfl | rfl | rfl | rfl
      · intro j hj
        show (u2 (u2 (u2 S1.2.1 65 k (S.2.1 11 k)) 66 k (S.2.1 12 k)) 67 k (S.2.1 13 k)) 56 j = S.2.1 2 j
        rw [u2_ro _ _ _ (show 56 ≠ 67 by decide), u2_ro _ _ _ (show 56 ≠ 66 by decide), u2_ro _ _ _ (show 56 ≠ 65 by decide)]
        exact h1 1 (by omega) (by omega) j hj
      · intro j hj
        show (u2 (u2 (u2 S1.2.1 65 k (S.2.1 11 k)) 66 k (S.2.1 12 k)) 67 k (S.2.1 13 k)) 57 j = S.2.1 3 j
        rw [u2_ro _ _ _ (show 57 ≠ 67 by decide), u2_ro _ _ _ (show 57 ≠ 66 by decide), u2_ro _ _ _ (show 57 ≠ 65 by decide)]
        exact h1 2 (by omega) (by omega) j hj
      · intro j hj
        show (u2 (u2 (u2 S1.2.1 65 k (S.2.1 11 k)) 66 k (S.2.1 12 k)) 67 k (S.2.1 13 k)) 58 j = S.2.1 4 j
        rw [u2_ro _ _ _ (show 58 ≠ 67 by decide), u2_ro _ _ _ (show 58 ≠ 66 by decide), u2_ro _ _ _ (show 58 ≠ 65 by decide)]
        exact h1 3 (by omega) (by omega) j hj
      · intro j hj
        show (u2 (u2 (u2 S1.2.1 65 k (S.2.1 11 k)) 66 k (S.2.1 12 k)) 67 k (S.2.1 13 k)) 59 j = S.2.1 5 j
        rw [u2_ro _ _ _ (show 59 ≠ 67 by decide), u2_ro _ _ _ (show 59 ≠ 66 by decide), u2_ro _ _ _ (show 59 ≠ 65 by decide)]
        exact h1 4 (by omega) (by omega) j hj
      · intro j hj
        show (u2 (u2 (u2 S1.2.1 65 k (S.2.1 11 k)) 66 k (S.2.1 12 k)) 67 k (S.2.1 13 k)) 60 j = S.2.1 6 j
        rw [u2_ro _ _ _ (show 60 ≠ 67 by decide), u2_ro _ _ _ (show 60 ≠ 66 by decide), u2_ro _ _ _ (show 60 ≠ 65 by decide)]
        exact h1 5 (by omega) (by omega) j hj
    · intro i hi1 hi2
      have hi3 : i = 6 ∨ i = 7 ∨ i = 8 ∨ i = 9 := by omega
      rcases hi3 with rfl | rfl | rfl | rfl
      · intro j hj
        show (u2 (u2 (u2 S1.2.1 65 k (S.2.1 11 k)) 66 k (S.2.1 12 k)) 67 k (S.2.1 13 k)) 61 j = S.2.1 7 j
        rw [u2_ro _ _ _ (show 61 ≠ 67 by decide), u2_ro _ _ _ (show 61 ≠ 66 by decide), u2_ro _ _ _ (show 61 ≠ 65 by decide)]
        exact h2 6 (by omega) (by omega) j hj
      · intro j hj
        show (u2 (u2 (u2 S1.2.1 65 k (S.2.1 11 k)) 66 k (S.2.1 12 k)) 67 k (S.2.1 13 k)) 62 j = S.2.1 8 j
        rw [u2_ro _ _ _ (show 62 ≠ 67 by decide), u2_ro _ _ _ (show 62 ≠ 66 by decide), u2_ro _ _ _ (show 62 ≠ 65 by decide)]
        exact h2 7 (by omega) (by omega) j hj
      · intro j hj
        show (u2 (u2 (u2 S1.2.1 65 k (S.2.1 11 k)) 66 k (S.2.1 12 k)) 67 k (S.2.1 13 k)) 63 j = S.2.1 9 j
        rw [u2_ro _ _ _ (show 63 ≠ 67 by decide), u2_ro _ _ _ (show 63 ≠ 66 by decide), u2_ro _ _ _ (show 63 ≠ 65 by decide)]
        exact h2 8 (by omega) (by omega) j hj
      · intro j hj
        show (u2 (u2 (u2 S1.2.1 65 k (S.2.1 11 k)) 66 k (S.2.1 12 k)) 67 k (S.2.1 13 k)) 64 j = S.2.1 10 j
        rw [u2_ro _ _ _ (show 64 ≠ 67 by decide), u2_ro _ _ _ (show 64 ≠ 66 by decide), u2_ro _ _ _ (show 64 ≠ 65 by decide)]
        exact h2 9 (by omega) (by omega) j hj
    · intro i hi1 hi2
      have hi3 : i = 10 ∨ i = 11 ∨ i = 12 := by omega
      rcases hi3 with rfl | rfl | rfl
      · intro j hj
        show (u2 (u2 (u2 S1.2.1 65 k (S.2.1 11 k)) 66 k (S.2.1 12 k)) 67 k (S.2.1 13 k)) 65 j = S.2.1 11 j
        rw [u2_ro _ _ _ (show 65 ≠ 67 by decide), u2_ro _ _ _ (show 65 ≠ 66 by decide)]
        refine cp1 (B := S.2.1 11) (fun j hj => ?_) rfl j hj
        exact h3 10 (by omega) (by omega) j hj
      · intro j hj
        show (u2 (u2 (u2 S1.2.1 65 k (S.2.1 11 k)) 66 k (S.2.1 12 k)) 67 k (S.2.1 13 k)) 66 j = S.2.1 12 j
        rw [u2_ro _ _ _ (show 66 ≠ 67 by decide)]
        refine cp1 (B := S.2.1 12) (fun j hj => ?_) rfl j hj
        rw [u2_ro _ _ _ (show 66 ≠ 65 by decide)]
        exact h3 11 (by omega) (by omega) j hj
      · intro j hj
        show (u2 (u2 (u2 S1.2.1 65 k (S.2.1 11 k)) 66 k (S.2.1 12 k)) 67 k (S.2.1 13 k)) 67 j = S.2.1 13 j
        refine cp1 (B := S.2.1 13) (fun j hj => ?_) rfl j hj
        rw [u2_ro _ _ _ (show 67 ≠ 66 by decide), u2_ro _ _ _ (show 67 ≠ 65 by decide)]
        exact h3 12 (by omega) (by omega) j hj
    · intro j hj
      show (u2 (u2 (u2 S1.2.1 65 k (S.2.1 11 k)) 66 k (S.2.1 12 k)) 67 k (S.2.1 13 k)) 68 j = S.2.1 14 j
      rw [u2_ro _ _ _ (show 68 ≠ 67 by decide), u2_ro _ _ _ (show 68 ≠ 66 by decide), u2_ro _ _ _ (show 68 ≠ 65 by decide)]
      exact h4 j hj
    · exact h5
    · intro i hi1 hi2
      have hi3 : i = 1 ∨ i = 2 ∨ i = 3 ∨ i = 4 ∨ i = 5 ∨ i = 6 ∨ i = 7 ∨ i = 8 ∨ i = 9 ∨ i = 10 ∨ i = 11 ∨ i = 12 ∨ i = 13 := by omega
      rcases hi3 with rfl | rfl | rfl | rfl | rfl | rfl | rfl | rfl | rfl | rfl | rfl | rfl | rfl
      · show (u2 (u2 (u2 S1.2.1 65 k (S.2.1 11 k)) 66 k (S.2.1 12 k)) 67 k (S.2.1 13 k)) 2 = S.2.1 2
        rw [u2_ro _ _ _ (show 2 ≠ 67 by decide), u2_ro _ _ _ (show 2 ≠ 66 by decide), u2_ro _ _ _ (show 2 ≠ 65 by decide)]; exact h6 1 (by omega) (by omega)
      · show (u2 (u2 (u2 S1.2.1 65 k (S.2.1 11 k)) 66 k (S.2.1 12 k)) 67 k (S.2.1 13 k)) 3 = S.2.1 3
        rw [u2_ro _ _ _ (show 3 ≠ 67 by decide), u2_ro _ _ _ (show 3 ≠ 66 by decide), u2_ro _ _ _ (show 3 ≠ 65 by decide)]; exact h6 2 (by omega) (by omega)
      · show (u2 (u2 (u2 S1.2.1 65 k (S.2.1 11 k)) 66 k (S.2.1 12 k)) 67 k (S.2.1 13 k)) 4 = S.2.1 4
        rw [u2_ro _ _ _ (show 4 ≠ 67 by decide), u2_ro _ _ _ (show 4 ≠ 66 by decide), u2_ro _ _ _ (show 4 ≠ 65 by decide)]; exact h6 3 (by omega) (by omega)
      · show (u2 (u2 (u2 S1.2.1 65 k (S.2.1 11 k)) 66 k (S.2.1 12 k)) 67 k (S.2.1 13 k)) 5 = S.2.1 5
        rw [u2_ro _ _ _ (show 5 ≠ 67 by decide), u2_ro _ _ _ (show 5 ≠ 66 by decide), u2_ro _ _ _ (show 5 ≠ 65 by decide)]; exact h6 4 (by omega) (by omega)
      · show (u2 (u2 (u2 S1.2.1 65 k (S.2.1 11 k)) 66 k (S.2.1 12 k)) 67 k (S.2.1 13 k)) 6 = S.2.1 6
        rw [u2_ro _ _ _ (show 6 ≠ 67 by decide), u2_ro _ _ _ (show 6 ≠ 66 by decide), u2_ro _ _ _ (show 6 ≠ 65 by decide)]; exact h6 5 (by omega) (by omega)
      · show (u2 (u2 (u2 S1.2.1 65 k (S.2.1 11 k)) 66 k (S.2.1 12 k)) 67 k (S.2.1 13 k)) 7 = S.2.1 7
        rw [u2_ro _ _ _ (show 7 ≠ 67 by decide), u2_ro _ _ _ (show 7 ≠ 66 by decide), u2_ro _ _ _ (show 7 ≠ 65 by decide)]; exact h6 6 (by omega) (by omega)
      · show (u2 (u2 (u2 S1.2.1 65 k (S.2.1 11 k)) 66 k (S.2.1 12 k)) 67 k (S.2.1 13 k)) 8 = S.2.1 8
        rw [u2_ro _ _ _ (show 8 ≠ 67 by decide), u2_ro _ _ _ (show 8 ≠ 66 by decide), u2_ro _ _ _ (show 8 ≠ 65 by decide)]; exact h6 7 (by omega) (by omega)
      · show (u2 (u2 (u2 S1.2.1 65 k (S.2.1 11 k)) 66 k (S.2.1 12 k)) 67 k (S.2.1 13 k)) 9 = S.2.1 9
        rw [u2_ro _ _ _ (show 9 ≠ 67 by decide), u2_ro _ _ _ (show 9 ≠ 66 by decide), u2_ro _ _ _ (show 9 ≠ 65 by decide)]; exact h6 8 (by omega) (by omega)
      · show (u2 (u2 (u2 S1.2.1 65 k (S.2.1 11 k)) 66 k (S.2.1 12 k)) 67 k (S.2.1 13 k)) 10 = S.2.1 10
        rw [u2_ro _ _ _ (show 10 ≠ 67 by decide), u2_ro _ _ _ (show 10 ≠ 66 by decide), u2_ro _ _ _ (show 10 ≠ 65 by decide)]; exact h6 9 (by omega) (by omega)
      · show (u2 (u2 (u2 S1.2.1 65 k (S.2.1 11 k)) 66 k (S.2.1 12 k)) 67 k (S.2.1 13 k)) 11 = S.2.1 11
        rw [u2_ro _ _ _ (show 11 ≠ 67 by decide), u2_ro _ _ _ (show 11 ≠ 66 by decide), u2_ro _ _ _ (show 11 ≠ 65 by decide)]; exact h6 10 (by omega) (by omega)
      · show (u2 (u2 (u2 S1.2.1 65 k (S.2.1 11 k)) 66 k (S.2.1 12 k)) 67 k (S.2.1 13 k)) 12 = S.2.1 12
        rw [u2_ro _ _ _ (show 12 ≠ 67 by decide), u2_ro _ _ _ (show 12 ≠ 66 by decide), u2_ro _ _ _ (show 12 ≠ 65 by decide)]; exact h6 11 (by omega) (by omega)
      · show (u2 (u2 (u2 S1.2.1 65 k (S.2.1 11 k)) 66 k (S.2.1 12 k)) 67 k (S.2.1 13 k)) 13 = S.2.1 13
        rw [u2_ro _ _ _ (show 13 ≠ 67 by decide), u2_ro _ _ _ (show 13 ≠ 66 by decide), u2_ro _ _ _ (show 13 ≠ 65 by decide)]; exact h6 12 (by omega) (by omega)
      · show (u2 (u2 (u2 S1.2.1 65 k (S.2.1 11 k)) 66 k (S.2.1 12 k)) 67 k (S.2.1 13 k)) 14 = S.2.1 14
        rw [u2_ro _ _ _ (show 14 ≠ 67 by decide), u2_ro _ _ _ (show 14 ≠ 66 by decide), u2_ro _ _ _ (show 14 ≠ 65 by decide)]; exact h6 13 (by omega) (by omega)
    · exact h7
theorem cpl116_55_1 (x : XT) (S : ST) (hq : ∀ l, l < 6 → qk x (S.2.2.2 15 l) = true) (ho : ∀ g, g < 10 → inb (S.2.1 6 g) 2 = true) : ∀ (m k fuel : Nat) (S1 : ST), k + m = 5 → m < fuel → CI S S1 55 1 10 k 0 0 0 → ∃ S2, lfX7_copyFrom_55_1_116 x fuel S1 (iN k) = some ((), S2) ∧ CI S S2 55 1 10 5 6 3 6
  | 0, k, fuel, S1, hk, hf, h => by
    obtain ⟨fuel, rfl⟩ : ∃ z, fuel = z + 1 := ⟨fuel - 1, by omega⟩
    have : k = 5 := by omega
    subst this
    rw [lfX7_copyFrom_55_1_116, bfX7_copyFrom_55_1_116, if_pos (show (5 : Int32) ≤ iN 5 by decide)]
    rw [show (0 : Int32) = iN 0 from rfl]
    exact cpl177_55_1 x S hq ho 6 0 20000 S1 (by omega) (by omega) h
  | m + 1, k, fuel, S1, hk, hf, h => by
    obtain ⟨fuel, rfl⟩ : ∃ z, fuel = z + 1 := ⟨fuel - 1, by omega⟩
    obtain ⟨h0, h1, h2, h3, h4, h5, h6, h7⟩ := h
    rw [lfX7_copyFrom_55_1_116, bfX7_copyFrom_55_1_116, if_neg (show ¬ (5 : Int32) ≤ iN k from fun hh => by have := (iN_le (m := 5) (by omega) (by omega)).mp hh; omega), inb_t (show k < 5 by omega) (by omega), iN_nat (by omega), iN_succ]
    simp only [cond_true]
    have e6 : S1.2.1 7 = S.2.1 7 := h6 6 (by omega) (by omega)
    have e7 : S1.2.1 8 = S.2.1 8 := h6 7 (by omega) (by omega)
    have e8 : S1.2.1 9 = S.2.1 9 := h6 8 (by omega) (by omega)
    have e9 : S1.2.1 10 = S.2.1 10 := h6 9 (by omega) (by omega)
    rw [e6, e7, e8, e9]
    refine cpl116_55_1 x S hq ho m (k + 1) fuel (S1.1, (u2 (u2 (u2 (u2 S1.2.1 61 k (S.2.1 7 k)) 62 k (S.2.1 8 k)) 63 k (S.2.1 9 k)) 64 k (S.2.1 10 k)), S1.2.2.1, S1.2.2.2) (by omega) (by omega) ⟨h0, ?_, ?_, ?_, ?_, ?_, ?_, ?_⟩
    · intro i hi1 hi2
      have hi3 : i = 1 ∨ i = 2 ∨ i = 3 ∨ i = 4 ∨ i = 5 := by omega
      rcases hi3 with rfl | rfl | rfl | rfl | rfl
      · intro j hj
        show (u2 (u2 (u2 (u2 S1.2.1 61 k (S.2.1 7 k)) 62 k (S.2.1 8 k)) 63 k (S.2.1 9 k)) 64 k (S.2.1 10 k)) 56 j = S.2.1 2 j
        rw [u2_ro _ _ _ (show 56 ≠ 64 by decide), u2_ro _ _ _ (show 56 ≠ 63 by decide), u2_ro _ _ _ (show 56 ≠ 62 by decide), u2_ro _ _ _ (show 56 ≠ 61 by decide)]
        exact h1 1 (by omega) (by omega) j hj
      · intro j hj
        show (u2 (u2 (u2 (u2 S1.2.1 61 k (S.2.1 7 k)) 62 k (S.2.1 8 k)) 63 k (S.2.1 9 k)) 64 k (S.2.1 10 k)) 57 j = S.2.1 3 j
        rw [u2_ro _ _ _ (show 57 ≠ 64 by decide), u2_ro _ _ _ (show 57 ≠ 63 by decide), u2_ro _ _ _ (show 57 ≠ 62 by decide), u2_ro _ _ _ (show 57 ≠ 61 by decide)]
        exact h1 2 (by omega) (by omega) j hj
      · intro j hj
        show (u2 (u2 (u2 (u2 S1.2.1 61 k (S.2.1 7 k)) 62 k (S.2.1 8 k)) 63 k (S.2.1 9 k)) 64 k (S.2.1 10 k)) 58 j = S.2.1 4 j
        rw [u2_ro _ _ _ (show 58 ≠ 64 by decide), u2_ro _ _ _ (show 58 ≠ 63 by decide), u2_ro _ _ _ (show 58 ≠ 62 by decide), u2_ro _ _ _ (show 58 ≠ 61 by decide)]
        exact h1 3 (by omega) (by omega) j hj
      · intro j hj
        show (u2 (u2 (u2 (u2 S1.2.1 61 k (S.2.1 7 k)) 62 k (S.2.1 8 k)) 63 k (S.2.1 9 k)) 64 k (S.2.1 10 k)) 59 j = S.2.1 5 j
        rw [u2_ro _ _ _ (show 59 ≠ 64 by decide), u2_ro _ _ _ (show 59 ≠ 63 by decide), u2_ro _ _ _ (show 59 ≠ 62 by decide), u2_ro _ _ _ (show 59 ≠ 61 by decide)]
        exact h1 4 (by omega) (by omega) j hj
      · intro j hj
        show (u2 (u2 (u2 (u2 S1.2.1 61 k (S.2.1 7 k)) 62 k (S.2.1 8 k)) 63 k (S.2.1 9 k)) 64 k (S.2.1 10 k)) 60 j = S.2.1 6 j
        rw [u2_ro _ _ _ (show 60 ≠ 64 by decide), u2_ro _ _ _ (show 60 ≠ 63 by decide), u2_ro _ _ _ (show 60 ≠ 62 by decide), u2_ro _ _ _ (show 60 ≠ 61 by decide)]
        exact h1 5 (by omega) (by omega) j hj
    · intro i hi1 hi2
      have hi3 : i = 6 ∨ i = 7 ∨ i = 8 ∨ i = 9 := by omega
      rcases hi3 with rfl | rfl | rfl | rfl
      · intro j hj
        show (u2 (u2 (u2 (u2 S1.2.1 61 k (S.2.1 7 k)) 62 k (S.2.1 8 k)) 63 k (S.2.1 9 k)) 64 k (S.2.1 10 k)) 61 j = S.2.1 7 j
        rw [u2_ro _ _ _ (show 61 ≠ 64 by decide), u2_ro _ _ _ (show 61 ≠ 63 by decide), u2_ro _ _ _ (show 61 ≠ 62 by decide)]
        refine cp1 (B := S.2.1 7) (fun j hj => ?_) rfl j hj
        exact h2 6 (by omega) (by omega) j hj
      · intro j hj
        show (u2 (u2 (u2 (u2 S1.2.1 61 k (S.2.1 7 k)) 62 k (S.2.1 8 k)) 63 k (S.2.1 9 k)) 64 k (S.2.1 10 k)) 62 j = S.2.1 8 j
        rw [u2_ro _ _ _ (show 62 ≠ 64 by decide), u2_ro _ _ _ (show 62 ≠ 63 by decide)]
        refine cp1 (B := S.2.1 8) (fun j hj => ?_) rfl j hj
        rw [u2_ro _ _ _ (show 62 ≠ 61 by decide)]
        exact h2 7 (by omega) (by omega) j hj
      · intro j hj
        show (u2 (u2 (u2 (u2 S1.2.1 61 k (S.2.1 7 k)) 62 k (S.2.1 8 k)) 63 k (S.2.1 9 k)) 64 k (S.2.1 10 k)) 63 j = S.2.1 9 j
        rw [u2_ro _ _ _ (show 63 ≠ 64 by decide)]
        refine cp1 (B := S.2.1 9) (fun j hj => ?_) rfl j hj
        rw [u2_ro _ _ _ (show 63 ≠ 62 by decide), u2_ro _ _ _ (show 63 ≠ 61 by decide)]
        exact h2 8 (by omega) (by omega) j hj
      · intro j hj
        show (u2 (u2 (u2 (u2 S1.2.1 61 k (S.2.1 7 k)) 62 k (S.2.1 8 k)) 63 k (S.2.1 9 k)) 64 k (S.2.1 10 k)) 64 j = S.2.1 10 j
        refine cp1 (B := S.2.1 10) (fun j hj => ?_) rfl j hj
        rw [u2_ro _ _ _ (show 64 ≠ 63 by decide), u2_ro _ _ _ (show 64 ≠ 62 by decide), u2_ro _ _ _ (show 64 ≠ 61 by decide)]
        exact h2 9 (by omega) (by omega) j hj
    · intro i hi1 hi2
      have hi3 : i = 10 ∨ i = 11 ∨ i = 12 := by omega
      rcases hi3 with rfl | rfl | rfl
      · intro j hj
        show (u2 (u2 (u2 (u2 S1.2.1 61 k (S.2.1 7 k)) 62 k (S.2.1 8 k)) 63 k (S.2.1 9 k)) 64 k (S.2.1 10 k)) 65 j = S.2.1 11 j
        rw [u2_ro _ _ _ (show 65 ≠ 64 by decide), u2_ro _ _ _ (show 65 ≠ 63 by decide), u2_ro _ _ _ (show 65 ≠ 62 by decide), u2_ro _ _ _ (show 65 ≠ 61 by decide)]
        exact h3 10 (by omega) (by omega) j hj
      · intro j hj
        show (u2 (u2 (u2 (u2 S1.2.1 61 k (S.2.1 7 k)) 62 k (S.2.1 8 k)) 63 k (S.2.1 9 k)) 64 k (S.2.1 10 k)) 66 j = S.2.1 12 j
        rw [u2_ro _ _ _ (show 66 ≠ 64 by decide), u2_ro _ _ _ (show 66 ≠ 63 by decide), u2_ro _ _ _ (show 66 ≠ 62 by decide), u2_ro _ _ _ (show 66 ≠ 61 by decide)]
        exact h3 11 (by omega) (by omega) j hj
      · intro j hj
        show (u2 (u2 (u2 (u2 S1.2.1 61 k (S.2.1 7 k)) 62 k (S.2.1 8 k)) 63 k (S.2.1 9 k)) 64 k (S.2.1 10 k)) 67 j = S.2.1 13 j
        rw [u2_ro _ _ _ (show 67 ≠ 64 by decide), u2_ro _ _ _ (show 67 ≠ 63 by decide), u2_ro _ _ _ (show 67 ≠ 62 by decide), u2_ro _ _ _ (show 67 ≠ 61 by decide)]
        exact h3 12 (by omega) (by omega) j hj
    · intro j hj
      show (u2 (u2 (u2 (u2 S1.2.1 61 k (S.2.1 7 k)) 62 k (S.2.1 8 k)) 63 k (S.2.1 9 k)) 64 k (S.2.1 10 k)) 68 j = S.2.1 14 j
      rw [u2_ro _ _ _ (show 68 ≠ 64 by decide), u2_ro _ _ _ (show 68 ≠ 63 by decide), u2_ro _ _ _ (show 68 ≠ 62 by decide), u2_ro _ _ _ (show 68 ≠ 61 by decide)]
      exact h4 j hj
    · exact h5
    · intro i hi1 hi2
      have hi3 : i = 1 ∨ i = 2 ∨ i = 3 ∨ i = 4 ∨ i = 5 ∨ i = 6 ∨ i = 7 ∨ i = 8 ∨ i = 9 ∨ i = 10 ∨ i = 11 ∨ i = 12 ∨ i = 13 := by omega
      rcases hi3 with rfl | rfl | rfl | rfl | rfl | rfl | rfl | rfl | rfl | rfl | rfl | rfl | rfl
      · show (u2 (u2 (u2 (u2 S1.2.1 61 k (S.2.1 7 k)) 62 k (S.2.1 8 k)) 63 k (S.2.1 9 k)) 64 k (S.2.1 10 k)) 2 = S.2.1 2
        rw [u2_ro _ _ _ (show 2 ≠ 64 by decide), u2_ro _ _ _ (show 2 ≠ 63 by decide), u2_ro _ _ _ (show 2 ≠ 62 by decide), u2_ro _ _ _ (show 2 ≠ 61 by decide)]; exact h6 1 (by omega) (by omega)
      · show (u2 (u2 (u2 (u2 S1.2.1 61 k (S.2.1 7 k)) 62 k (S.2.1 8 k)) 63 k (S.2.1 9 k)) 64 k (S.2.1 10 k)) 3 = S.2.1 3
        rw [u2_ro _ _ _ (show 3 ≠ 64 by decide), u2_ro _ _ _ (show 3 ≠ 63 by decide), u2_ro _ _ _ (show 3 ≠ 62 by decide), u2_ro _ _ _ (show 3 ≠ 61 by decide)]; exact h6 2 (by omega) (by omega)
      · show (u2 (u2 (u2 (u2 S1.2.1 61 k (S.2.1 7 k)) 62 k (S.2.1 8 k)) 63 k (S.2.1 9 k)) 64 k (S.2.1 10 k)) 4 = S.2.1 4
        rw [u2_ro _ _ _ (show 4 ≠ 64 by decide), u2_ro _ _ _ (show 4 ≠ 63 by decide), u2_ro _ _ _ (show 4 ≠ 62 by decide), u2_ro _ _ _ (show 4 ≠ 61 by decide)]; exact h6 3 (by omega) (by omega)
      · show (u2 (u2 (u2 (u2 S1.2.1 61 k (S.2.1 7 k)) 62 k (S.2.1 8 k)) 63 k (S.2.1 9 k)) 64 k (S.2.1 10 k)) 5 = S.2.1 5
        rw [u2_ro _ _ _ (show 5 ≠ 64 by decide), u2_ro _ _ _ (show 5 ≠ 63 by decide), u2_ro _ _ _ (show 5 ≠ 62 by decide), u2_ro _ _ _ (show 5 ≠ 61 by decide)]; exact h6 4 (by omega) (by omega)
      · show (u2 (u2 (u2 (u2 S1.2.1 61 k (S.2.1 7 k)) 62 k (S.2.1 8 k)) 63 k (S.2.1 9 k)) 64 k (S.2.1 10 k)) 6 = S.2.1 6
        rw [u2_ro _ _ _ (show 6 ≠ 64 by decide), u2_ro _ _ _ (show 6 ≠ 63 by decide), u2_ro _ _ _ (show 6 ≠ 62 by decide), u2_ro _ _ _ (show 6 ≠ 61 by decide)]; exact h6 5 (by omega) (by omega)
      · show (u2 (u2 (u2 (u2 S1.2.1 61 k (S.2.1 7 k)) 62 k (S.2.1 8 k)) 63 k (S.2.1 9 k)) 64 k (S.2.1 10 k)) 7 = S.2.1 7
        rw [u2_ro _ _ _ (show 7 ≠ 64 by decide), u2_ro _ _ _ (show 7 ≠ 63 by decide), u2_ro _ _ _ (show 7 ≠ 62 by decide), u2_ro _ _ _ (show 7 ≠ 61 by decide)]; exact h6 6 (by omega) (by omega)
      · show (u2 (u2 (u2 (u2 S1.2.1 61 k (S.2.1 7 k)) 62 k (S.2.1 8 k)) 63 k (S.2.1 9 k)) 64 k (S.2.1 10 k)) 8 = S.2.1 8
        rw [u2_ro _ _ _ (show 8 ≠ 64 by decide), u2_ro _ _ _ (show 8 ≠ 63 by decide), u2_ro _ _ _ (show 8 ≠ 62 by decide), u2_ro _ _ _ (show 8 ≠ 61 by decide)]; exact h6 7 (by omega) (by omega)
      · show (u2 (u2 (u2 (u2 S1.2.1 61 k (S.2.1 7 k)) 62 k (S.2.1 8 k)) 63 k (S.2.1 9 k)) 64 k (S.2.1 10 k)) 9 = S.2.1 9
        rw [u2_ro _ _ _ (show 9 ≠ 64 by decide), u2_ro _ _ _ (show 9 ≠ 63 by decide), u2_ro _ _ _ (show 9 ≠ 62 by decide), u2_ro _ _ _ (show 9 ≠ 61 by decide)]; exact h6 8 (by omega) (by omega)
      · show (u2 (u2 (u2 (u2 S1.2.1 61 k (S.2.1 7 k)) 62 k (S.2.1 8 k)) 63 k (S.2.1 9 k)) 64 k (S.2.1 10 k)) 10 = S.2.1 10
        rw [u2_ro _ _ _ (show 10 ≠ 64 by decide), u2_ro _ _ _ (show 10 ≠ 63 by decide), u2_ro _ _ _ (show 10 ≠ 62 by decide), u2_ro _ _ _ (show 10 ≠ 61 by decide)]; exact h6 9 (by omega) (by omega)
      · show (u2 (u2 (u2 (u2 S1.2.1 61 k (S.2.1 7 k)) 62 k (S.2.1 8 k)) 63 k (S.2.1 9 k)) 64 k (S.2.1 10 k)) 11 = S.2.1 11
        rw [u2_ro _ _ _ (show 11 ≠ 64 by decide), u2_ro _ _ _ (show 11 ≠ 63 by decide), u2_ro _ _ _ (show 11 ≠ 62 by decide), u2_ro _ _ _ (show 11 ≠ 61 by decide)]; exact h6 10 (by omega) (by omega)
      · show (u2 (u2 (u2 (u2 S1.2.1 61 k (S.2.1 7 k)) 62 k (S.2.1 8 k)) 63 k (S.2.1 9 k)) 64 k (S.2.1 10 k)) 12 = S.2.1 12
        rw [u2_ro _ _ _ (show 12 ≠ 64 by decide), u2_ro _ _ _ (show 12 ≠ 63 by decide), u2_ro _ _ _ (show 12 ≠ 62 by decide), u2_ro _ _ _ (show 12 ≠ 61 by decide)]; exact h6 11 (by omega) (by omega)
      · show (u2 (u2 (u2 (u2 S1.2.1 61 k (S.2.1 7 k)) 62 k (S.2.1 8 k)) 63 k (S.2.1 9 k)) 64 k (S.2.1 10 k)) 13 = S.2.1 13
        rw [u2_ro _ _ _ (show 13 ≠ 64 by decide), u2_ro _ _ _ (show 13 ≠ 63 by decide), u2_ro _ _ _ (show 13 ≠ 62 by decide), u2_ro _ _ _ (show 13 ≠ 61 by decide)]; exact h6 12 (by omega) (by omega)
      · show (u2 (u2 (u2 (u2 S1.2.1 61 k (S.2.1 7 k)) 62 k (S.2.1 8 k)) 63 k (S.2.1 9 k)) 64 k (S.2.1 10 k)) 14 = S.2.1 14
        rw [u2_ro _ _ _ (show 14 ≠ 64 by decide), u2_ro _ _ _ (show 14 ≠ 63 by decide), u2_ro _ _ _ (show 14 ≠ 62 by decide), u2_ro _ _ _ (show 14 ≠ 61 by decide)]; exact h6 13 (by omega) (by omega)
    · exact h7
theorem cpl42_55_1 (x : XT) (S : ST) (hq : ∀ l, l < 6 → qk x (S.2.2.2 15 l) = true) (ho : ∀ g, g < 10 → inb (S.2.1 6 g) 2 = true) : ∀ (m k fuel : Nat) (S1 : ST), k + m = 10 → m < fuel → CI S S1 55 1 k 0 0 0 0 → ∃ S2, lfX7_copyFrom_55_1_42 x fuel S1 (iN k) = some ((), S2) ∧ CI S S2 55 1 10 5 6 3 6
  | 0, k, fuel, S1, hk, hf, h => by
    obtain ⟨fuel, rfl⟩ : ∃ z, fuel = z + 1 := ⟨fuel - 1, by omega⟩
    have : k = 10 := by omega
    subst this
    rw [lfX7_copyFrom_55_1_42, bfX7_copyFrom_55_1_42, if_pos (show (10 : Int32) ≤ iN 10 by decide)]
    rw [show (0 : Int32) = iN 0 from rfl]
    exact cpl116_55_1 x S hq ho 5 0 20000 S1 (by omega) (by omega) h
  | m + 1, k, fuel, S1, hk, hf, h => by
    obtain ⟨fuel, rfl⟩ : ∃ z, fuel = z + 1 := ⟨fuel - 1, by omega⟩
    obtain ⟨h0, h1, h2, h3, h4, h5, h6, h7⟩ := h
    rw [lfX7_copyFrom_55_1_42, bfX7_copyFrom_55_1_42, if_neg (show ¬ (10 : Int32) ≤ iN k from fun hh => by have := (iN_le (m := 10) (by omega) (by omega)).mp hh; omega), inb_t (show k < 10 by omega) (by omega), iN_nat (by omega), iN_succ]
    simp only [cond_true]
    have e1 : S1.2.1 2 = S.2.1 2 := h6 1 (by omega) (by omega)
    have e2 : S1.2.1 3 = S.2.1 3 := h6 2 (by omega) (by omega)
    have e3 : S1.2.1 4 = S.2.1 4 := h6 3 (by omega) (by omega)
    have e4 : S1.2.1 5 = S.2.1 5 := h6 4 (by omega) (by omega)
    have e5 : S1.2.1 6 = S.2.1 6 := h6 5 (by omega) (by omega)
    rw [e1, e2, e3, e4, e5]
    rw [nar_b (ho k (by omega))]
    refine cpl42_55_1 x S hq ho m (k + 1) fuel (S1.1, (u2 (u2 (u2 (u2 (u2 S1.2.1 56 k (S.2.1 2 k)) 57 k (S.2.1 3 k)) 58 k (S.2.1 4 k)) 59 k (S.2.1 5 k)) 60 k (S.2.1 6 k)), S1.2.2.1, S1.2.2.2) (by omega) (by omega) ⟨h0, ?_, ?_, ?_, ?_, ?_, ?_, ?_⟩
    · intro i hi1 hi2
      have hi3 : i = 1 ∨ i = 2 ∨ i = 3 ∨ i = 4 ∨ i = 5 := by omega
      rcases hi3 with rfl | rfl | rfl | rfl | rfl
      · intro j hj
        show (u2 (u2 (u2 (u2 (u2 S1.2.1 56 k (S.2.1 2 k)) 57 k (S.2.1 3 k)) 58 k (S.2.1 4 k)) 59 k (S.2.1 5 k)) 60 k (S.2.1 6 k)) 56 j = S.2.1 2 j
        rw [u2_ro _ _ _ (show 56 ≠ 60 by decide), u2_ro _ _ _ (show 56 ≠ 59 by decide), u2_ro _ _ _ (show 56 ≠ 58 by decide), u2_ro _ _ _ (show 56 ≠ 57 by decide)]
        refine cp1 (B := S.2.1 2) (fun j hj => ?_) rfl j hj
        exact h1 1 (by omega) (by omega) j hj
      · intro j hj
        show (u2 (u2 (u2 (u2 (u2 S1.2.1 56 k (S.2.1 2 k)) 57 k (S.2.1 3 k)) 58 k (S.2.1 4 k)) 59 k (S.2.1 5 k)) 60 k (S.2.1 6 k)) 57 j = S.2.1 3 j
        rw [u2_ro _ _ _ (show 57 ≠ 60 by decide), u2_ro _ _ _ (show 57 ≠ 59 by decide), u2_ro _ _ _ (show 57 ≠ 58 by decide)]
        refine cp1 (B := S.2.1 3) (fun j hj => ?_) rfl j hj
        rw [u2_ro _ _ _ (show 57 ≠ 56 by decide)]
        exact h1 2 (by omega) (by omega) j hj
      · intro j hj
        show (u2 (u2 (u2 (u2 (u2 S1.2.1 56 k (S.2.1 2 k)) 57 k (S.2.1 3 k)) 58 k (S.2.1 4 k)) 59 k (S.2.1 5 k)) 60 k (S.2.1 6 k)) 58 j = S.2.1 4 j
        rw [u2_ro _ _ _ (show 58 ≠ 60 by decide), u2_ro _ _ _ (show 58 ≠ 59 by decide)]
        refine cp1 (B := S.2.1 4) (fun j hj => ?_) rfl j hj
        rw [u2_ro _ _ _ (show 58 ≠ 57 by decide), u2_ro _ _ _ (show 58 ≠ 56 by decide)]
        exact h1 3 (by omega) (by omega) j hj
      · intro j hj
        show (u2 (u2 (u2 (u2 (u2 S1.2.1 56 k (S.2.1 2 k)) 57 k (S.2.1 3 k)) 58 k (S.2.1 4 k)) 59 k (S.2.1 5 k)) 60 k (S.2.1 6 k)) 59 j = S.2.1 5 j
        rw [u2_ro _ _ _ (show 59 ≠ 60 by decide)]
        refine cp1 (B := S.2.1 5) (fun j hj => ?_) rfl j hj
        rw [u2_ro _ _ _ (show 59 ≠ 58 by decide), u2_ro _ _ _ (show 59 ≠ 57 by decide), u2_ro _ _ _ (show 59 ≠ 56 by decide)]
        exact h1 4 (by omega) (by omega) j hj
      · intro j hj
        show (u2 (u2 (u2 (u2 (u2 S1.2.1 56 k (S.2.1 2 k)) 57 k (S.2.1 3 k)) 58 k (S.2.1 4 k)) 59 k (S.2.1 5 k)) 60 k (S.2.1 6 k)) 60 j = S.2.1 6 j
        refine cp1 (B := S.2.1 6) (fun j hj => ?_) rfl j hj
        rw [u2_ro _ _ _ (show 60 ≠ 59 by decide), u2_ro _ _ _ (show 60 ≠ 58 by decide), u2_ro _ _ _ (show 60 ≠ 57 by decide), u2_ro _ _ _ (show 60 ≠ 56 by decide)]
        exact h1 5 (by omega) (by omega) j hj
    · intro i hi1 hi2
      have hi3 : i = 6 ∨ i = 7 ∨ i = 8 ∨ i = 9 := by omega
      rcases hi3 with rfl | rfl | rfl | rfl
      · intro j hj
        show (u2 (u2 (u2 (u2 (u2 S1.2.1 56 k (S.2.1 2 k)) 57 k (S.2.1 3 k)) 58 k (S.2.1 4 k)) 59 k (S.2.1 5 k)) 60 k (S.2.1 6 k)) 61 j = S.2.1 7 j
        rw [u2_ro _ _ _ (show 61 ≠ 60 by decide), u2_ro _ _ _ (show 61 ≠ 59 by decide), u2_ro _ _ _ (show 61 ≠ 58 by decide), u2_ro _ _ _ (show 61 ≠ 57 by decide), u2_ro _ _ _ (show 61 ≠ 56 by decide)]
        exact h2 6 (by omega) (by omega) j hj
      · intro j hj
        show (u2 (u2 (u2 (u2 (u2 S1.2.1 56 k (S.2.1 2 k)) 57 k (S.2.1 3 k)) 58 k (S.2.1 4 k)) 59 k (S.2.1 5 k)) 60 k (S.2.1 6 k)) 62 j = S.2.1 8 j
        rw [u2_ro _ _ _ (show 62 ≠ 60 by decide), u2_ro _ _ _ (show 62 ≠ 59 by decide), u2_ro _ _ _ (show 62 ≠ 58 by decide), u2_ro _ _ _ (show 62 ≠ 57 by decide), u2_ro _ _ _ (show 62 ≠ 56 by decide)]
        exact h2 7 (by omega) (by omega) j hj
      · intro j hj
        show (u2 (u2 (u2 (u2 (u2 S1.2.1 56 k (S.2.1 2 k)) 57 k (S.2.1 3 k)) 58 k (S.2.1 4 k)) 59 k (S.2.1 5 k)) 60 k (S.2.1 6 k)) 63 j = S.2.1 9 j
        rw [u2_ro _ _ _ (show 63 ≠ 60 by decide), u2_ro _ _ _ (show 63 ≠ 59 by decide), u2_ro _ _ _ (show 63 ≠ 58 by decide), u2_ro _ _ _ (show 63 ≠ 57 by decide), u2_ro _ _ _ (show 63 ≠ 56 by decide)]
        exact h2 8 (by omega) (by omega) j hj
      · intro j hj
        show (u2 (u2 (u2 (u2 (u2 S1.2.1 56 k (S.2.1 2 k)) 57 k (S.2.1 3 k)) 58 k (S.2.1 4 k)) 59 k (S.2.1 5 k)) 60 k (S.2.1 6 k)) 64 j = S.2.1 10 j
        rw [u2_ro _ _ _ (show 64 ≠ 60 by decide), u2_ro _ _ _ (show 64 ≠ 59 by decide), u2_ro _ _ _ (show 64 ≠ 58 by decide), u2_ro _ _ _ (show 64 ≠ 57 by decide), u2_ro _ _ _ (show 64 ≠ 56 by decide)]
        exact h2 9 (by omega) (by omega) j hj
    · intro i hi1 hi2
      have hi3 : i = 10 ∨ i = 11 ∨ i = 12 := by omega
      rcases hi3 with rfl | rfl | rfl
      · intro j hj
        show (u2 (u2 (u2 (u2 (u2 S1.2.1 56 k (S.2.1 2 k)) 57 k (S.2.1 3 k)) 58 k (S.2.1 4 k)) 59 k (S.2.1 5 k)) 60 k (S.2.1 6 k)) 65 j = S.2.1 11 j
        rw [u2_ro _ _ _ (show 65 ≠ 60 by decide), u2_ro _ _ _ (show 65 ≠ 59 by decide), u2_ro _ _ _ (show 65 ≠ 58 by decide), u2_ro _ _ _ (show 65 ≠ 57 by decide), u2_ro _ _ _ (show 65 ≠ 56 by decide)]
        exact h3 10 (by omega) (by omega) j hj
      · intro j hj
        show (u2 (u2 (u2 (u2 (u2 S1.2.1 56 k (S.2.1 2 k)) 57 k (S.2.1 3 k)) 58 k (S.2.1 4 k)) 59 k (S.2.1 5 k)) 60 k (S.2.1 6 k)) 66 j = S.2.1 12 j
        rw [u2_ro _ _ _ (show 66 ≠ 60 by decide), u2_ro _ _ _ (show 66 ≠ 59 by decide), u2_ro _ _ _ (show 66 ≠ 58 by decide), u2_ro _ _ _ (show 66 ≠ 57 by decide), u2_ro _ _ _ (show 66 ≠ 56 by decide)]
        exact h3 11 (by omega) (by omega) j hj
      · intro j hj
        show (u2 (u2 (u2 (u2 (u2 S1.2.1 56 k (S.2.1 2 k)) 57 k (S.2.1 3 k)) 58 k (S.2.1 4 k)) 59 k (S.2.1 5 k)) 60 k (S.2.1 6 k)) 67 j = S.2.1 13 j
        rw [u2_ro _ _ _ (show 67 ≠ 60 by decide), u2_ro _ _ _ (show 67 ≠ 59 by decide), u2_ro _ _ _ (show 67 ≠ 58 by decide), u2_ro _ _ _ (show 67 ≠ 57 by decide), u2_ro _ _ _ (show 67 ≠ 56 by decide)]
        exact h3 12 (by omega) (by omega) j hj
    · intro j hj
      show (u2 (u2 (u2 (u2 (u2 S1.2.1 56 k (S.2.1 2 k)) 57 k (S.2.1 3 k)) 58 k (S.2.1 4 k)) 59 k (S.2.1 5 k)) 60 k (S.2.1 6 k)) 68 j = S.2.1 14 j
      rw [u2_ro _ _ _ (show 68 ≠ 60 by decide), u2_ro _ _ _ (show 68 ≠ 59 by decide), u2_ro _ _ _ (show 68 ≠ 58 by decide), u2_ro _ _ _ (show 68 ≠ 57 by decide), u2_ro _ _ _ (show 68 ≠ 56 by decide)]
      exact h4 j hj
    · exact h5
    · intro i hi1 hi2
      have hi3 : i = 1 ∨ i = 2 ∨ i = 3 ∨ i = 4 ∨ i = 5 ∨ i = 6 ∨ i = 7 ∨ i = 8 ∨ i = 9 ∨ i = 10 ∨ i = 11 ∨ i = 12 ∨ i = 13 := by omega
      rcases hi3 with rfl | rfl | rfl | rfl | rfl | rfl | rfl | rfl | rfl | rfl | rfl | rfl | rfl
      · show (u2 (u2 (u2 (u2 (u2 S1.2.1 56 k (S.2.1 2 k)) 57 k (S.2.1 3 k)) 58 k (S.2.1 4 k)) 59 k (S.2.1 5 k)) 60 k (S.2.1 6 k)) 2 = S.2.1 2
        rw [u2_ro _ _ _ (show 2 ≠ 60 by decide), u2_ro _ _ _ (show 2 ≠ 59 by decide), u2_ro _ _ _ (show 2 ≠ 58 by decide), u2_ro _ _ _ (show 2 ≠ 57 by decide), u2_ro _ _ _ (show 2 ≠ 56 by decide)]; exact h6 1 (by omega) (by omega)
      · show (u2 (u2 (u2 (u2 (u2 S1.2.1 56 k (S.2.1 2 k)) 57 k (S.2.1 3 k)) 58 k (S.2.1 4 k)) 59 k (S.2.1 5 k)) 60 k (S.2.1 6 k)) 3 = S.2.1 3
        rw [u2_ro _ _ _ (show 3 ≠ 60 by decide), u2_ro _ _ _ (show 3 ≠ 59 by decide), u2_ro _ _ _ (show 3 ≠ 58 by decide), u2_ro _ _ _ (show 3 ≠ 57 by decide), u2_ro _ _ _ (show 3 ≠ 56 by decide)]; exact h6 2 (by omega) (by omega)
      · show (u2 (u2 (u2 (u2 (u2 S1.2.1 56 k (S.2.1 2 k)) 57 k (S.2.1 3 k)) 58 k (S.2.1 4 k)) 59 k (S.2.1 5 k)) 60 k (S.2.1 6 k)) 4 = S.2.1 4
        rw [u2_ro _ _ _ (show 4 ≠ 60 by decide), u2_ro _ _ _ (show 4 ≠ 59 by decide), u2_ro _ _ _ (show 4 ≠ 58 by decide), u2_ro _ _ _ (show 4 ≠ 57 by decide), u2_ro _ _ _ (show 4 ≠ 56 by decide)]; exact h6 3 (by omega) (by omega)
      · show (u2 (u2 (u2 (u2 (u2 S1.2.1 56 k (S.2.1 2 k)) 57 k (S.2.1 3 k)) 58 k (S.2.1 4 k)) 59 k (S.2.1 5 k)) 60 k (S.2.1 6 k)) 5 = S.2.1 5
        rw [u2_ro _ _ _ (show 5 ≠ 60 by decide), u2_ro _ _ _ (show 5 ≠ 59 by decide), u2_ro _ _ _ (show 5 ≠ 58 by decide), u2_ro _ _ _ (show 5 ≠ 57 by decide), u2_ro _ _ _ (show 5 ≠ 56 by decide)]; exact h6 4 (by omega) (by omega)
      · show (u2 (u2 (u2 (u2 (u2 S1.2.1 56 k (S.2.1 2 k)) 57 k (S.2.1 3 k)) 58 k (S.2.1 4 k)) 59 k (S.2.1 5 k)) 60 k (S.2.1 6 k)) 6 = S.2.1 6
        rw [u2_ro _ _ _ (show 6 ≠ 60 by decide), u2_ro _ _ _ (show 6 ≠ 59 by decide), u2_ro _ _ _ (show 6 ≠ 58 by decide), u2_ro _ _ _ (show 6 ≠ 57 by decide), u2_ro _ _ _ (show 6 ≠ 56 by decide)]; exact h6 5 (by omega) (by omega)
      · show (u2 (u2 (u2 (u2 (u2 S1.2.1 56 k (S.2.1 2 k)) 57 k (S.2.1 3 k)) 58 k (S.2.1 4 k)) 59 k (S.2.1 5 k)) 60 k (S.2.1 6 k)) 7 = S.2.1 7
        rw [u2_ro _ _ _ (show 7 ≠ 60 by decide), u2_ro _ _ _ (show 7 ≠ 59 by decide), u2_ro _ _ _ (show 7 ≠ 58 by decide), u2_ro _ _ _ (show 7 ≠ 57 by decide), u2_ro _ _ _ (show 7 ≠ 56 by decide)]; exact h6 6 (by omega) (by omega)
      · show (u2 (u2 (u2 (u2 (u2 S1.2.1 56 k (S.2.1 2 k)) 57 k (S.2.1 3 k)) 58 k (S.2.1 4 k)) 59 k (S.2.1 5 k)) 60 k (S.2.1 6 k)) 8 = S.2.1 8
        rw [u2_ro _ _ _ (show 8 ≠ 60 by decide), u2_ro _ _ _ (show 8 ≠ 59 by decide), u2_ro _ _ _ (show 8 ≠ 58 by decide), u2_ro _ _ _ (show 8 ≠ 57 by decide), u2_ro _ _ _ (show 8 ≠ 56 by decide)]; exact h6 7 (by omega) (by omega)
      · show (u2 (u2 (u2 (u2 (u2 S1.2.1 56 k (S.2.1 2 k)) 57 k (S.2.1 3 k)) 58 k (S.2.1 4 k)) 59 k (S.2.1 5 k)) 60 k (S.2.1 6 k)) 9 = S.2.1 9
        rw [u2_ro _ _ _ (show 9 ≠ 60 by decide), u2_ro _ _ _ (show 9 ≠ 59 by decide), u2_ro _ _ _ (show 9 ≠ 58 by decide), u2_ro _ _ _ (show 9 ≠ 57 by decide), u2_ro _ _ _ (show 9 ≠ 56 by decide)]; exact h6 8 (by omega) (by omega)
      · show (u2 (u2 (u2 (u2 (u2 S1.2.1 56 k (S.2.1 2 k)) 57 k (S.2.1 3 k)) 58 k (S.2.1 4 k)) 59 k (S.2.1 5 k)) 60 k (S.2.1 6 k)) 10 = S.2.1 10
        rw [u2_ro _ _ _ (show 10 ≠ 60 by decide), u2_ro _ _ _ (show 10 ≠ 59 by decide), u2_ro _ _ _ (show 10 ≠ 58 by decide), u2_ro _ _ _ (show 10 ≠ 57 by decide), u2_ro _ _ _ (show 10 ≠ 56 by decide)]; exact h6 9 (by omega) (by omega)
      · show (u2 (u2 (u2 (u2 (u2 S1.2.1 56 k (S.2.1 2 k)) 57 k (S.2.1 3 k)) 58 k (S.2.1 4 k)) 59 k (S.2.1 5 k)) 60 k (S.2.1 6 k)) 11 = S.2.1 11
        rw [u2_ro _ _ _ (show 11 ≠ 60 by decide), u2_ro _ _ _ (show 11 ≠ 59 by decide), u2_ro _ _ _ (show 11 ≠ 58 by decide), u2_ro _ _ _ (show 11 ≠ 57 by decide), u2_ro _ _ _ (show 11 ≠ 56 by decide)]; exact h6 10 (by omega) (by omega)
      · show (u2 (u2 (u2 (u2 (u2 S1.2.1 56 k (S.2.1 2 k)) 57 k (S.2.1 3 k)) 58 k (S.2.1 4 k)) 59 k (S.2.1 5 k)) 60 k (S.2.1 6 k)) 12 = S.2.1 12
        rw [u2_ro _ _ _ (show 12 ≠ 60 by decide), u2_ro _ _ _ (show 12 ≠ 59 by decide), u2_ro _ _ _ (show 12 ≠ 58 by decide), u2_ro _ _ _ (show 12 ≠ 57 by decide), u2_ro _ _ _ (show 12 ≠ 56 by decide)]; exact h6 11 (by omega) (by omega)
      · show (u2 (u2 (u2 (u2 (u2 S1.2.1 56 k (S.2.1 2 k)) 57 k (S.2.1 3 k)) 58 k (S.2.1 4 k)) 59 k (S.2.1 5 k)) 60 k (S.2.1 6 k)) 13 = S.2.1 13
        rw [u2_ro _ _ _ (show 13 ≠ 60 by decide), u2_ro _ _ _ (show 13 ≠ 59 by decide), u2_ro _ _ _ (show 13 ≠ 58 by decide), u2_ro _ _ _ (show 13 ≠ 57 by decide), u2_ro _ _ _ (show 13 ≠ 56 by decide)]; exact h6 12 (by omega) (by omega)
      · show (u2 (u2 (u2 (u2 (u2 S1.2.1 56 k (S.2.1 2 k)) 57 k (S.2.1 3 k)) 58 k (S.2.1 4 k)) 59 k (S.2.1 5 k)) 60 k (S.2.1 6 k)) 14 = S.2.1 14
        rw [u2_ro _ _ _ (show 14 ≠ 60 by decide), u2_ro _ _ _ (show 14 ≠ 59 by decide), u2_ro _ _ _ (show 14 ≠ 58 by decide), u2_ro _ _ _ (show 14 ≠ 57 by decide), u2_ro _ _ _ (show 14 ≠ 56 by decide)]; exact h6 13 (by omega) (by omega)
    · exact h7
theorem copy55_1 (x : XT) (S : ST) (hq : ∀ l, l < 6 → qk x (S.2.2.2 15 l) = true) (ho : ∀ g, g < 10 → inb (S.2.1 6 g) 2 = true) : ∃ S2, gfX7_copyFrom_55_1 x S = some ((), S2) ∧ CI S S2 55 1 10 5 6 3 6 := by
  unfold gfX7_copyFrom_55_1 bfX7_copyFrom_55_1_0
  rw [show (0 : Int32) = iN 0 from rfl]
  refine cpl42_55_1 x S hq ho 10 0 20000 _ (by omega) (by omega) ⟨⟨?_, ?_, ?_, ?_, ?_⟩, fun i _ _ j hj => by omega, fun i _ _ j hj => by omega, fun i _ _ j hj => by omega, fun j hj => by omega, fun j hj => by omega, fun _ _ _ => rfl, rfl⟩
  · show (u2 (u2 (u2 (u2 (u2 S.1 55 0 (S.1 1 0)) 55 6 (S.1 1 6)) 55 11 (S.1 1 11)) 55 16 (S.1 1 16)) 55 18 (S.1 1 18)) 55 0 = _
    rw [u2_k _ _ _ (show 0 ≠ 18 by decide), u2_k _ _ _ (show 0 ≠ 16 by decide), u2_k _ _ _ (show 0 ≠ 11 by decide), u2_k _ _ _ (show 0 ≠ 6 by decide), u2_s]
  · show (u2 (u2 (u2 (u2 (u2 S.1 55 0 (S.1 1 0)) 55 6 (S.1 1 6)) 55 11 (S.1 1 11)) 55 16 (S.1 1 16)) 55 18 (S.1 1 18)) 55 6 = _
    rw [u2_k _ _ _ (show 6 ≠ 18 by decide), u2_k _ _ _ (show 6 ≠ 16 by decide), u2_k _ _ _ (show 6 ≠ 11 by decide), u2_s]
  · show (u2 (u2 (u2 (u2 (u2 S.1 55 0 (S.1 1 0)) 55 6 (S.1 1 6)) 55 11 (S.1 1 11)) 55 16 (S.1 1 16)) 55 18 (S.1 1 18)) 55 11 = _
    rw [u2_k _ _ _ (show 11 ≠ 18 by decide), u2_k _ _ _ (show 11 ≠ 16 by decide), u2_s]
  · show (u2 (u2 (u2 (u2 (u2 S.1 55 0 (S.1 1 0)) 55 6 (S.1 1 6)) 55 11 (S.1 1 11)) 55 16 (S.1 1 16)) 55 18 (S.1 1 18)) 55 16 = _
    rw [u2_k _ _ _ (show 16 ≠ 18 by decide), u2_s]
  · show (u2 (u2 (u2 (u2 (u2 S.1 55 0 (S.1 1 0)) 55 6 (S.1 1 6)) 55 11 (S.1 1 11)) 55 16 (S.1 1 16)) 55 18 (S.1 1 18)) 55 18 = _
    rw [u2_s]
theorem cpl252_84_1 (x : XT) (S : ST) (hq : ∀ l, l < 6 → qk x (S.2.2.2 15 l) = true) (ho : ∀ g, g < 10 → inb (S.2.1 6 g) 2 = true) : ∀ (m k fuel : Nat) (S1 : ST), k + m = 6 → m < fuel → CI S S1 84 1 10 5 6 3 k → ∃ S2, lfX7_copyFrom_84_1_252 x fuel S1 (iN k) = some ((), S2) ∧ CI S S2 84 1 10 5 6 3 6
  | 0, k, fuel, S1, hk, hf, h => by
    obtain ⟨fuel, rfl⟩ : ∃ z, fuel = z + 1 := ⟨fuel - 1, by omega⟩
    have : k = 6 := by omega
    subst this
    rw [lfX7_copyFrom_84_1_252, bfX7_copyFrom_84_1_252, if_pos (show (6 : Int32) ≤ iN 6 by decide)]
    exact ⟨S1, rfl, h⟩
  | m + 1, k, fuel, S1, hk, hf, h => by
    obtain ⟨fuel, rfl⟩ : ∃ z, fuel = z + 1 := ⟨fuel - 1, by omega⟩
    obtain ⟨h0, h1, h2, h3, h4, h5, h6, h7⟩ := h
    rw [lfX7_copyFrom_84_1_252, bfX7_copyFrom_84_1_252, if_neg (show ¬ (6 : Int32) ≤ iN k from fun hh => by have := (iN_le (m := 6) (by omega) (by omega)).mp hh; omega), inb_t (show k < 6 by omega) (by omega), iN_nat (by omega), iN_succ]
    simp only [cond_true]
    have e7 : S1.2.2.2 15 = S.2.2.2 15 := h7
    rw [e7, hq k (by omega), cond_true]
    refine cpl252_84_1 x S hq ho m (k + 1) fuel (S1.1, S1.2.1, S1.2.2.1, u2 S1.2.2.2 98 k (S.2.2.2 15 k)) (by omega) (by omega) ⟨h0, ?_, ?_, ?_, ?_, ?_, ?_, ?_⟩
    · exact h1
    · exact h2
    · exact h3
    · exact h4
    · exact cp1 (A := S1.2.2.2) (B := S.2.2.2 15) h5 rfl
    · exact h6
    · show u2 S1.2.2.2 98 k (S.2.2.2 15 k) 15 = _
      rw [u2_ro _ _ _ (show 15 ≠ 98 by decide)]; exact h7
theorem cpl227_84_1 (x : XT) (S : ST) (hq : ∀ l, l < 6 → qk x (S.2.2.2 15 l) = true) (ho : ∀ g, g < 10 → inb (S.2.1 6 g) 2 = true) : ∀ (m k fuel : Nat) (S1 : ST), k + m = 3 → m < fuel → CI S S1 84 1 10 5 6 k 0 → ∃ S2, lfX7_copyFrom_84_1_227 x fuel S1 (iN k) = some ((), S2) ∧ CI S S2 84 1 10 5 6 3 6
  | 0, k, fuel, S1, hk, hf, h => by
    obtain ⟨fuel, rfl⟩ : ∃ z, fuel = z + 1 := ⟨fuel - 1, by omega⟩
    have : k = 3 := by omega
    subst this
    rw [lfX7_copyFrom_84_1_227, bfX7_copyFrom_84_1_227, if_pos (show (3 : Int32) ≤ iN 3 by decide)]
    rw [show (0 : Int32) = iN 0 from rfl]
    exact cpl252_84_1 x S hq ho 6 0 20000 S1 (by omega) (by omega) h
  | m + 1, k, fuel, S1, hk, hf, h => by
    obtain ⟨fuel, rfl⟩ : ∃ z, fuel = z + 1 := ⟨fuel - 1, by omega⟩
    obtain ⟨h0, h1, h2, h3, h4, h5, h6, h7⟩ := h
    rw [lfX7_copyFrom_84_1_227, bfX7_copyFrom_84_1_227, if_neg (show ¬ (3 : Int32) ≤ iN k from fun hh => by have := (iN_le (m := 3) (by omega) (by omega)).mp hh; omega), inb_t (show k < 3 by omega) (by omega), iN_nat (by omega), iN_succ]
    simp only [cond_true]
    have e13 : S1.2.1 14 = S.2.1 14 := h6 13 (by omega) (by omega)
    rw [e13]
    refine cpl227_84_1 x S hq ho m (k + 1) fuel (S1.1, (u2 S1.2.1 97 k (S.2.1 14 k)), S1.2.2.1, S1.2.2.2) (by omega) (by omega) ⟨h0, ?_, ?_, ?_, ?_, ?_, ?_, ?_⟩
    · intro i hi1 hi2
      have hi3 : i = 1 ∨ i = 2 ∨ i = 3 ∨ i = 4 ∨ i = 5 := by omega
      rcases hi3 with rfl | rfl | rfl | rfl | rfl
      · intro j hj
        show (u2 S1.2.1 97 k (S.2.1 14 k)) 85 j = S.2.1 2 j
        rw [u2_ro _ _ _ (show 85 ≠ 97 by decide)]
        exact h1 1 (by omega) (by omega) j hj
      · intro j hj
        show (u2 S1.2.1 97 k (S.2.1 14 k)) 86 j = S.2.1 3 j
        rw [u2_ro _ _ _ (show 86 ≠ 97 by decide)]
        exact h1 2 (by omega) (by omega) j hj
      · intro j hj
        show (u2 S1.2.1 97 k (S.2.1 14 k)) 87 j = S.2.1 4 j
        rw [u2_ro _ _ _ (show 87 ≠ 97 by decide)]
        exact h1 3 (by omega) (by omega) j hj
      · intro j hj
        show (u2 S1.2.1 97 k (S.2.1 14 k)) 88 j = S.2.1 5 j
        rw [u2_ro _ _ _ (show 88 ≠ 97 by decide)]
        exact h1 4 (by omega) (by omega) j hj
      · intro j hj
        show (u2 S1.2.1 97 k (S.2.1 14 k)) 89 j = S.2.1 6 j
        rw [u2_ro _ _ _ (show 89 ≠ 97 by decide)]
        exact h1 5 (by omega) (by omega) j hj
    · intro i hi1 hi2
      have hi3 : i = 6 ∨ i = 7 ∨ i = 8 ∨ i = 9 := by omega
      rcases hi3 with rfl | rfl | rfl | rfl
      · intro j hj
        show (u2 S1.2.1 97 k (S.2.1 14 k)) 90 j = S.2.1 7 j
        rw [u2_ro _ _ _ (show 90 ≠ 97 by decide)]
        exact h2 6 (by omega) (by omega) j hj
      · intro j hj
        show (u2 S1.2.1 97 k (S.2.1 14 k)) 91 j = S.2.1 8 j
        rw [u2_ro _ _ _ (show 91 ≠ 97 by decide)]
        exact h2 7 (by omega) (by omega) j hj
      · intro j hj
        show (u2 S1.2.1 97 k (S.2.1 14 k)) 92 j = S.2.1 9 j
        rw [u2_ro _ _ _ (show 92 ≠ 97 by decide)]
        exact h2 8 (by omega) (by omega) j hj
      · intro j hj
        show (u2 S1.2.1 97 k (S.2.1 14 k)) 93 j = S.2.1 10 j
        rw [u2_ro _ _ _ (show 93 ≠ 97 by decide)]
        exact h2 9 (by omega) (by omega) j hj
    · intro i hi1 hi2
      have hi3 : i = 10 ∨ i = 11 ∨ i = 12 := by omega
      rcases hi3 with rfl | rfl | rfl
      · intro j hj
        show (u2 S1.2.1 97 k (S.2.1 14 k)) 94 j = S.2.1 11 j
        rw [u2_ro _ _ _ (show 94 ≠ 97 by decide)]
        exact h3 10 (by omega) (by omega) j hj
      · intro j hj
        show (u2 S1.2.1 97 k (S.2.1 14 k)) 95 j = S.2.1 12 j
        rw [u2_ro _ _ _ (show 95 ≠ 97 by decide)]
        exact h3 11 (by omega) (by omega) j hj
      · intro j hj
        show (u2 S1.2.1 97 k (S.2.1 14 k)) 96 j = S.2.1 13 j
        rw [u2_ro _ _ _ (show 96 ≠ 97 by decide)]
        exact h3 12 (by omega) (by omega) j hj
    · exact cp1 (A := S1.2.1) (B := S.2.1 14) h4 rfl
    · exact h5
    · intro i hi1 hi2
      have hi3 : i = 1 ∨ i = 2 ∨ i = 3 ∨ i = 4 ∨ i = 5 ∨ i = 6 ∨ i = 7 ∨ i = 8 ∨ i = 9 ∨ i = 10 ∨ i = 11 ∨ i = 12 ∨ i = 13 := by omega
      rcases hi3 with rfl | rfl | rfl | rfl | rfl | rfl | rfl | rfl | rfl | rfl | rfl | rfl | rfl
      · show (u2 S1.2.1 97 k (S.2.1 14 k)) 2 = S.2.1 2
        rw [u2_ro _ _ _ (show 2 ≠ 97 by decide)]; exact h6 1 (by omega) (by omega)
      · show (u2 S1.2.1 97 k (S.2.1 14 k)) 3 = S.2.1 3
        rw [u2_ro _ _ _ (show 3 ≠ 97 by decide)]; exact h6 2 (by omega) (by omega)
      · show (u2 S1.2.1 97 k (S.2.1 14 k)) 4 = S.2.1 4
        rw [u2_ro _ _ _ (show 4 ≠ 97 by decide)]; exact h6 3 (by omega) (by omega)
      · show (u2 S1.2.1 97 k (S.2.1 14 k)) 5 = S.2.1 5
        rw [u2_ro _ _ _ (show 5 ≠ 97 by decide)]; exact h6 4 (by omega) (by omega)
      · show (u2 S1.2.1 97 k (S.2.1 14 k)) 6 = S.2.1 6
        rw [u2_ro _ _ _ (show 6 ≠ 97 by decide)]; exact h6 5 (by omega) (by omega)
      · show (u2 S1.2.1 97 k (S.2.1 14 k)) 7 = S.2.1 7
        rw [u2_ro _ _ _ (show 7 ≠ 97 by decide)]; exact h6 6 (by omega) (by omega)
      · show (u2 S1.2.1 97 k (S.2.1 14 k)) 8 = S.2.1 8
        rw [u2_ro _ _ _ (show 8 ≠ 97 by decide)]; exact h6 7 (by omega) (by omega)
      · show (u2 S1.2.1 97 k (S.2.1 14 k)) 9 = S.2.1 9
        rw [u2_ro _ _ _ (show 9 ≠ 97 by decide)]; exact h6 8 (by omega) (by omega)
      · show (u2 S1.2.1 97 k (S.2.1 14 k)) 10 = S.2.1 10
        rw [u2_ro _ _ _ (show 10 ≠ 97 by decide)]; exact h6 9 (by omega) (by omega)
      · show (u2 S1.2.1 97 k (S.2.1 14 k)) 11 = S.2.1 11
        rw [u2_ro _ _ _ (show 11 ≠ 97 by decide)]; exact h6 10 (by omega) (by omega)
      · show (u2 S1.2.1 97 k (S.2.1 14 k)) 12 = S.2.1 12
        rw [u2_ro _ _ _ (show 12 ≠ 97 by decide)]; exact h6 11 (by omega) (by omega)
      · show (u2 S1.2.1 97 k (S.2.1 14 k)) 13 = S.2.1 13
        rw [u2_ro _ _ _ (show 13 ≠ 97 by decide)]; exact h6 12 (by omega) (by omega)
      · show (u2 S1.2.1 97 k (S.2.1 14 k)) 14 = S.2.1 14
        rw [u2_ro _ _ _ (show 14 ≠ 97 by decide)]; exact h6 13 (by omega) (by omega)
    · exact h7
theorem cpl177_84_1 (x : XT) (S : ST) (hq : ∀ l, l < 6 → qk x (S.2.2.2 15 l) = true) (ho : ∀ g, g < 10 → inb (S.2.1 6 g) 2 = true) : ∀ (m k fuel : Nat) (S1 : ST), k + m = 6 → m < fuel → CI S S1 84 1 10 5 k 0 0 → ∃ S2, lfX7_copyFrom_84_1_177 x fuel S1 (iN k) = some ((), S2) ∧ CI S S2 84 1 10 5 6 3 6
  | 0, k, fuel, S1, hk, hf, h => by
    obtain ⟨fuel, rfl⟩ : ∃ z, fuel = z + 1 := ⟨fuel - 1, by omega⟩
    have : k = 6 := by omega
    subst this
    rw [lfX7_copyFrom_84_1_177, bfX7_copyFrom_84_1_177, if_pos (show (6 : Int32) ≤ iN 6 by decide)]
    rw [show (0 : Int32) = iN 0 from rfl]
    exact cpl227_84_1 x S hq ho 3 0 20000 S1 (by omega) (by omega) h
  | m + 1, k, fuel, S1, hk, hf, h => by
    obtain ⟨fuel, rfl⟩ : ∃ z, fuel = z + 1 := ⟨fuel - 1, by omega⟩
    obtain ⟨h0, h1, h2, h3, h4, h5, h6, h7⟩ := h
    rw [lfX7_copyFrom_84_1_177, bfX7_copyFrom_84_1_177, if_neg (show ¬ (6 : Int32) ≤ iN k from fun hh => by have := (iN_le (m := 6) (by omega) (by omega)).mp hh; omega), inb_t (show k < 6 by omega) (by omega), iN_nat (by omega), iN_succ]
    simp only [cond_true]
    have e10 : S1.2.1 11 = S.2.1 11 := h6 10 (by omega) (by omega)
    have e11 : S1.2.1 12 = S.2.1 12 := h6 11 (by omega) (by omega)
    have e12 : S1.2.1 13 = S.2.1 13 := h6 12 (by omega) (by omega)
    rw [e10, e11, e12]
    refine cpl177_84_1 x S hq ho m (k + 1) fuel (S1.1, (u2 (u2 (u2 S1.2.1 94 k (S.2.1 11 k)) 95 k (S.2.1 12 k)) 96 k (S.2.1 13 k)), S1.2.2.1, S1.2.2.2) (by omega) (by omega) ⟨h0, ?_, ?_, ?_, ?_, ?_, ?_, ?_⟩
    · intro i hi1 hi2
      have hi3 : i = 1 ∨ i = 2 ∨ i = 3 ∨ i = 4 ∨ i = 5 := by omega
      rcases hi3 with rfl | rfl | rfl | rfl | rfl
      · intro j hj
        show (u2 (u2 (u2 S1.2.1 94 k (S.2.1 11 k)) 95 k (S.2.1 12 k)) 96 k (S.2.1 13 k)) 85 j = S.2.1 2 j
        rw [u2_ro _ _ _ (show 85 ≠ 96 by decide), u2_ro _ _ _ (show 85 ≠ 95 by decide), u2_ro _ _ _ (show 85 ≠ 94 by decide)]
        exact h1 1 (by omega) (by omega) j hj
      · intro j hj
        show (u2 (u2 (u2 S1.2.1 94 k (S.2.1 11 k)) 95 k (S.2.1 12 k)) 96 k (S.2.1 13 k)) 86 j = S.2.1 3 j
        rw [u2_ro _ _ _ (show 86 ≠ 96 by decide), u2_ro _ _ _ (show 86 ≠ 95 by decide), u2_ro _ _ _ (show 86 ≠ 94 by decide)]
        exact h1 2 (by omega) (by omega) j hj
      · intro j hj
        show (u2 (u2 (u2 S1.2.1 94 k (S.2.1 11 k)) 95 k (S.2.1 12 k)) 96 k (S.2.1 13 k)) 87 j = S.2.1 4 j
        rw [u2_ro _ _ _ (show 87 ≠ 96 by decide), u2_ro _ _ _ (show 87 ≠ 95 by decide), u2_ro _ _ _ (show 87 ≠ 94 by decide)]
        exact h1 3 (by omega) (by omega) j hj
      · intro j hj
        show (u2 (u2 (u2 S1.2.1 94 k (S.2.1 11 k)) 95 k (S.2.1 12 k)) 96 k (S.2.1 13 k)) 88 j = S.2.1 5 j
        rw [u2_ro _ _ _ (show 88 ≠ 96 by decide), u2_ro _ _ _ (show 88 ≠ 95 by decide), u2_ro _ _ _ (show 88 ≠ 94 by decide)]
        exact h1 4 (by omega) (by omega) j hj
      · intro j hj
        show (u2 (u2 (u2 S1.2.1 94 k (S.2.1 11 k)) 95 k (S.2.1 12 k)) 96 k (S.2.1 13 k)) 89 j = S.2.1 6 j
        rw [u2_ro _ _ _ (show 89 ≠ 96 by decide), u2_ro _ _ _ (show 89 ≠ 95 by decide), u2_ro _ _ _ (show 89 ≠ 94 by decide)]
        exact h1 5 (by omega) (by omega) j hj
    · intro i hi1 hi2
      have hi3 : i = 6 ∨ i = 7 ∨ i = 8 ∨ i = 9 := by omega
      rcases hi3 with rfl | rfl | rfl | rfl
      · intro j hj
        show (u2 (u2 (u2 S1.2.1 94 k (S.2.1 11 k)) 95 k (S.2.1 12 k)) 96 k (S.2.1 13 k)) 90 j = S.2.1 7 j
        rw [u2_ro _ _ _ (show 90 ≠ 96 by decide), u2_ro _ _ _ (show 90 ≠ 95 by decide), u2_ro _ _ _ (show 90 ≠ 94 by decide)]
        exact h2 6 (by omega) (by omega) j hj
      · intro j hj
        show (u2 (u2 (u2 S1.2.1 94 k (S.2.1 11 k)) 95 k (S.2.1 12 k)) 96 k (S.2.1 13 k)) 91 j = S.2.1 8 j
        rw [u2_ro _ _ _ (show 91 ≠ 96 by decide), u2_ro _ _ _ (show 91 ≠ 95 by decide), u2_ro _ _ _ (show 91 ≠ 94 by decide)]
        exact h2 7 (by omega) (by omega) j hj
      · intro j hj
        show (u2 (u2 (u2 S1.2.1 94 k (S.2.1 11 k)) 95 k (S.2.1 12 k)) 96 k (S.2.1 13 k)) 92 j = S.2.1 9 j
        rw [u2_ro _ _ _ (show 92 ≠ 96 by decide), u2_ro _ _ _ (show 92 ≠ 95 by decide), u2_ro _ _ _ (show 92 ≠ 94 by decide)]
        exact h2 8 (by omega) (by omega) j hj
      · intro j hj
        show (u2 (u2 (u2 S1.2.1 94 k (S.2.1 11 k)) 95 k (S.2.1 12 k)) 96 k (S.2.1 13 k)) 93 j = S.2.1 10 j
        rw [u2_ro _ _ _ (show 93 ≠ 96 by decide), u2_ro _ _ _ (show 93 ≠ 95 by decide), u2_ro _ _ _ (show 93 ≠ 94 by decide)]
        exact h2 9 (by omega) (by omega) j hj
    · intro i hi1 hi2
      have hi3 : i = 10 ∨ i = 11 ∨ i = 12 := by omega
      rcases hi3 with rfl | rfl | rfl
      · intro j hj
        show (u2 (u2 (u2 S1.2.1 94 k (S.2.1 11 k)) 95 k (S.2.1 12 k)) 96 k (S.2.1 13 k)) 94 j = S.2.1 11 j
        rw [u2_ro _ _ _ (show 94 ≠ 96 by decide), u2_ro _ _ _ (show 94 ≠ 95 by decide)]
        refine cp1 (B := S.2.1 11) (fun j hj => ?_) rfl j hj
        exact h3 10 (by omega) (by omega) j hj
      · intro j hj
        show (u2 (u2 (u2 S1.2.1 94 k (S.2.1 11 k)) 95 k (S.2.1 12 k)) 96 k (S.2.1 13 k)) 95 j = S.2.1 12 j
        rw [u2_ro _ _ _ (show 95 ≠ 96 by decide)]
        refine cp1 (B := S.2.1 12) (fun j hj => ?_) rfl j hj
        rw [u2_ro _ _ _ (show 95 ≠ 94 by decide)]
        exact h3 11 (by omega) (by omega) j hj
      · intro j hj
        show (u2 (u2 (u2 S1.2.1 94 k (S.2.1 11 k)) 95 k (S.2.1 12 k)) 96 k (S.2.1 13 k)) 96 j = S.2.1 13 j
        refine cp1 (B := S.2.1 13) (fun j hj => ?_) rfl j hj
        rw [u2_ro _ _ _ (show 96 ≠ 95 by decide), u2_ro _ _ _ (show 96 ≠ 94 by decide)]
        exact h3 12 (by omega) (by omega) j hj
    · intro j hj
      show (u2 (u2 (u2 S1.2.1 94 k (S.2.1 11 k)) 95 k (S.2.1 12 k)) 96 k (S.2.1 13 k)) 97 j = S.2.1 14 j
      rw [u2_ro _ _ _ (show 97 ≠ 96 by decide), u2_ro _ _ _ (show 97 ≠ 95 by decide), u2_ro _ _ _ (show 97 ≠ 94 by decide)]
      exact h4 j hj
    · exact h5
    · intro i hi1 hi2
      have hi3 : i = 1 ∨ i = 2 ∨ i = 3 ∨ i = 4 ∨ i = 5 ∨ i = 6 ∨ i = 7 ∨ i = 8 ∨ i = 9 ∨ i = 10 ∨ i = 11 ∨ i = 12 ∨ i = 13 := by omega
      rcases hi3 with rfl | rfl | rfl | rfl | rfl | rfl | rfl | rfl | rfl | rfl | rfl | rfl | rfl
      · show (u2 (u2 (u2 S1.2.1 94 k (S.2.1 11 k)) 95 k (S.2.1 12 k)) 96 k (S.2.1 13 k)) 2 = S.2.1 2
        rw [u2_ro _ _ _ (show 2 ≠ 96 by decide), u2_ro _ _ _ (show 2 ≠ 95 by decide), u2_ro _ _ _ (show 2 ≠ 94 by decide)]; exact h6 1 (by omega) (by omega)
      · show (u2 (u2 (u2 S1.2.1 94 k (S.2.1 11 k)) 95 k (S.2.1 12 k)) 96 k (S.2.1 13 k)) 3 = S.2.1 3
        rw [u2_ro _ _ _ (show 3 ≠ 96 by decide), u2_ro _ _ _ (show 3 ≠ 95 by decide), u2_ro _ _ _ (show 3 ≠ 94 by decide)]; exact h6 2 (by omega) (by omega)
      · show (u2 (u2 (u2 S1.2.1 94 k (S.2.1 11 k)) 95 k (S.2.1 12 k)) 96 k (S.2.1 13 k)) 4 = S.2.1 4
        rw [u2_ro _ _ _ (show 4 ≠ 96 by decide), u2_ro _ _ _ (show 4 ≠ 95 by decide), u2_ro _ _ _ (show 4 ≠ 94 by decide)]; exact h6 3 (by omega) (by omega)
      · show (u2 (u2 (u2 S1.2.1 94 k (S.2.1 11 k)) 95 k (S.2.1 12 k)) 96 k (S.2.1 13 k)) 5 = S.2.1 5
        rw [u2_ro _ _ _ (show 5 ≠ 96 by decide), u2_ro _ _ _ (show 5 ≠ 95 by decide), u2_ro _ _ _ (show 5 ≠ 94 by decide)]; exact h6 4 (by omega) (by omega)
      · show (u2 (u2 (u2 S1.2.1 94 k (S.2.1 11 k)) 95 k (S.2.1 12 k)) 96 k (S.2.1 13 k)) 6 = S.2.1 6
        rw [u2_ro _ _ _ (show 6 ≠ 96 by decide), u2_ro _ _ _ (show 6 ≠ 95 by decide), u2_ro _ _ _ (show 6 ≠ 94 by decide)]; exact h6 5 (by omega) (by omega)
      · show (u2 (u2 (u2 S1.2.1 94 k (S.2.1 11 k)) 95 k (S.2.1 12 k)) 96 k (S.2.1 13 k)) 7 = S.2.1 7
        rw [u2_ro _ _ _ (show 7 ≠ 96 by decide), u2_ro _ _ _ (show 7 ≠ 95 by decide), u2_ro _ _ _ (show 7 ≠ 94 by decide)]; exact h6 6 (by omega) (by omega)
      · show (u2 (u2 (u2 S1.2.1 94 k (S.2.1 11 k)) 95 k (S.2.1 12 k)) 96 k (S.2.1 13 k)) 8 = S.2.1 8
        rw [u2_ro _ _ _ (show 8 ≠ 96 by decide), u2_ro _ _ _ (show 8 ≠ 95 by decide), u2_ro _ _ _ (show 8 ≠ 94 by decide)]; exact h6 7 (by omega) (by omega)
      · show (u2 (u2 (u2 S1.2.1 94 k (S.2.1 11 k)) 95 k (S.2.1 12 k)) 96 k (S.2.1 13 k)) 9 = S.2.1 9
        rw [u2_ro _ _ _ (show 9 ≠ 96 by decide), u2_ro _ _ _ (show 9 ≠ 95 by decide), u2_ro _ _ _ (show 9 ≠ 94 by decide)]; exact h6 8 (by omega) (by omega)
      · show (u2 (u2 (u2 S1.2.1 94 k (S.2.1 11 k)) 95 k (S.2.1 12 k)) 96 k (S.2.1 13 k)) 10 = S.2.1 10
        rw [u2_ro _ _ _ (show 10 ≠ 96 by decide), u2_ro _ _ _ (show 10 ≠ 95 by decide), u2_ro _ _ _ (show 10 ≠ 94 by decide)]; exact h6 9 (by omega) (by omega)
      · show (u2 (u2 (u2 S1.2.1 94 k (S.2.1 11 k)) 95 k (S.2.1 12 k)) 96 k (S.2.1 13 k)) 11 = S.2.1 11
        rw [u2_ro _ _ _ (show 11 ≠ 96 by decide), u2_ro _ _ _ (show 11 ≠ 95 by decide), u2_ro _ _ _ (show 11 ≠ 94 by decide)]; exact h6 10 (by omega) (by omega)
      · show (u2 (u2 (u2 S1.2.1 94 k (S.2.1 11 k)) 95 k (S.2.1 12 k)) 96 k (S.2.1 13 k)) 12 = S.2.1 12
        rw [u2_ro _ _ _ (show 12 ≠ 96 by decide), u2_ro _ _ _ (show 12 ≠ 95 by decide), u2_ro _ _ _ (show 12 ≠ 94 by decide)]; exact h6 11 (by omega) (by omega)
      · show (u2 (u2 (u2 S1.2.1 94 k (S.2.1 11 k)) 95 k (S.2.1 12 k)) 96 k (S.2.1 13 k)) 13 = S.2.1 13
        rw [u2_ro _ _ _ (show 13 ≠ 96 by decide), u2_ro _ _ _ (show 13 ≠ 95 by decide), u2_ro _ _ _ (show 13 ≠ 94 by decide)]; exact h6 12 (by omega) (by omega)
      · show (u2 (u2 (u2 S1.2.1 94 k (S.2.1 11 k)) 95 k (S.2.1 12 k)) 96 k (S.2.1 13 k)) 14 = S.2.1 14
        rw [u2_ro _ _ _ (show 14 ≠ 96 by decide), u2_ro _ _ _ (show 14 ≠ 95 by decide), u2_ro _ _ _ (show 14 ≠ 94 by decide)]; exact h6 13 (by omega) (by omega)
    · exact h7
theorem cpl116_84_1 (x : XT) (S : ST) (hq : ∀ l, l < 6 → qk x (S.2.2.2 15 l) = true) (ho : ∀ g, g < 10 → inb (S.2.1 6 g) 2 = true) : ∀ (m k fuel : Nat) (S1 : ST), k + m = 5 → m < fuel → CI S S1 84 1 10 k 0 0 0 → ∃ S2, lfX7_copyFrom_84_1_116 x fuel S1 (iN k) = some ((), S2) ∧ CI S S2 84 1 10 5 6 3 6
  | 0, k, fuel, S1, hk, hf, h => by
    obtain ⟨fuel, rfl⟩ : ∃ z, fuel = z + 1 := ⟨fuel - 1, by omega⟩
    have : k = 5 := by omega
    subst this
    rw [lfX7_copyFrom_84_1_116, bfX7_copyFrom_84_1_116, if_pos (show (5 : Int32) ≤ iN 5 by decide)]
    rw [show (0 : Int32) = iN 0 from rfl]
    exact cpl177_84_1 x S hq ho 6 0 20000 S1 (by omega) (by omega) h
  | m + 1, k, fuel, S1, hk, hf, h => by
    obtain ⟨fuel, rfl⟩ : ∃ z, fuel = z + 1 := ⟨fuel - 1, by omega⟩
    obtain ⟨h0, h1, h2, h3, h4, h5, h6, h7⟩ := h
    rw [lfX7_copyFrom_84_1_116, bfX7_copyFrom_84_1_116, if_neg (show ¬ (5 : Int32) ≤ iN k from fun hh => by have := (iN_le (m := 5) (by omega) (by omega)).mp hh; omega), inb_t (show k < 5 by omega) (by omega), iN_nat (by omega), iN_succ]
    simp only [cond_true]
    have e6 : S1.2.1 7 = S.2.1 7 := h6 6 (by omega) (by omega)
    have e7 : S1.2.1 8 = S.2.1 8 := h6 7 (by omega) (by omega)
    have e8 : S1.2.1 9 = S.2.1 9 := h6 8 (by omega) (by omega)
    have e9 : S1.2.1 10 = S.2.1 10 := h6 9 (by omega) (by omega)
    rw [e6, e7, e8, e9]
    refine cpl116_84_1 x S hq ho m (k + 1) fuel (S1.1, (u2 (u2 (u2 (u2 S1.2.1 90 k (S.2.1 7 k)) 91 k (S.2.1 8 k)) 92 k (S.2.1 9 k)) 93 k (S.2.1 10 k)), S1.2.2.1, S1.2.2.2) (by omega) (by omega) ⟨h0, ?_, ?_, ?_, ?_, ?_, ?_, ?_⟩
    · intro i hi1 hi2
      have hi3 : i = 1 ∨ i = 2 ∨ i = 3 ∨ i = 4 ∨ i = 5 := by omega
      rcases hi3 with rfl | rfl | rfl | rfl | rfl
      · intro j hj
        show (u2 (u2 (u2 (u2 S1.2.1 90 k (S.2.1 7 k)) 91 k (S.2.1 8 k)) 92 k (S.2.1 9 k)) 93 k (S.2.1 10 k)) 85 j = S.2.1 2 j
        rw [u2_ro _ _ _ (show 85 ≠ 93 by decide), u2_ro _ _ _ (show 85 ≠ 92 by decide), u2_ro _ _ _ (show 85 ≠ 91 by decide), u2_ro _ _ _ (show 85 ≠ 90 by decide)]
        exact h1 1 (by omega) (by omega) j hj
      · intro j hj
        show (u2 (u2 (u2 (u2 S1.2.1 90 k (S.2.1 7 k)) 91 k (S.2.1 8 k)) 92 k (S.2.1 9 k)) 93 k (S.2.1 10 k)) 86 j = S.2.1 3 j
        rw [u2_ro _ _ _ (show 86 ≠ 93 by decide), u2_ro _ _ _ (show 86 ≠ 92 by decide), u2_ro _ _ _ (show 86 ≠ 91 by decide), u2_ro _ _ _ (show 86 ≠ 90 by decide)]
        exact h1 2 (by omega) (by omega) j hj
      · intro j hj
        show (u2 (u2 (u2 (u2 S1.2.1 90 k (S.2.1 7 k)) 91 k (S.2.1 8 k)) 92 k (S.2.1 9 k)) 93 k (S.2.1 10 k)) 87 j = S.2.1 4 j
        rw [u2_ro _ _ _ (show 87 ≠ 93 by decide), u2_ro _ _ _ (show 87 ≠ 92 by decide), u2_ro _ _ _ (show 87 ≠ 91 by decide), u2_ro _ _ _ (show 87 ≠ 90 by decide)]
        exact h1 3 (by omega) (by omega) j hj
      · intro j hj
        show (u2 (u2 (u2 (u2 S1.2.1 90 k (S.2.1 7 k)) 91 k (S.2.1 8 k)) 92 k (S.2.1 9 k)) 93 k (S.2.1 10 k)) 88 j = S.2.1 5 j
        rw [u2_ro _ _ _ (show 88 ≠ 93 by decide), u2_ro _ _ _ (show 88 ≠ 92 by decide), u2_ro _ _ _ (show 88 ≠ 91 by decide), u2_ro _ _ _ (show 88 ≠ 90 by decide)]
        exact h1 4 (by omega) (by omega) j hj
      · intro j hj
        show (u2 (u2 (u2 (u2 S1.2.1 90 k (S.2.1 7 k)) 91 k (S.2.1 8 k)) 92 k (S.2.1 9 k)) 93 k (S.2.1 10 k)) 89 j = S.2.1 6 j
        rw [u2_ro _ _ _ (show 89 ≠ 93 by decide), u2_ro _ _ _ (show 89 ≠ 92 by decide), u2_ro _ _ _ (show 89 ≠ 91 by decide), u2_ro _ _ _ (show 89 ≠ 90 by decide)]
        exact h1 5 (by omega) (by omega) j hj
    · intro i hi1 hi2
      have hi3 : i = 6 ∨ i = 7 ∨ i = 8 ∨ i = 9 := by omega
      rcases hi3 with rfl | rfl | rfl | rfl
      · intro j hj
        show (u2 (u2 (u2 (u2 S1.2.1 90 k (S.2.1 7 k)) 91 k (S.2.1 8 k)) 92 k (S.2.1 9 k)) 93 k (S.2.1 10 k)) 90 j = S.2.1 7 j
        rw [u2_ro _ _ _ (show 90 ≠ 93 by decide), u2_ro _ _ _ (show 90 ≠ 92 by decide), u2_ro _ _ _ (show 90 ≠ 91 by decide)]
        refine cp1 (B := S.2.1 7) (fun j hj => ?_) rfl j hj
        exact h2 6 (by omega) (by omega) j hj
      · intro j hj
        show (u2 (u2 (u2 (u2 S1.2.1 90 k (S.2.1 7 k)) 91 k (S.2.1 8 k)) 92 k (S.2.1 9 k)) 93 k (S.2.1 10 k)) 91 j = S.2.1 8 j
        rw [u2_ro _ _ _ (show 91 ≠ 93 by decide), u2_ro _ _ _ (show 91 ≠ 92 by decide)]
        refine cp1 (B := S.2.1 8) (fun j hj => ?_) rfl j hj
        rw [u2_ro _ _ _ (show 91 ≠ 90 by decide)]
        exact h2 7 (by omega) (by omega) j hj
      · intro j hj
        show (u2 (u2 (u2 (u2 S1.2.1 90 k (S.2.1 7 k)) 91 k (S.2.1 8 k)) 92 k (S.2.1 9 k)) 93 k (S.2.1 10 k)) 92 j = S.2.1 9 j
        rw [u2_ro _ _ _ (show 92 ≠ 93 by decide)]
        refine cp1 (B := S.2.1 9) (fun j hj => ?_) rfl j hj
        rw [u2_ro _ _ _ (show 92 ≠ 91 by decide), u2_ro _ _ _ (show 92 ≠ 90 by decide)]
        exact h2 8 (by omega) (by omega) j hj
      · intro j hj
        show (u2 (u2 (u2 (u2 S1.2.1 90 k (S.2.1 7 k)) 91 k (S.2.1 8 k)) 92 k (S.2.1 9 k)) 93 k (S.2.1 10 k)) 93 j = S.2.1 10 j
        refine cp1 (B := S.2.1 10) (fun j hj => ?_) rfl j hj
        rw [u2_ro _ _ _ (show 93 ≠ 92 by decide), u2_ro _ _ _ (show 93 ≠ 91 by decide), u2_ro _ _ _ (show 93 ≠ 90 by decide)]
        exact h2 9 (by omega) (by omega) j hj
    · intro i hi1 hi2
      have hi3 : i = 10 ∨ i = 11 ∨ i = 12 := by omega
      rcases hi3 with rfl | rfl | rfl
      · intro j hj
        show (u2 (u2 (u2 (u2 S1.2.1 90 k (S.2.1 7 k)) 91 k (S.2.1 8 k)) 92 k (S.2.1 9 k)) 93 k (S.2.1 10 k)) 94 j = S.2.1 11 j
        rw [u2_ro _ _ _ (show 94 ≠ 93 by decide), u2_ro _ _ _ (show 94 ≠ 92 by decide), u2_ro _ _ _ (show 94 ≠ 91 by decide), u2_ro _ _ _ (show 94 ≠ 90 by decide)]
        exact h3 10 (by omega) (by omega) j hj
      · intro j hj
        show (u2 (u2 (u2 (u2 S1.2.1 90 k (S.2.1 7 k)) 91 k (S.2.1 8 k)) 92 k (S.2.1 9 k)) 93 k (S.2.1 10 k)) 95 j = S.2.1 12 j
        rw [u2_ro _ _ _ (show 95 ≠ 93 by decide), u2_ro _ _ _ (show 95 ≠ 92 by decide), u2_ro _ _ _ (show 95 ≠ 91 by decide), u2_ro _ _ _ (show 95 ≠ 90 by decide)]
        exact h3 11 (by omega) (by omega) j hj
      · intro j hj
        show (u2 (u2 (u2 (u2 S1.2.1 90 k (S.2.1 7 k)) 91 k (S.2.1 8 k)) 92 k (S.2.1 9 k)) 93 k (S.2.1 10 k)) 96 j = S.2.1 13 j
        rw [u2_ro _ _ _ (show 96 ≠ 93 by decide), u2_ro _ _ _ (show 96 ≠ 92 by decide), u2_ro _ _ _ (show 96 ≠ 91 by decide), u2_ro _ _ _ (show 96 ≠ 90 by decide)]
        exact h3 12 (by omega) (by omega) j hj
    · intro j hj
      show (u2 (u2 (u2 (u2 S1.2.1 90 k (S.2.1 7 k)) 91 k (S.2.1 8 k)) 92 k (S.2.1 9 k)) 93 k (S.2.1 10 k)) 97 j = S.2.1 14 j
      rw [u2_ro _ _ _ (show 97 ≠ 93 by decide), u2_ro _ _ _ (show 97 ≠ 92 by decide), u2_ro _ _ _ (show 97 ≠ 91 by decide), u2_ro _ _ _ (show 97 ≠ 90 by decide)]
      exact h4 j hj
    · exact h5
    · intro i hi1 hi2
      have hi3 : i = 1 ∨ i = 2 ∨ i = 3 ∨ i = 4 ∨ i = 5 ∨ i = 6 ∨ i = 7 ∨ i = 8 ∨ i = 9 ∨ i = 10 ∨ i = 11 ∨ i = 12 ∨ i = 13 := by omega
      rcases hi3 with rfl | rfl | rfl | rfl | rfl | rfl | rfl | rfl | rfl | rfl | rfl | rfl | rfl
      · show (u2 (u2 (u2 (u2 S1.2.1 90 k (S.2.1 7 k)) 91 k (S.2.1 8 k)) 92 k (S.2.1 9 k)) 93 k (S.2.1 10 k)) 2 = S.2.1 2
        rw [u2_ro _ _ _ (show 2 ≠ 93 by decide), u2_ro _ _ _ (show 2 ≠ 92 by decide), u2_ro _ _ _ (show 2 ≠ 91 by decide), u2_ro _ _ _ (show 2 ≠ 90 by decide)]; exact h6 1 (by omega) (by omega)
      · show (u2 (u2 (u2 (u2 S1.2.1 90 k (S.2.1 7 k)) 91 k (S.2.1 8 k)) 92 k (S.2.1 9 k)) 93 k (S.2.1 10 k)) 3 = S.2.1 3
        rw [u2_ro _ _ _ (show 3 ≠ 93 by decide), u2_ro _ _ _ (show 3 ≠ 92 by decide), u2_ro _ _ _ (show 3 ≠ 91 by decide), u2_ro _ _ _ (show 3 ≠ 90 by decide)]; exact h6 2 (by omega) (by omega)
      · show (u2 (u2 (u2 (u2 S1.2.1 90 k (S.2.1 7 k)) 91 k (S.2.1 8 k)) 92 k (S.2.1 9 k)) 93 k (S.2.1 10 k)) 4 = S.2.1 4
        rw [u2_ro _ _ _ (show 4 ≠ 93 by decide), u2_ro _ _ _ (show 4 ≠ 92 by decide), u2_ro _ _ _ (show 4 ≠ 91 by decide), u2_ro _ _ _ (show 4 ≠ 90 by decide)]; exact h6 3 (by omega) (by omega)
      · show (u2 (u2 (u2 (u2 S1.2.1 90 k (S.2.1 7 k)) 91 k (S.2.1 8 k)) 92 k (S.2.1 9 k)) 93 k (S.2.1 10 k)) 5 = S.2.1 5
        rw [u2_ro _ _ _ (show 5 ≠ 93 by decide), u2_ro _ _ _ (show 5 ≠ 92 by decide), u2_ro _ _ _ (show 5 ≠ 91 by decide), u2_ro _ _ _ (show 5 ≠ 90 by decide)]; exact h6 4 (by omega) (by omega)
      · show (u2 (u2 (u2 (u2 S1.2.1 90 k (S.2.1 7 k)) 91 k (S.2.1 8 k)) 92 k (S.2.1 9 k)) 93 k (S.2.1 10 k)) 6 = S.2.1 6
        rw [u2_ro _ _ _ (show 6 ≠ 93 by decide), u2_ro _ _ _ (show 6 ≠ 92 by decide), u2_ro _ _ _ (show 6 ≠ 91 by decide), u2_ro _ _ _ (show 6 ≠ 90 by decide)]; exact h6 5 (by omega) (by omega)
      · show (u2 (u2 (u2 (u2 S1.2.1 90 k (S.2.1 7 k)) 91 k (S.2.1 8 k)) 92 k (S.2.1 9 k)) 93 k (S.2.1 10 k)) 7 = S.2.1 7
        rw [u2_ro _ _ _ (show 7 ≠ 93 by decide), u2_ro _ _ _ (show 7 ≠ 92 by decide), u2_ro _ _ _ (show 7 ≠ 91 by decide), u2_ro _ _ _ (show 7 ≠ 90 by decide)]; exact h6 6 (by omega) (by omega)
      · show (u2 (u2 (u2 (u2 S1.2.1 90 k (S.2.1 7 k)) 91 k (S.2.1 8 k)) 92 k (S.2.1 9 k)) 93 k (S.2.1 10 k)) 8 = S.2.1 8
        rw [u2_ro _ _ _ (show 8 ≠ 93 by decide), u2_ro _ _ _ (show 8 ≠ 92 by decide), u2_ro _ _ _ (show 8 ≠ 91 by decide), u2_ro _ _ _ (show 8 ≠ 90 by decide)]; exact h6 7 (by omega) (by omega)
      · show (u2 (u2 (u2 (u2 S1.2.1 90 k (S.2.1 7 k)) 91 k (S.2.1 8 k)) 92 k (S.2.1 9 k)) 93 k (S.2.1 10 k)) 9 = S.2.1 9
        rw [u2_ro _ _ _ (show 9 ≠ 93 by decide), u2_ro _ _ _ (show 9 ≠ 92 by decide), u2_ro _ _ _ (show 9 ≠ 91 by decide), u2_ro _ _ _ (show 9 ≠ 90 by decide)]; exact h6 8 (by omega) (by omega)
      · show (u2 (u2 (u2 (u2 S1.2.1 90 k (S.2.1 7 k)) 91 k (S.2.1 8 k)) 92 k (S.2.1 9 k)) 93 k (S.2.1 10 k)) 10 = S.2.1 10
        rw [u2_ro _ _ _ (show 10 ≠ 93 by decide), u2_ro _ _ _ (show 10 ≠ 92 by decide), u2_ro _ _ _ (show 10 ≠ 91 by decide), u2_ro _ _ _ (show 10 ≠ 90 by decide)]; exact h6 9 (by omega) (by omega)
      · show (u2 (u2 (u2 (u2 S1.2.1 90 k (S.2.1 7 k)) 91 k (S.2.1 8 k)) 92 k (S.2.1 9 k)) 93 k (S.2.1 10 k)) 11 = S.2.1 11
        rw [u2_ro _ _ _ (show 11 ≠ 93 by decide), u2_ro _ _ _ (show 11 ≠ 92 by decide), u2_ro _ _ _ (show 11 ≠ 91 by decide), u2_ro _ _ _ (show 11 ≠ 90 by decide)]; exact h6 10 (by omega) (by omega)
      · show (u2 (u2 (u2 (u2 S1.2.1 90 k (S.2.1 7 k)) 91 k (S.2.1 8 k)) 92 k (S.2.1 9 k)) 93 k (S.2.1 10 k)) 12 = S.2.1 12
        rw [u2_ro _ _ _ (show 12 ≠ 93 by decide), u2_ro _ _ _ (show 12 ≠ 92 by decide), u2_ro _ _ _ (show 12 ≠ 91 by decide), u2_ro _ _ _ (show 12 ≠ 90 by decide)]; exact h6 11 (by omega) (by omega)
      · show (u2 (u2 (u2 (u2 S1.2.1 90 k (S.2.1 7 k)) 91 k (S.2.1 8 k)) 92 k (S.2.1 9 k)) 93 k (S.2.1 10 k)) 13 = S.2.1 13
        rw [u2_ro _ _ _ (show 13 ≠ 93 by decide), u2_ro _ _ _ (show 13 ≠ 92 by decide), u2_ro _ _ _ (show 13 ≠ 91 by decide), u2_ro _ _ _ (show 13 ≠ 90 by decide)]; exact h6 12 (by omega) (by omega)
      · show (u2 (u2 (u2 (u2 S1.2.1 90 k (S.2.1 7 k)) 91 k (S.2.1 8 k)) 92 k (S.2.1 9 k)) 93 k (S.2.1 10 k)) 14 = S.2.1 14
        rw [u2_ro _ _ _ (show 14 ≠ 93 by decide), u2_ro _ _ _ (show 14 ≠ 92 by decide), u2_ro _ _ _ (show 14 ≠ 91 by decide), u2_ro _ _ _ (show 14 ≠ 90 by decide)]; exact h6 13 (by omega) (by omega)
    · exact h7
theorem cpl42_84_1 (x : XT) (S : ST) (hq : ∀ l, l < 6 → qk x (S.2.2.2 15 l) = true) (ho : ∀ g, g < 10 → inb (S.2.1 6 g) 2 = true) : ∀ (m k fuel : Nat) (S1 : ST), k + m = 10 → m < fuel → CI S S1 84 1 k 0 0 0 0 → ∃ S2, lfX7_copyFrom_84_1_42 x fuel S1 (iN k) = some ((), S2) ∧ CI S S2 84 1 10 5 6 3 6
  | 0, k, fuel, S1, hk, hf, h => by
    obtain ⟨fuel, rfl⟩ : ∃ z, fuel = z + 1 := ⟨fuel - 1, by omega⟩
    have : k = 10 := by omega
    subst this
    rw [lfX7_copyFrom_84_1_42, bfX7_copyFrom_84_1_42, if_pos (show (10 : Int32) ≤ iN 10 by decide)]
    rw [show (0 : Int32) = iN 0 from rfl]
    exact cpl116_84_1 x S hq ho 5 0 20000 S1 (by omega) (by omega) h
  | m + 1, k, fuel, S1, hk, hf, h => by
    obtain ⟨fuel, rfl⟩ : ∃ z, fuel = z + 1 := ⟨fuel - 1, by omega⟩
    obtain ⟨h0, h1, h2, h3, h4, h5, h6, h7⟩ := h
    rw [lfX7_copyFrom_84_1_42, bfX7_copyFrom_84_1_42, if_neg (show ¬ (10 : Int32) ≤ iN k from fun hh => by have := (iN_le (m := 10) (by omega) (by omega)).mp hh; omega), inb_t (show k < 10 by omega) (by omega), iN_nat (by omega), iN_succ]
    simp only [cond_true]
    have e1 : S1.2.1 2 = S.2.1 2 := h6 1 (by omega) (by omega)
    have e2 : S1.2.1 3 = S.2.1 3 := h6 2 (by omega) (by omega)
    have e3 : S1.2.1 4 = S.2.1 4 := h6 3 (by omega) (by omega)
    have e4 : S1.2.1 5 = S.2.1 5 := h6 4 (by omega) (by omega)
    have e5 : S1.2.1 6 = S.2.1 6 := h6 5 (by omega) (by omega)
    rw [e1, e2, e3, e4, e5]
    rw [nar_b (ho k (by omega))]
    refine cpl42_84_1 x S hq ho m (k + 1) fuel (S1.1, (u2 (u2 (u2 (u2 (u2 S1.2.1 85 k (S.2.1 2 k)) 86 k (S.2.1 3 k)) 87 k (S.2.1 4 k)) 88 k (S.2.1 5 k)) 89 k (S.2.1 6 k)), S1.2.2.1, S1.2.2.2) (by omega) (by omega) ⟨h0, ?_, ?_, ?_, ?_, ?_, ?_, ?_⟩
    · intro i hi1 hi2
      have hi3 : i = 1 ∨ i = 2 ∨ i = 3 ∨ i = 4 ∨ i = 5 := by omega
      rcases hi3 with rfl | rfl | rfl | rfl | rfl
      · intro j hj
        show (u2 (u2 (u2 (u2 (u2 S1.2.1 85 k (S.2.1 2 k)) 86 k (S.2.1 3 k)) 87 k (S.2.1 4 k)) 88 k (S.2.1 5 k)) 89 k (S.2.1 6 k)) 85 j = S.2.1 2 j
        rw [u2_ro _ _ _ (show 85 ≠ 89 by decide), u2_ro _ _ _ (show 85 ≠ 88 by decide), u2_ro _ _ _ (show 85 ≠ 87 by decide), u2_ro _ _ _ (show 85 ≠ 86 by decide)]
        refine cp1 (B := S.2.1 2) (fun j hj => ?_) rfl j hj
        exact h1 1 (by omega) (by omega) j hj
      · intro j hj
        show (u2 (u2 (u2 (u2 (u2 S1.2.1 85 k (S.2.1 2 k)) 86 k (S.2.1 3 k)) 87 k (S.2.1 4 k)) 88 k (S.2.1 5 k)) 89 k (S.2.1 6 k)) 86 j = S.2.1 3 j
        rw [u2_ro _ _ _ (show 86 ≠ 89 by decide), u2_ro _ _ _ (show 86 ≠ 88 by decide), u2_ro _ _ _ (show 86 ≠ 87 by decide)]
        refine cp1 (B := S.2.1 3) (fun j hj => ?_) rfl j hj
        rw [u2_ro _ _ _ (show 86 ≠ 85 by decide)]
        exact h1 2 (by omega) (by omega) j hj
      · intro j hj
        show (u2 (u2 (u2 (u2 (u2 S1.2.1 85 k (S.2.1 2 k)) 86 k (S.2.1 3 k)) 87 k (S.2.1 4 k)) 88 k (S.2.1 5 k)) 89 k (S.2.1 6 k)) 87 j = S.2.1 4 j
        rw [u2_ro _ _ _ (show 87 ≠ 89 by decide), u2_ro _ _ _ (show 87 ≠ 88 by decide)]
        refine cp1 (B := S.2.1 4) (fun j hj => ?_) rfl j hj
        rw [u2_ro _ _ _ (show 87 ≠ 86 by decide), u2_ro _ _ _ (show 87 ≠ 85 by decide)]
        exact h1 3 (by omega) (by omega) j hj
      · intro j hj
        show (u2 (u2 (u2 (u2 (u2 S1.2.1 85 k (S.2.1 2 k)) 86 k (S.2.1 3 k)) 87 k (S.2.1 4 k)) 88 k (S.2.1 5 k)) 89 k (S.2.1 6 k)) 88 j = S.2.1 5 j
        rw [u2_ro _ _ _ (show 88 ≠ 89 by decide)]
        refine cp1 (B := S.2.1 5) (fun j hj => ?_) rfl j hj
        rw [u2_ro _ _ _ (show 88 ≠ 87 by decide), u2_ro _ _ _ (show 88 ≠ 86 by decide), u2_ro _ _ _ (show 88 ≠ 85 by decide)]
        exact h1 4 (by omega) (by omega) j hj
      · intro j hj
        show (u2 (u2 (u2 (u2 (u2 S1.2.1 85 k (S.2.1 2 k)) 86 k (S.2.1 3 k)) 87 k (S.2.1 4 k)) 88 k (S.2.1 5 k)) 89 k (S.2.1 6 k)) 89 j = S.2.1 6 j
        refine cp1 (B := S.2.1 6) (fun j hj => ?_) rfl j hj
        rw [u2_ro _ _ _ (show 89 ≠ 88 by decide), u2_ro _ _ _ (show 89 ≠ 87 by decide), u2_ro _ _ _ (show 89 ≠ 86 by decide), u2_ro _ _ _ (show 89 ≠ 85 by decide)]
        exact h1 5 (by omega) (by omega) j hj
    · intro i hi1 hi2
      have hi3 : i = 6 ∨ i = 7 ∨ i = 8 ∨ i = 9 := by omega
      rcases hi3 with rfl | rfl | rfl | rfl
      · intro j hj
        show (u2 (u2 (u2 (u2 (u2 S1.2.1 85 k (S.2.1 2 k)) 86 k (S.2.1 3 k)) 87 k (S.2.1 4 k)) 88 k (S.2.1 5 k)) 89 k (S.2.1 6 k)) 90 j = S.2.1 7 j
        rw [u2_ro _ _ _ (show 90 ≠ 89 by decide), u2_ro _ _ _ (show 90 ≠ 88 by decide), u2_ro _ _ _ (show 90 ≠ 87 by decide), u2_ro _ _ _ (show 90 ≠ 86 by decide), u2_ro _ _ _ (show 90 ≠ 85 by decide)]
        exact h2 6 (by omega) (by omega) j hj
      · intro j hj
        show (u2 (u2 (u2 (u2 (u2 S1.2.1 85 k (S.2.1 2 k)) 86 k (S.2.1 3 k)) 87 k (S.2.1 4 k)) 88 k (S.2.1 5 k)) 89 k (S.2.1 6 k)) 91 j = S.2.1 8 j
        rw [u2_ro _ _ _ (show 91 ≠ 89 by decide), u2_ro _ _ _ (show 91 ≠ 88 by decide), u2_ro _ _ _ (show 91 ≠ 87 by decide), u2_ro _ _ _ (show 91 ≠ 86 by decide), u2_ro _ _ _ (show 91 ≠ 85 by decide)]
        exact h2 7 (by omega) (by omega) j hj
      · intro j hj
        show (u2 (u2 (u2 (u2 (u2 S1.2.1 85 k (S.2.1 2 k)) 86 k (S.2.1 3 k)) 87 k (S.2.1 4 k)) 88 k (S.2.1 5 k)) 89 k (S.2.1 6 k)) 92 j = S.2.1 9 j
        rw [u2_ro _ _ _ (show 92 ≠ 89 by decide), u2_ro _ _ _ (show 92 ≠ 88 by decide), u2_ro _ _ _ (show 92 ≠ 87 by decide), u2_ro _ _ _ (show 92 ≠ 86 by decide), u2_ro _ _ _ (show 92 ≠ 85 by decide)]
        exact h2 8 (by omega) (by omega) j hj
      · intro j hj
        show (u2 (u2 (u2 (u2 (u2 S1.2.1 85 k (S.2.1 2 k)) 86 k (S.2.1 3 k)) 87 k (S.2.1 4 k)) 88 k (S.2.1 5 k)) 89 k (S.2.1 6 k)) 93 j = S.2.1 10 j
        rw [u2_ro _ _ _ (show 93 ≠ 89 by decide), u2_ro _ _ _ (show 93 ≠ 88 by decide), u2_ro _ _ _ (show 93 ≠ 87 by decide), u2_ro _ _ _ (show 93 ≠ 86 by decide), u2_ro _ _ _ (show 93 ≠ 85 by decide)]
        exact h2 9 (by omega) (by omega) j hj
    · intro i hi1 hi2
      have hi3 : i = 10 ∨ i = 11 ∨ i = 12 := by omega
      rcases hi3 with rfl | rfl | rfl
      · intro j hj
        show (u2 (u2 (u2 (u2 (u2 S1.2.1 85 k (S.2.1 2 k)) 86 k (S.2.1 3 k)) 87 k (S.2.1 4 k)) 88 k (S.2.1 5 k)) 89 k (S.2.1 6 k)) 94 j = S.2.1 11 j
        rw [u2_ro _ _ _ (show 94 ≠ 89 by decide), u2_ro _ _ _ (show 94 ≠ 88 by decide), u2_ro _ _ _ (show 94 ≠ 87 by decide), u2_ro _ _ _ (show 94 ≠ 86 by decide), u2_ro _ _ _ (show 94 ≠ 85 by decide)]
        exact h3 10 (by omega) (by omega) j hj
      · intro j hj
        show (u2 (u2 (u2 (u2 (u2 S1.2.1 85 k (S.2.1 2 k)) 86 k (S.2.1 3 k)) 87 k (S.2.1 4 k)) 88 k (S.2.1 5 k)) 89 k (S.2.1 6 k)) 95 j = S.2.1 12 j
        rw [u2_ro _ _ _ (show 95 ≠ 89 by decide), u2_ro _ _ _ (show 95 ≠ 88 by decide), u2_ro _ _ _ (show 95 ≠ 87 by decide), u2_ro _ _ _ (show 95 ≠ 86 by decide), u2_ro _ _ _ (show 95 ≠ 85 by decide)]
        exact h3 11 (by omega) (by omega) j hj
      · intro j hj
        show (u2 (u2 (u2 (u2 (u2 S1.2.1 85 k (S.2.1 2 k)) 86 k (S.2.1 3 k)) 87 k (S.2.1 4 k)) 88 k (S.2.1 5 k)) 89 k (S.2.1 6 k)) 96 j = S.2.1 13 j
        rw [u2_ro _ _ _ (show 96 ≠ 89 by decide), u2_ro _ _ _ (show 96 ≠ 88 by decide), u2_ro _ _ _ (show 96 ≠ 87 by decide), u2_ro _ _ _ (show 96 ≠ 86 by decide), u2_ro _ _ _ (show 96 ≠ 85 by decide)]
        exact h3 12 (by omega) (by omega) j hj
    · intro j hj
      show (u2 (u2 (u2 (u2 (u2 S1.2.1 85 k (S.2.1 2 k)) 86 k (S.2.1 3 k)) 87 k (S.2.1 4 k)) 88 k (S.2.1 5 k)) 89 k (S.2.1 6 k)) 97 j = S.2.1 14 j
      rw [u2_ro _ _ _ (show 97 ≠ 89 by decide), u2_ro _ _ _ (show 97 ≠ 88 by decide), u2_ro _ _ _ (show 97 ≠ 87 by decide), u2_ro _ _ _ (show 97 ≠ 86 by decide), u2_ro _ _ _ (show 97 ≠ 85 by decide)]
      exact h4 j hj
    · exact h5
    · intro i hi1 hi2
      have hi3 : i = 1 ∨ i = 2 ∨ i = 3 ∨ i = 4 ∨ i = 5 ∨ i = 6 ∨ i = 7 ∨ i = 8 ∨ i = 9 ∨ i = 10 ∨ i = 11 ∨ i = 12 ∨ i = 13 := by omega
      rcases hi3 with rfl | rfl | rfl | rfl | rfl | rfl | rfl | rfl | rfl | rfl | rfl | rfl | rfl
      · show (u2 (u2 (u2 (u2 (u2 S1.2.1 85 k (S.2.1 2 k)) 86 k (S.2.1 3 k)) 87 k (S.2.1 4 k)) 88 k (S.2.1 5 k)) 89 k (S.2.1 6 k)) 2 = S.2.1 2
        rw [u2_ro _ _ _ (show 2 ≠ 89 by decide), u2_ro _ _ _ (show 2 ≠ 88 by decide), u2_ro _ _ _ (show 2 ≠ 87 by decide), u2_ro _ _ _ (show 2 ≠ 86 by decide), u2_ro _ _ _ (show 2 ≠ 85 by decide)]; exact h6 1 (by omega) (by omega)
      · show (u2 (u2 (u2 (u2 (u2 S1.2.1 85 k (S.2.1 2 k)) 86 k (S.2.1 3 k)) 87 k (S.2.1 4 k)) 88 k (S.2.1 5 k)) 89 k (S.2.1 6 k)) 3 = S.2.1 3
        rw [u2_ro _ _ _ (show 3 ≠ 89 by decide), u2_ro _ _ _ (show 3 ≠ 88 by decide), u2_ro _ _ _ (show 3 ≠ 87 by decide), u2_ro _ _ _ (show 3 ≠ 86 by decide), u2_ro _ _ _ (show 3 ≠ 85 by decide)]; exact h6 2 (by omega) (by omega)
      · show (u2 (u2 (u2 (u2 (u2 S1.2.1 85 k (S.2.1 2 k)) 86 k (S.2.1 3 k)) 87 k (S.2.1 4 k)) 88 k (S.2.1 5 k)) 89 k (S.2.1 6 k)) 4 = S.2.1 4
        rw [u2_ro _ _ _ (show 4 ≠ 89 by decide), u2_ro _ _ _ (show 4 ≠ 88 by decide), u2_ro _ _ _ (show 4 ≠ 87 by decide), u2_ro _ _ _ (show 4 ≠ 86 by decide), u2_ro _ _ _ (show 4 ≠ 85 by decide)]; exact h6 3 (by omega) (by omega)
      · show (u2 (u2 (u2 (u2 (u2 S1.2.1 85 k (S.2.1 2 k)) 86 k (S.2.1 3 k)) 87 k (S.2.1 4 k)) 88 k (S.2.1 5 k)) 89 k (S.2.1 6 k)) 5 = S.2.1 5
        rw [u2_ro _ _ _ (show 5 ≠ 89 by decide), u2_ro _ _ _ (show 5 ≠ 88 by decide), u2_ro _ _ _ (show 5 ≠ 87 by decide), u2_ro _ _ _ (show 5 ≠ 86 by decide), u2_ro _ _ _ (show 5 ≠ 85 by decide)]; exact h6 4 (by omega) (by omega)
      · show (u2 (u2 (u2 (u2 (u2 S1.2.1 85 k (S.2.1 2 k)) 86 k (S.2.1 3 k)) 87 k (S.2.1 4 k)) 88 k (S.2.1 5 k)) 89 k (S.2.1 6 k)) 6 = S.2.1 6
        rw [u2_ro _ _ _ (show 6 ≠ 89 by decide), u2_ro _ _ _ (show 6 ≠ 88 by decide), u2_ro _ _ _ (show 6 ≠ 87 by decide), u2_ro _ _ _ (show 6 ≠ 86 by decide), u2_ro _ _ _ (show 6 ≠ 85 by decide)]; exact h6 5 (by omega) (by omega)
      · show (u2 (u2 (u2 (u2 (u2 S1.2.1 85 k (S.2.1 2 k)) 86 k (S.2.1 3 k)) 87 k (S.2.1 4 k)) 88 k (S.2.1 5 k)) 89 k (S.2.1 6 k)) 7 = S.2.1 7
        rw [u2_ro _ _ _ (show 7 ≠ 89 by decide), u2_ro _ _ _ (show 7 ≠ 88 by decide), u2_ro _ _ _ (show 7 ≠ 87 by decide), u2_ro _ _ _ (show 7 ≠ 86 by decide), u2_ro _ _ _ (show 7 ≠ 85 by decide)]; exact h6 6 (by omega) (by omega)
      · show (u2 (u2 (u2 (u2 (u2 S1.2.1 85 k (S.2.1 2 k)) 86 k (S.2.1 3 k)) 87 k (S.2.1 4 k)) 88 k (S.2.1 5 k)) 89 k (S.2.1 6 k)) 8 = S.2.1 8
        rw [u2_ro _ _ _ (show 8 ≠ 89 by decide), u2_ro _ _ _ (show 8 ≠ 88 by decide), u2_ro _ _ _ (show 8 ≠ 87 by decide), u2_ro _ _ _ (show 8 ≠ 86 by decide), u2_ro _ _ _ (show 8 ≠ 85 by decide)]; exact h6 7 (by omega) (by omega)
      · show (u2 (u2 (u2 (u2 (u2 S1.2.1 85 k (S.2.1 2 k)) 86 k (S.2.1 3 k)) 87 k (S.2.1 4 k)) 88 k (S.2.1 5 k)) 89 k (S.2.1 6 k)) 9 = S.2.1 9
        rw [u2_ro _ _ _ (show 9 ≠ 89 by decide), u2_ro _ _ _ (show 9 ≠ 88 by decide), u2_ro _ _ _ (show 9 ≠ 87 by decide), u2_ro _ _ _ (show 9 ≠ 86 by decide), u2_ro _ _ _ (show 9 ≠ 85 by decide)]; exact h6 8 (by omega) (by omega)
      · show (u2 (u2 (u2 (u2 (u2 S1.2.1 85 k (S.2.1 2 k)) 86 k (S.2.1 3 k)) 87 k (S.2.1 4 k)) 88 k (S.2.1 5 k)) 89 k (S.2.1 6 k)) 10 = S.2.1 10
        rw [u2_ro _ _ _ (show 10 ≠ 89 by decide), u2_ro _ _ _ (show 10 ≠ 88 by decide), u2_ro _ _ _ (show 10 ≠ 87 by decide), u2_ro _ _ _ (show 10 ≠ 86 by decide), u2_ro _ _ _ (show 10 ≠ 85 by decide)]; exact h6 9 (by omega) (by omega)
      · show (u2 (u2 (u2 (u2 (u2 S1.2.1 85 k (S.2.1 2 k)) 86 k (S.2.1 3 k)) 87 k (S.2.1 4 k)) 88 k (S.2.1 5 k)) 89 k (S.2.1 6 k)) 11 = S.2.1 11
        rw [u2_ro _ _ _ (show 11 ≠ 89 by decide), u2_ro _ _ _ (show 11 ≠ 88 by decide), u2_ro _ _ _ (show 11 ≠ 87 by decide), u2_ro _ _ _ (show 11 ≠ 86 by decide), u2_ro _ _ _ (show 11 ≠ 85 by decide)]; exact h6 10 (by omega) (by omega)
      · show (u2 (u2 (u2 (u2 (u2 S1.2.1 85 k (S.2.1 2 k)) 86 k (S.2.1 3 k)) 87 k (S.2.1 4 k)) 88 k (S.2.1 5 k)) 89 k (S.2.1 6 k)) 12 = S.2.1 12
        rw [u2_ro _ _ _ (show 12 ≠ 89 by decide), u2_ro _ _ _ (show 12 ≠ 88 by decide), u2_ro _ _ _ (show 12 ≠ 87 by decide), u2_ro _ _ _ (show 12 ≠ 86 by decide), u2_ro _ _ _ (show 12 ≠ 85 by decide)]; exact h6 11 (by omega) (by omega)
      · show (u2 (u2 (u2 (u2 (u2 S1.2.1 85 k (S.2.1 2 k)) 86 k (S.2.1 3 k)) 87 k (S.2.1 4 k)) 88 k (S.2.1 5 k)) 89 k (S.2.1 6 k)) 13 = S.2.1 13
        rw [u2_ro _ _ _ (show 13 ≠ 89 by decide), u2_ro _ _ _ (show 13 ≠ 88 by decide), u2_ro _ _ _ (show 13 ≠ 87 by decide), u2_ro _ _ _ (show 13 ≠ 86 by decide), u2_ro _ _ _ (show 13 ≠ 85 by decide)]; exact h6 12 (by omega) (by omega)
      · show (u2 (u2 (u2 (u2 (u2 S1.2.1 85 k (S.2.1 2 k)) 86 k (S.2.1 3 k)) 87 k (S.2.1 4 k)) 88 k (S.2.1 5 k)) 89 k (S.2.1 6 k)) 14 = S.2.1 14
        rw [u2_ro _ _ _ (show 14 ≠ 89 by decide), u2_ro _ _ _ (show 14 ≠ 88 by decide), u2_ro _ _ _ (show 14 ≠ 87 by decide), u2_ro _ _ _ (show 14 ≠ 86 by decide), u2_ro _ _ _ (show 14 ≠ 85 by decide)]; exact h6 13 (by omega) (by omega)
    · exact h7
theorem copy84_1 (x : XT) (S : ST) (hq : ∀ l, l < 6 → qk x (S.2.2.2 15 l) = true) (ho : ∀ g, g < 10 → inb (S.2.1 6 g) 2 = true) : ∃ S2, gfX7_copyFrom_84_1 x S = some ((), S2) ∧ CI S S2 84 1 10 5 6 3 6 := by
  unfold gfX7_copyFrom_84_1 bfX7_copyFrom_84_1_0
  rw [show (0 : Int32) = iN 0 from rfl]
  refine cpl42_84_1 x S hq ho 10 0 20000 _ (by omega) (by omega) ⟨⟨?_, ?_, ?_, ?_, ?_⟩, fun i _ _ j hj => by omega, fun i _ _ j hj => by omega, fun i _ _ j hj => by omega, fun j hj => by omega, fun j hj => by omega, fun _ _ _ => rfl, rfl⟩
  · show (u2 (u2 (u2 (u2 (u2 S.1 84 0 (S.1 1 0)) 84 6 (S.1 1 6)) 84 11 (S.1 1 11)) 84 16 (S.1 1 16)) 84 18 (S.1 1 18)) 84 0 = _
    rw [u2_k _ _ _ (show 0 ≠ 18 by decide), u2_k _ _ _ (show 0 ≠ 16 by decide), u2_k _ _ _ (show 0 ≠ 11 by decide), u2_k _ _ _ (show 0 ≠ 6 by decide), u2_s]
  · show (u2 (u2 (u2 (u2 (u2 S.1 84 0 (S.1 1 0)) 84 6 (S.1 1 6)) 84 11 (S.1 1 11)) 84 16 (S.1 1 16)) 84 18 (S.1 1 18)) 84 6 = _
    rw [u2_k _ _ _ (show 6 ≠ 18 by decide), u2_k _ _ _ (show 6 ≠ 16 by decide), u2_k _ _ _ (show 6 ≠ 11 by decide), u2_s]
  · show (u2 (u2 (u2 (u2 (u2 S.1 84 0 (S.1 1 0)) 84 6 (S.1 1 6)) 84 11 (S.1 1 11)) 84 16 (S.1 1 16)) 84 18 (S.1 1 18)) 84 11 = _
    rw [u2_k _ _ _ (show 11 ≠ 18 by decide), u2_k _ _ _ (show 11 ≠ 16 by decide), u2_s]
  · show (u2 (u2 (u2 (u2 (u2 S.1 84 0 (S.1 1 0)) 84 6 (S.1 1 6)) 84 11 (S.1 1 11)) 84 16 (S.1 1 16)) 84 18 (S.1 1 18)) 84 16 = _
    rw [u2_k _ _ _ (show 16 ≠ 18 by decide), u2_s]
  · show (u2 (u2 (u2 (u2 (u2 S.1 84 0 (S.1 1 0)) 84 6 (S.1 1 6)) 84 11 (S.1 1 11)) 84 16 (S.1 1 16)) 84 18 (S.1 1 18)) 84 18 = _
    rw [u2_s]
theorem cpl252_100_1 (x : XT) (S : ST) (hq : ∀ l, l < 6 → qk x (S.2.2.2 15 l) = true) (ho : ∀ g, g < 10 → inb (S.2.1 6 g) 2 = true) : ∀ (m k fuel : Nat) (S1 : ST), k + m = 6 → m < fuel → CI S S1 100 1 10 5 6 3 k → ∃ S2, lfX7_copyFrom_100_1_252 x fuel S1 (iN k) = some ((), S2) ∧ CI S S2 100 1 10 5 6 3 6
  | 0, k, fuel, S1, hk, hf, h => by
    obtain ⟨fuel, rfl⟩ : ∃ z, fuel = z + 1 := ⟨fuel - 1, by omega⟩
    have : k = 6 := by omega
    subst this
    rw [lfX7_copyFrom_100_1_252, bfX7_copyFrom_100_1_252, if_pos (show (6 : Int32) ≤ iN 6 by decide)]
    exact ⟨S1, rfl, h⟩
  | m + 1, k, fuel, S1, hk, hf, h => by
    obtain ⟨fuel, rfl⟩ : ∃ z, fuel = z + 1 := ⟨fuel - 1, by omega⟩
    obtain ⟨h0, h1, h2, h3, h4, h5, h6, h7⟩ := h
    rw [lfX7_copyFrom_100_1_252, bfX7_copyFrom_100_1_252, if_neg (show ¬ (6 : Int32) ≤ iN k from fun hh => by have := (iN_le (m := 6) (by omega) (by omega)).mp hh; omega), inb_t (show k < 6 by omega) (by omega), iN_nat (by omega), iN_succ]
    simp only [cond_true]
    have e7 : S1.2.2.2 15 = S.2.2.2 15 := h7
    rw [e7, hq k (by omega), cond_true]
    refine cpl252_100_1 x S hq ho m (k + 1) fuel (S1.1, S1.2.1, S1.2.2.1, u2 S1.2.2.2 114 k (S.2.2.2 15 k)) (by omega) (by omega) ⟨h0, ?_, ?_, ?_, ?_, ?_, ?_, ?_⟩
    · exact h1
    · exact h2
    · exact h3
    · exact h4
    · exact cp1 (A := S1.2.2.2) (B := S.2.2.2 15) h5 rfl
    · exact h6
    · show u2 S1.2.2.2 114 k (S.2.2.2 15 k) 15 = _
      rw [u2_ro _ _ _ (show 15 ≠ 114 by decide)]; exact h7
theorem cpl227_100_1 (x : XT) (S : ST) (hq : ∀ l, l < 6 → qk x (S.2.2.2 15 l) = true) (ho : ∀ g, g < 10 → inb (S.2.1 6 g) 2 = true) : ∀ (m k fuel : Nat) (S1 : ST), k + m = 3 → m < fuel → CI S S1 100 1 10 5 6 k 0 → ∃ S2, lfX7_copyFrom_100_1_227 x fuel S1 (iN k) = some ((), S2) ∧ CI S S2 100 1 10 5 6 3 6
  | 0, k, fuel, S1, hk, hf, h => by
    obtain ⟨fuel, rfl⟩ : ∃ z, fuel = z + 1 := ⟨fuel - 1, by omega⟩
    have : k = 3 := by omega
    subst this
    rw [lfX7_copyFrom_100_1_227, bfX7_copyFrom_100_1_227, if_pos (show (3 : Int32) ≤ iN 3 by decide)]
    rw [show (0 : Int32) = iN 0 from rfl]
    exact cpl252_100_1 x S hq ho 6 0 20000 S1 (by omega) (by omega) h
  | m + 1, k, fuel, S1, hk, hf, h => by
    obtain ⟨fuel, rfl⟩ : ∃ z, fuel = z + 1 := ⟨fuel - 1, by omega⟩
    obtain ⟨h0, h1, h2, h3, h4, h5, h6, h7⟩ := h
    rw [lfX7_copyFrom_100_1_227, bfX7_copyFrom_100_1_227, if_neg (show ¬ (3 : Int32) ≤ iN k from fun hh => by have := (iN_le (m := 3) (by omega) (by omega)).mp hh; omega), inb_t (show k < 3 by omega) (by omega), iN_nat (by omega), iN_succ]
    simp only [cond_true]
    have e13 : S1.2.1 14 = S.2.1 14 := h6 13 (by omega) (by omega)
    rw [e13]
    refine cpl227_100_1 x S hq ho m (k + 1) fuel (S1.1, (u2 S1.2.1 113 k (S.2.1 14 k)), S1.2.2.1, S1.2.2.2) (by omega) (by omega) ⟨h0, ?_, ?_, ?_, ?_, ?_, ?_, ?_⟩
    · intro i hi1 hi2
      have hi3 : i = 1 ∨ i = 2 ∨ i = 3 ∨ i = 4 ∨ i = 5 := by omega
      rcases hi3 with rfl | rfl | rfl | rfl | rfl
      · intro j hj
        show (u2 S1.2.1 113 k (S.2.1 14 k)) 101 j = S.2.1 2 j
        rw [u2_ro _ _ _ (show 101 ≠ 113 by decide)]
        exact h1 1 (by omega) (by omega) j hj
      · intro j hj
        show (u2 S1.2.1 113 k (S.2.1 14 k)) 102 j = S.2.1 3 j
        rw [u2_ro _ _ _ (show 102 ≠ 113 by decide)]
        exact h1 2 (by omega) (by omega) j hj
      · intro j hj
        show (u2 S1.2.1 113 k (S.2.1 14 k)) 103 j = S.2.1 4 j
        rw [u2_ro _ _ _ (show 103 ≠ 113 by decide)]
        exact h1 3 (by omega) (by omega) j hj
      · intro j hj
        show (u2 S1.2.1 113 k (S.2.1 14 k)) 104 j = S.2.1 5 j
        rw [u2_ro _ _ _ (show 104 ≠ 113 by decide)]
        exact h1 4 (by omega) (by omega) j hj
      · intro j hj
        show (u2 S1.2.1 113 k (S.2.1 14 k)) 105 j = S.2.1 6 j
        rw [u2_ro _ _ _ (show 105 ≠ 113 by decide)]
        exact h1 5 (by omega) (by omega) j hj
    · intro i hi1 hi2
      have hi3 : i = 6 ∨ i = 7 ∨ i = 8 ∨ i = 9 := by omega
      rcases hi3 with rfl | rfl | rfl | rfl
      · intro j hj
        show (u2 S1.2.1 113 k (S.2.1 14 k)) 106 j = S.2.1 7 j
        rw [u2_ro _ _ _ (show 106 ≠ 113 by decide)]
        exact h2 6 (by omega) (by omega) j hj
      · intro j hj
        show (u2 S1.2.1 113 k (S.2.1 14 k)) 107 j = S.2.1 8 j
        rw [u2_ro _ _ _ (show 107 ≠ 113 by decide)]
        exact h2 7 (by omega) (by omega) j hj
      · intro j hj
        show (u2 S1.2.1 113 k (S.2.1 14 k)) 108 j = S.2.1 9 j
        rw [u2_ro _ _ _ (show 108 ≠ 113 by decide)]
        exact h2 8 (by omega) (by omega) j hj
      · intro j hj
        show (u2 S1.2.1 113 k (S.2.1 14 k)) 109 j = S.2.1 10 j
        rw [u2_ro _ _ _ (show 109 ≠ 113 by decide)]
        exact h2 9 (by omega) (by omega) j hj
    · intro i hi1 hi2
      have hi3 : i = 10 ∨ i = 11 ∨ i = 12 := by omega
      rcases hi3 with rfl | rfl | rfl
      · intro j hj
        show (u2 S1.2.1 113 k (S.2.1 14 k)) 110 j = S.2.1 11 j
        rw [u2_ro _ _ _ (show 110 ≠ 113 by decide)]
        exact h3 10 (by omega) (by omega) j hj
      · intro j hj
        show (u2 S1.2.1 113 k (S.2.1 14 k)) 111 j = S.2.1 12 j
        rw [u2_ro _ _ _ (show 111 ≠ 113 by decide)]
        exact h3 11 (by omega) (by omega) j hj
      · intro j hj
        show (u2 S1.2.1 113 k (S.2.1 14 k)) 112 j = S.2.1 13 j
        rw [u2_ro _ _ _ (show 112 ≠ 113 by decide)]
        exact h3 12 (by omega) (by omega) j hj
    · exact cp1 (A := S1.2.1) (B := S.2.1 14) h4 rfl
    · exact h5
    · intro i hi1 hi2
      have hi3 : i = 1 ∨ i = 2 ∨ i = 3 ∨ i = 4 ∨ i = 5 ∨ i = 6 ∨ i = 7 ∨ i = 8 ∨ i = 9 ∨ i = 10 ∨ i = 11 ∨ i = 12 ∨ i = 13 := by omega
      rcases hi3 with rfl | rfl | rfl | rfl | rfl | rfl | rfl | rfl | rfl | rfl | rfl | rfl | rfl
      · show (u2 S1.2.1 113 k (S.2.1 14 k)) 2 = S.2.1 2
        rw [u2_ro _ _ _ (show 2 ≠ 113 by decide)]; exact h6 1 (by omega) (by omega)
      · show (u2 S1.2.1 113 k (S.2.1 14 k)) 3 = S.2.1 3
        rw [u2_ro _ _ _ (show 3 ≠ 113 by decide)]; exact h6 2 (by omega) (by omega)
      · show (u2 S1.2.1 113 k (S.2.1 14 k)) 4 = S.2.1 4
        rw [u2_ro _ _ _ (show 4 ≠ 113 by decide)]; exact h6 3 (by omega) (by omega)
      · show (u2 S1.2.1 113 k (S.2.1 14 k)) 5 = S.2.1 5
        rw [u2_ro _ _ _ (show 5 ≠ 113 by decide)]; exact h6 4 (by omega) (by omega)
      · show (u2 S1.2.1 113 k (S.2.1 14 k)) 6 = S.2.1 6
        rw [u2_ro _ _ _ (show 6 ≠ 113 by decide)]; exact h6 5 (by omega) (by omega)
      · show (u2 S1.2.1 113 k (S.2.1 14 k)) 7 = S.2.1 7
        rw [u2_ro _ _ _ (show 7 ≠ 113 by decide)]; exact h6 6 (by omega) (by omega)
      · show (u2 S1.2.1 113 k (S.2.1 14 k)) 8 = S.2.1 8
        rw [u2_ro _ _ _ (show 8 ≠ 113 by decide)]; exact h6 7 (by omega) (by omega)
      · show (u2 S1.2.1 113 k (S.2.1 14 k)) 9 = S.2.1 9
        rw [u2_ro _ _ _ (show 9 ≠ 113 by decide)]; exact h6 8 (by omega) (by omega)
      · show (u2 S1.2.1 113 k (S.2.1 14 k)) 10 = S.2.1 10
        rw [u2_ro _ _ _ (show 10 ≠ 113 by decide)]; exact h6 9 (by omega) (by omega)
      · show (u2 S1.2.1 113 k (S.2.1 14 k)) 11 = S.2.1 11
        rw [u2_ro _ _ _ (show 11 ≠ 113 by decide)]; exact h6 10 (by omega) (by omega)
      · show (u2 S1.2.1 113 k (S.2.1 14 k)) 12 = S.2.1 12
        rw [u2_ro _ _ _ (show 12 ≠ 113 by decide)]; exact h6 11 (by omega) (by omega)
      · show (u2 S1.2.1 113 k (S.2.1 14 k)) 13 = S.2.1 13
        rw [u2_ro _ _ _ (show 13 ≠ 113 by decide)]; exact h6 12 (by omega) (by omega)
      · show (u2 S1.2.1 113 k (S.2.1 14 k)) 14 = S.2.1 14
        rw [u2_ro _ _ _ (show 14 ≠ 113 by decide)]; exact h6 13 (by omega) (by omega)
    · exact h7
theorem cpl177_100_1 (x : XT) (S : ST) (hq : ∀ l, l < 6 → qk x (S.2.2.2 15 l) = true) (ho : ∀ g, g < 10 → inb (S.2.1 6 g) 2 = true) : ∀ (m k fuel : Nat) (S1 : ST), k + m = 6 → m < fuel → CI S S1 100 1 10 5 k 0 0 → ∃ S2, lfX7_copyFrom_100_1_177 x fuel S1 (iN k) = some ((), S2) ∧ CI S S2 100 1 10 5 6 3 6
  | 0, k, fuel, S1, hk, hf, h => by
    obtain ⟨fuel, rfl⟩ : ∃ z, fuel = z + 1 := ⟨fuel - 1, by omega⟩
    have : k = 6 := by omega
    subst this
    rw [lfX7_copyFrom_100_1_177, bfX7_copyFrom_100_1_177, if_pos (show (6 : Int32) ≤ iN 6 by decide)]
    rw [show (0 : Int32) = iN 0 from rfl]
    exact cpl227_100_1 x S hq ho 3 0 20000 S1 (by omega) (by omega) h
  | m + 1, k, fuel, S1, hk, hf, h => by
    obtain ⟨fuel, rfl⟩ : ∃ z, fuel = z + 1 := ⟨fuel - 1, by omega⟩
    obtain ⟨h0, h1, h2, h3, h4, h5, h6, h7⟩ := h
    rw [lfX7_copyFrom_100_1_177, bfX7_copyFrom_100_1_177, if_neg (show ¬ (6 : Int32) ≤ iN k from fun hh => by have := (iN_le (m := 6) (by omega) (by omega)).mp hh; omega), inb_t (show k < 6 by omega) (by omega), iN_nat (by omega), iN_succ]
    simp only [cond_true]
    have e10 : S1.2.1 11 = S.2.1 11 := h6 10 (by omega) (by omega)
    have e11 : S1.2.1 12 = S.2.1 12 := h6 11 (by omega) (by omega)
    have e12 : S1.2.1 13 = S.2.1 13 := h6 12 (by omega) (by omega)
    rw [e10, e11, e12]
    refine cpl177_100_1 x S hq ho m (k + 1) fuel (S1.1, (u2 (u2 (u2 S1.2.1 110 k (S.2.1 11 k)) 111 k (S.2.1 12 k)) 112 k (S.2.1 13 k)), S1.2.2.1, S1.2.2.2) (by omega) (by omega) ⟨h0, ?_, ?_, ?_, ?_, ?_, ?_, ?_⟩
    · intro i hi1 hi2
      have hi3 : i = 1 ∨ i = 2 ∨ i = 3 ∨ i = 4 ∨ i = 5 := by omega
      rcases hi3 with rfl | rfl | rfl | rfl | rfl
      · intro j hj
        show (u2 (u2 (u2 S1.2.1 110 k (S.2.1 11 k)) 111 k (S.2.1 12 k)) 112 k (S.2.1 13 k)) 101 j = S.2.1 2 j
        rw [u2_ro _ _ _ (show 101 ≠ 112 by decide), u2_ro _ _ _ (show 101 ≠ 111 by decide), u2_ro _ _ _ (show 101 ≠ 110 by decide)]
        exact h1 1 (by omega) (by omega) j hj
      · intro j hj
        show (u2 (u2 (u2 S1.2.1 110 k (S.2.1 11 k)) 111 k (S.2.1 12 k)) 112 k (S.2.1 13 k)) 102 j = S.2.1 3 j
        rw [u2_ro _ _ _ (show 102 ≠ 112 by decide), u2_ro _ _ _ (show 102 ≠ 111 by decide), u2_ro _ _ _ (show 102 ≠ 110 by decide)]
        exact h1 2 (by omega) (by omega) j hj
      · intro j hj
        show (u2 (u2 (u2 S1.2.1 110 k (S.2.1 11 k)) 111 k (S.2.1 12 k)) 112 k (S.2.1 13 k)) 103 j = S.2.1 4 j
        rw [u2_ro _ _ _ (show 103 ≠ 112 by decide), u2_ro _ _ _ (show 103 ≠ 111 by decide), u2_ro _ _ _ (show 103 ≠ 110 by decide)]
        exact h1 3 (by omega) (by omega) j hj
      · intro j hj
        show (u2 (u2 (u2 S1.2.1 110 k (S.2.1 11 k)) 111 k (S.2.1 12 k)) 112 k (S.2.1 13 k)) 104 j = S.2.1 5 j
        rw [u2_ro _ _ _ (show 104 ≠ 112 by decide), u2_ro _ _ _ (show 104 ≠ 111 by decide), u2_ro _ _ _ (show 104 ≠ 110 by decide)]
        exact h1 4 (by omega) (by omega) j hj
      · intro j hj
        show (u2 (u2 (u2 S1.2.1 110 k (S.2.1 11 k)) 111 k (S.2.1 12 k)) 112 k (S.2.1 13 k)) 105 j = S.2.1 6 j
        rw [u2_ro _ _ _ (show 105 ≠ 112 by decide), u2_ro _ _ _ (show 105 ≠ 111 by decide), u2_ro _ _ _ (show 105 ≠ 110 by decide)]
        exact h1 5 (by omega) (by omega) j hj
    · intro i hi1 hi2
      have hi3 : i = 6 ∨ i = 7 ∨ i = 8 ∨ i = 9 := by omega
      rcases hi3 with rfl | rfl | rfl | rfl
      · intro j hj
        show (u2 (u2 (u2 S1.2.1 110 k (S.2.1 11 k)) 111 k (S.2.1 12 k)) 112 k (S.2.1 13 k)) 106 j = S.2.1 7 j
        rw [u2_ro _ _ _ (show 106 ≠ 112 by decide), u2_ro _ _ _ (show 106 ≠ 111 by decide), u2_ro _ _ _ (show 106 ≠ 110 by decide)]
        exact h2 6 (by omega) (by omega) j hj
      · intro j hj
        show (u2 (u2 (u2 S1.2.1 110 k (S.2.1 11 k)) 111 k (S.2.1 12 k)) 112 k (S.2.1 13 k)) 107 j = S.2.1 8 j
        rw [u2_ro _ _ _ (show 107 ≠ 112 by decide), u2_ro _ _ _ (show 107 ≠ 111 by decide), u2_ro _ _ _ (show 107 ≠ 110 by decide)]
        exact h2 7 (by omega) (by omega) j hj
      · intro j hj
        show (u2 (u2 (u2 S1.2.1 110 k (S.2.1 11 k)) 111 k (S.2.1 12 k)) 112 k (S.2.1 13 k)) 108 j = S.2.1 9 j
        rw [u2_ro _ _ _ (show 108 ≠ 112 by decide), u2_ro _ _ _ (show 108 ≠ 111 by decide), u2_ro _ _ _ (show 108 ≠ 110 by decide)]
        exact h2 8 (by omega) (by omega) j hj
      · intro j hj
        show (u2 (u2 (u2 S1.2.1 110 k (S.2.1 11 k)) 111 k (S.2.1 12 k)) 112 k (S.2.1 13 k)) 109 j = S.2.1 10 j
        rw [u2_ro _ _ _ (show 109 ≠ 112 by decide), u2_ro _ _ _ (show 109 ≠ 111 by decide), u2_ro _ _ _ (show 109 ≠ 110 by decide)]
        exact h2 9 (by omega) (by omega) j hj
    · intro i hi1 hi2
      have hi3 : i = 10 ∨ i = 11 ∨ i = 12 := by omega
      rcases hi3 with rfl | rfl | rfl
      · intro j hj
        show (u2 (u2 (u2 S1.2.1 110 k (S.2.1 11 k)) 111 k (S.2.1 12 k)) 112 k (S.2.1 13 k)) 110 j = S.2.1 11 j
        rw [u2_ro _ _ _ (show 110 ≠ 112 by decide), u2_ro _ _ _ (show 110 ≠ 111 by decide)]
        refine cp1 (B := S.2.1 11) (fun j hj => ?_) rfl j hj
        exact h3 10 (by omega) (by omega) j hj
      · intro j hj
        show (u2 (u2 (u2 S1.2.1 110 k (S.2.1 11 k)) 111 k (S.2.1 12 k)) 112 k (S.2.1 13 k)) 111 j = S.2.1 12 j
        rw [u2_ro _ _ _ (show 111 ≠ 112 by decide)]
        refine cp1 (B := S.2.1 12) (fun j hj => ?_) rfl j hj
        rw [u2_ro _ _ _ (show 111 ≠ 110 by decide)]
        exact h3 11 (by omega) (by omega) j hj
      · intro j hj
        show (u2 (u2 (u2 S1.2.1 110 k (S.2.1 11 k)) 111 k (S.2.1 12 k)) 112 k (S.2.1 13 k)) 112 j = S.2.1 13 j
        refine cp1 (B := S.2.1 13) (fun j hj => ?_) rfl j hj
        rw [u2_ro _ _ _ (show 112 ≠ 111 by decide), u2_ro _ _ _ (show 112 ≠ 110 by decide)]
        exact h3 12 (by omega) (by omega) j hj
    · intro j hj
      show (u2 (u2 (u2 S1.2.1 110 k (S.2.1 11 k)) 111 k (S.2.1 12 k)) 112 k (S.2.1 13 k)) 113 j = S.2.1 14 j
      rw [u2_ro _ _ _ (show 113 ≠ 112 by decide), u2_ro _ _ _ (show 113 ≠ 111 by decide), u2_ro _ _ _ (show 113 ≠ 110 by decide)]
      exact h4 j hj
    · exact h5
    · intro i hi1 hi2
      have hi3 : i = 1 ∨ i = 2 ∨ i = 3 ∨ i = 4 ∨ i = 5 ∨ i = 6 ∨ i = 7 ∨ i = 8 ∨ i = 9 ∨ i = 10 ∨ i = 11 ∨ i = 12 ∨ i = 13 := by omega
      rcases hi3 with rfl | rfl | rfl | rfl | rfl | rfl | rfl | rfl | rfl | rfl | rfl | rfl | rfl
      · show (u2 (u2 (u2 S1.2.1 110 k (S.2.1 11 k)) 111 k (S.2.1 12 k)) 112 k (S.2.1 13 k)) 2 = S.2.1 2
        rw [u2_ro _ _ _ (show 2 ≠ 112 by decide), u2_ro _ _ _ (show 2 ≠ 111 by decide), u2_ro _ _ _ (show 2 ≠ 110 by decide)]; exact h6 1 (by omega) (by omega)
      · show (u2 (u2 (u2 S1.2.1 110 k (S.2.1 11 k)) 111 k (S.2.1 12 k)) 112 k (S.2.1 13 k)) 3 = S.2.1 3
        rw [u2_ro _ _ _ (show 3 ≠ 112 by decide), u2_ro _ _ _ (show 3 ≠ 111 by decide), u2_ro _ _ _ (show 3 ≠ 110 by decide)]; exact h6 2 (by omega) (by omega)
      · show (u2 (u2 (u2 S1.2.1 110 k (S.2.1 11 k)) 111 k (S.2.1 12 k)) 112 k (S.2.1 13 k)) 4 = S.2.1 4
        rw [u2_ro _ _ _ (show 4 ≠ 112 by decide), u2_ro _ _ _ (show 4 ≠ 111 by decide), u2_ro _ _ _ (show 4 ≠ 110 by decide)]; exact h6 3 (by omega) (by omega)
      · show (u2 (u2 (u2 S1.2.1 110 k (S.2.1 11 k)) 111 k (S.2.1 12 k)) 112 k (S.2.1 13 k)) 5 = S.2.1 5
        rw [u2_ro _ _ _ (show 5 ≠ 112 by decide), u2_ro _ _ _ (show 5 ≠ 111 by decide), u2_ro _ _ _ (show 5 ≠ 110 by decide)]; exact h6 4 (by omega) (by omega)
      · show (u2 (u2 (u2 S1.2.1 110 k (S.2.1 11 k)) 111 k (S.2.1 12 k)) 112 k (S.2.1 13 k)) 6 = S.2.1 6
        rw [u2_ro _ _ _ (show 6 ≠ 112 by decide), u2_ro _ _ _ (show 6 ≠ 111 by decide), u2_ro _ _ _ (show 6 ≠ 110 by decide)]; exact h6 5 (by omega) (by omega)
      · show (u2 (u2 (u2 S1.2.1 110 k (S.2.1 11 k)) 111 k (S.2.1 12 k)) 112 k (S.2.1 13 k)) 7 = S.2.1 7
        rw [u2_ro _ _ _ (show 7 ≠ 112 by decide), u2_ro _ _ _ (show 7 ≠ 111 by decide), u2_ro _ _ _ (show 7 ≠ 110 by decide)]; exact h6 6 (by omega) (by omega)
      · show (u2 (u2 (u2 S1.2.1 110 k (S.2.1 11 k)) 111 k (S.2.1 12 k)) 112 k (S.2.1 13 k)) 8 = S.2.1 8
        rw [u2_ro _ _ _ (show 8 ≠ 112 by decide), u2_ro _ _ _ (show 8 ≠ 111 by decide), u2_ro _ _ _ (show 8 ≠ 110 by decide)]; exact h6 7 (by omega) (by omega)
      · show (u2 (u2 (u2 S1.2.1 110 k (S.2.1 11 k)) 111 k (S.2.1 12 k)) 112 k (S.2.1 13 k)) 9 = S.2.1 9
        rw [u2_ro _ _ _ (show 9 ≠ 112 by decide), u2_ro _ _ _ (show 9 ≠ 111 by decide), u2_ro _ _ _ (show 9 ≠ 110 by decide)]; exact h6 8 (by omega) (by omega)
      · show (u2 (u2 (u2 S1.2.1 110 k (S.2.1 11 k)) 111 k (S.2.1 12 k)) 112 k (S.2.1 13 k)) 10 = S.2.1 10
        rw [u2_ro _ _ _ (show 10 ≠ 112 by decide), u2_ro _ _ _ (show 10 ≠ 111 by decide), u2_ro _ _ _ (show 10 ≠ 110 by decide)]; exact h6 9 (by omega) (by omega)
      · show (u2 (u2 (u2 S1.2.1 110 k (S.2.1 11 k)) 111 k (S.2.1 12 k)) 112 k (S.2.1 13 k)) 11 = S.2.1 11
        rw [u2_ro _ _ _ (show 11 ≠ 112 by decide), u2_ro _ _ _ (show 11 ≠ 111 by decide), u2_ro _ _ _ (show 11 ≠ 110 by decide)]; exact h6 10 (by omega) (by omega)
      · show (u2 (u2 (u2 S1.2.1 110 k (S.2.1 11 k)) 111 k (S.2.1 12 k)) 112 k (S.2.1 13 k)) 12 = S.2.1 12
        rw [u2_ro _ _ _ (show 12 ≠ 112 by decide), u2_ro _ _ _ (show 12 ≠ 111 by decide), u2_ro _ _ _ (show 12 ≠ 110 by decide)]; exact h6 11 (by omega) (by omega)
      · show (u2 (u2 (u2 S1.2.1 110 k (S.2.1 11 k)) 111 k (S.2.1 12 k)) 112 k (S.2.1 13 k)) 13 = S.2.1 13
        rw [u2_ro _ _ _ (show 13 ≠ 112 by decide), u2_ro _ _ _ (show 13 ≠ 111 by decide), u2_ro _ _ _ (show 13 ≠ 110 by decide)]; exact h6 12 (by omega) (by omega)
      · show (u2 (u2 (u2 S1.2.1 110 k (S.2.1 11 k)) 111 k (S.2.1 12 k)) 112 k (S.2.1 13 k)) 14 = S.2.1 14
        rw [u2_ro _ _ _ (show 14 ≠ 112 by decide), u2_ro _ _ _ (show 14 ≠ 111 by decide), u2_ro _ _ _ (show 14 ≠ 110 by decide)]; exact h6 13 (by omega) (by omega)
    · exact h7
theorem cpl116_100_1 (x : XT) (S : ST) (hq : ∀ l, l < 6 → qk x (S.2.2.2 15 l) = true) (ho : ∀ g, g < 10 → inb (S.2.1 6 g) 2 = true) : ∀ (m k fuel : Nat) (S1 : ST), k + m = 5 → m < fuel → CI S S1 100 1 10 k 0 0 0 → ∃ S2, lfX7_copyFrom_100_1_116 x fuel S1 (iN k) = some ((), S2) ∧ CI S S2 100 1 10 5 6 3 6
  | 0, k, fuel, S1, hk, hf, h => by
    obtain ⟨fuel, rfl⟩ : ∃ z, fuel = z + 1 := ⟨fuel - 1, by omega⟩
    have : k = 5 := by omega
    subst this
    rw [lfX7_copyFrom_100_1_116, bfX7_copyFrom_100_1_116, if_pos (show (5 : Int32) ≤ iN 5 by decide)]
    rw [show (0 : Int32) = iN 0 from rfl]
    exact cpl177_100_1 x S hq ho 6 0 20000 S1 (by omega) (by omega) h
  | m + 1, k, fuel, S1, hk, hf, h => by
    obtain ⟨fuel, rfl⟩ : ∃ z, fuel = z + 1 := ⟨fuel - 1, by omega⟩
    obtain ⟨h0, h1, h2, h3, h4, h5, h6, h7⟩ := h
    rw [lfX7_copyFrom_100_1_116, bfX7_copyFrom_100_1_116, if_neg (show ¬ (5 : Int32) ≤ iN k from fun hh => by have := (iN_le (m := 5) (by omega) (by omega)).mp hh; omega), inb_t (show k < 5 by omega) (by omega), iN_nat (by omega), iN_succ]
    simp only [cond_true]
    have e6 : S1.2.1 7 = S.2.1 7 := h6 6 (by omega) (by omega)
    have e7 : S1.2.1 8 = S.2.1 8 := h6 7 (by omega) (by omega)
    have e8 : S1.2.1 9 = S.2.1 9 := h6 8 (by omega) (by omega)
    have e9 : S1.2.1 10 = S.2.1 10 := h6 9 (by omega) (by omega)
    rw [e6, e7, e8, e9]
    refine cpl116_100_1 x S hq ho m (k + 1) fuel (S1.1, (u2 (u2 (u2 (u2 S1.2.1 106 k (S.2.1 7 k)) 107 k (S.2.1 8 k)) 108 k (S.2.1 9 k)) 109 k (S.2.1 10 k)), S1.2.2.1, S1.2.2.2) (by omega) (by omega) ⟨h0, ?_, ?_, ?_, ?_, ?_, ?_, ?_⟩
    · intro i hi1 hi2
      have hi3 : i = 1 ∨ i = 2 ∨ i = 3 ∨ i = 4 ∨ i = 5 := by omega
      rcases hi3 with rfl | rfl | rfl | rfl | rfl
      · intro j hj
        show (u2 (u2 (u2 (u2 S1.2.1 106 k (S.2.1 7 k)) 107 k (S.2.1 8 k)) 108 k (S.2.1 9 k)) 109 k (S.2.1 10 k)) 101 j = S.2.1 2 j
        rw [u2_ro _ _ _ (show 101 ≠ 109 by decide), u2_ro _ _ _ (show 101 ≠ 108 by decide), u2_ro _ _ _ (show 101 ≠ 107 by decide), u2_ro _ _ _ (show 101 ≠ 106 by decide)]
        exact h1 1 (by omega) (by omega) j hj
      · intro j hj
        show (u2 (u2 (u2 (u2 S1.2.1 106 k (S.2.1 7 k)) 107 k (S.2.1 8 k)) 108 k (S.2.1 9 k)) 109 k (S.2.1 10 k)) 102 j = S.2.1 3 j
        rw [u2_ro _ _ _ (show 102 ≠ 109 by decide), u2_ro _ _ _ (show 102 ≠ 108 by decide), u2_ro _ _ _ (show 102 ≠ 107 by decide), u2_ro _ _ _ (show 102 ≠ 106 by decide)]
        exact h1 2 (by omega) (by omega) j hj
      · intro j hj
        show (u2 (u2 (u2 (u2 S1.2.1 106 k (S.2.1 7 k)) 107 k (S.2.1 8 k)) 108 k (S.2.1 9 k)) 109 k (S.2.1 10 k)) 103 j = S.2.1 4 j
        rw [u2_ro _ _ _ (show 103 ≠ 109 by decide), u2_ro _ _ _ (show 103 ≠ 108 by decide), u2_ro _ _ _ (show 103 ≠ 107 by decide), u2_ro _ _ _ (show 103 ≠ 106 by decide)]
        exact h1 3 (by omega) (by omega) j hj
      · intro j hj
        show (u2 (u2 (u2 (u2 S1.2.1 106 k (S.2.1 7 k)) 107 k (S.2.1 8 k)) 108 k (S.2.1 9 k)) 109 k (S.2.1 10 k)) 104 j = S.2.1 5 j
        rw [u2_ro _ _ _ (show 104 ≠ 109 by decide), u2_ro _ _ _ (show 104 ≠ 108 by decide), u2_ro _ _ _ (show 104 ≠ 107 by decide), u2_ro _ _ _ (show 104 ≠ 106 by decide)]
        exact h1 4 (by omega) (by omega) j hj
      · intro j hj
        show (u2 (u2 (u2 (u2 S1.2.1 106 k (S.2.1 7 k)) 107 k (S.2.1 8 k)) 108 k (S.2.1 9 k)) 109 k (S.2.1 10 k)) 105 j = S.2.1 6 j
        rw [u2_ro _ _ _ (show 105 ≠ 109 by decide), u2_ro _ _ _ (show 105 ≠ 108 by decide), u2_ro _ _ _ (show 105 ≠ 107 by decide), u2_ro _ _ _ (show 105 ≠ 106 by decide)]
        exact h1 5 (by omega) (by omega) j hj
    · intro i hi1 hi2
      have hi3 : i = 6 ∨ i = 7 ∨ i = 8 ∨ i = 9 := by omega
      rcases hi3 with rfl | rfl | rfl | rfl
      · intro j hj
        show (u2 (u2 (u2 (u2 S1.2.1 106 k (S.2.1 7 k)) 107 k (S.2.1 8 k)) 108 k (S.2.1 9 k)) 109 k (S.2.1 10 k)) 106 j = S.2.1 7 j
        rw [u2_ro _ _ _ (show 106 ≠ 109 by decide), u2_ro _ _ _ (show 106 ≠ 108 by decide), u2_ro _ _ _ (show 106 ≠ 107 by decide)]
        refine cp1 (B := S.2.1 7) (fun j hj => ?_) rfl j hj
        exact h2 6 (by omega) (by omega) j hj
      · intro j hj
        show (u2 (u2 (u2 (u2 S1.2.1 106 k (S.2.1 7 k)) 107 k (S.2.1 8 k)) 108 k (S.2.1 9 k)) 109 k (S.2.1 10 k)) 107 j = S.2.1 8 j
        rw [u2_ro _ _ _ (show 107 ≠ 109 by decide), u2_ro _ _ _ (show 107 ≠ 108 by decide)]
        refine cp1 (B := S.2.1 8) (fun j hj => ?_) rfl j hj
        rw [u2_ro _ _ _ (show 107 ≠ 106 by decide)]
        exact h2 7 (by omega) (by omega) j hj
      · intro j hj
        show (u2 (u2 (u2 (u2 S1.2.1 106 k (S.2.1 7 k)) 107 k (S.2.1 8 k)) 108 k (S.2.1 9 k)) 109 k (S.2.1 10 k)) 108 j = S.2.1 9 j
        rw [u2_ro _ _ _ (show 108 ≠ 109 by decide)]
        refine cp1 (B := S.2.1 9) (fun j hj => ?_) rfl j hj
        rw [u2_ro _ _ _ (show 108 ≠ 107 by decide), u2_ro _ _ _ (show 108 ≠ 106 by decide)]
        exact h2 8 (by omega) (by omega) j hj
      · intro j hj
        show (u2 (u2 (u2 (u2 S1.2.1 106 k (S.2.1 7 k)) 107 k (S.2.1 8 k)) 108 k (S.2.1 9 k)) 109 k (S.2.1 10 k)) 109 j = S.2.1 10 j
        refine cp1 (B := S.2.1 10) (fun j hj => ?_) rfl j hj
        rw [u2_ro _ _ _ (show 109 ≠ 108 by decide), u2_ro _ _ _ (show 109 ≠ 107 by decide), u2_ro _ _ _ (show 109 ≠ 106 by decide)]
        exact h2 9 (by omega) (by omega) j hj
    · intro i hi1 hi2
      have hi3 : i = 10 ∨ i = 11 ∨ i = 12 := by omega
      rcases hi3 with rfl | rfl | rfl
      · intro j hj
        show (u2 (u2 (u2 (u2 S1.2.1 106 k (S.2.1 7 k)) 107 k (S.2.1 8 k)) 108 k (S.2.1 9 k)) 109 k (S.2.1 10 k)) 110 j = S.2.1 11 j
        rw [u2_ro _ _ _ (show 110 ≠ 109 by decide), u2_ro _ _ _ (show 110 ≠ 108 by decide), u2_ro _ _ _ (show 110 ≠ 107 by decide), u2_ro _ _ _ (show 110 ≠ 106 by decide)]
        exact h3 10 (by omega) (by omega) j hj
      · intro j hj
        show (u2 (u2 (u2 (u2 S1.2.1 106 k (S.2.1 7 k)) 107 k (S.2.1 8 k)) 108 k (S.2.1 9 k)) 109 k (S.2.1 10 k)) 111 j = S.2.1 12 j
        rw [u2_ro _ _ _ (show 111 ≠ 109 by decide), u2_ro _ _ _ (show 111 ≠ 108 by decide), u2_ro _ _ _ (show 111 ≠ 107 by decide), u2_ro _ _ _ (show 111 ≠ 106 by decide)]
        exact h3 11 (by omega) (by omega) j hj
      · intro j hj
        show (u2 (u2 (u2 (u2 S1.2.1 106 k (S.2.1 7 k)) 107 k (S.2.1 8 k)) 108 k (S.2.1 9 k)) 109 k (S.2.1 10 k)) 112 j = S.2.1 13 j
        rw [u2_ro _ _ _ (show 112 ≠ 109 by decide), u2_ro _ _ _ (show 112 ≠ 108 by decide), u2_ro _ _ _ (show 112 ≠ 107 by decide), u2_ro _ _ _ (show 112 ≠ 106 by decide)]
        exact h3 12 (by omega) (by omega) j hj
    · intro j hj
      show (u2 (u2 (u2 (u2 S1.2.1 106 k (S.2.1 7 k)) 107 k (S.2.1 8 k)) 108 k (S.2.1 9 k)) 109 k (S.2.1 10 k)) 113 j = S.2.1 14 j
      rw [u2_ro _ _ _ (show 113 ≠ 109 by decide), u2_ro _ _ _ (show 113 ≠ 108 by decide), u2_ro _ _ _ (show 113 ≠ 107 by decide), u2_ro _ _ _ (show 113 ≠ 106 by decide)]
      exact h4 j hj
    · exact h5
    · intro i hi1 hi2
      have hi3 : i = 1 ∨ i = 2 ∨ i = 3 ∨ i = 4 ∨ i = 5 ∨ i = 6 ∨ i = 7 ∨ i = 8 ∨ i = 9 ∨ i = 10 ∨ i = 11 ∨ i = 12 ∨ i = 13 := by omega
      rcases hi3 with rfl | rfl | rfl | rfl | rfl | rfl | rfl | rfl | rfl | rfl | rfl | rfl | rfl
      · show (u2 (u2 (u2 (u2 S1.2.1 106 k (S.2.1 7 k)) 107 k (S.2.1 8 k)) 108 k (S.2.1 9 k)) 109 k (S.2.1 10 k)) 2 = S.2.1 2
        rw [u2_ro _ _ _ (show 2 ≠ 109 by decide), u2_ro _ _ _ (show 2 ≠ 108 by decide), u2_ro _ _ _ (show 2 ≠ 107 by decide), u2_ro _ _ _ (show 2 ≠ 106 by decide)]; exact h6 1 (by omega) (by omega)
      · show (u2 (u2 (u2 (u2 S1.2.1 106 k (S.2.1 7 k)) 107 k (S.2.1 8 k)) 108 k (S.2.1 9 k)) 109 k (S.2.1 10 k)) 3 = S.2.1 3
        rw [u2_ro _ _ _ (show 3 ≠ 109 by decide), u2_ro _ _ _ (show 3 ≠ 108 by decide), u2_ro _ _ _ (show 3 ≠ 107 by decide), u2_ro _ _ _ (show 3 ≠ 106 by decide)]; exact h6 2 (by omega) (by omega)
      · show (u2 (u2 (u2 (u2 S1.2.1 106 k (S.2.1 7 k)) 107 k (S.2.1 8 k)) 108 k (S.2.1 9 k)) 109 k (S.2.1 10 k)) 4 = S.2.1 4
        rw [u2_ro _ _ _ (show 4 ≠ 109 by decide), u2_ro _ _ _ (show 4 ≠ 108 by decide), u2_ro _ _ _ (show 4 ≠ 107 by decide), u2_ro _ _ _ (show 4 ≠ 106 by decide)]; exact h6 3 (by omega) (by omega)
      · show (u2 (u2 (u2 (u2 S1.2.1 106 k (S.2.1 7 k)) 107 k (S.2.1 8 k)) 108 k (S.2.1 9 k)) 109 k (S.2.1 10 k)) 5 = S.2.1 5
        rw [u2_ro _ _ _ (show 5 ≠ 109 by decide), u2_ro _ _ _ (show 5 ≠ 108 by decide), u2_ro _ _ _ (show 5 ≠ 107 by decide), u2_ro _ _ _ (show 5 ≠ 106 by decide)]; exact h6 4 (by omega) (by omega)
      · show (u2 (u2 (u2 (u2 S1.2.1 106 k (S.2.1 7 k)) 107 k (S.2.1 8 k)) 108 k (S.2.1 9 k)) 109 k (S.2.1 10 k)) 6 = S.2.1 6
        rw [u2_ro _ _ _ (show 6 ≠ 109 by decide), u2_ro _ _ _ (show 6 ≠ 108 by decide), u2_ro _ _ _ (show 6 ≠ 107 by decide), u2_ro _ _ _ (show 6 ≠ 106 by decide)]; exact h6 5 (by omega) (by omega)
      · show (u2 (u2 (u2 (u2 S1.2.1 106 k (S.2.1 7 k)) 107 k (S.2.1 8 k)) 108 k (S.2.1 9 k)) 109 k (S.2.1 10 k)) 7 = S.2.1 7
        rw [u2_ro _ _ _ (show 7 ≠ 109 by decide), u2_ro _ _ _ (show 7 ≠ 108 by decide), u2_ro _ _ _ (show 7 ≠ 107 by decide), u2_ro _ _ _ (show 7 ≠ 106 by decide)]; exact h6 6 (by omega) (by omega)
      · show (u2 (u2 (u2 (u2 S1.2.1 106 k (S.2.1 7 k)) 107 k (S.2.1 8 k)) 108 k (S.2.1 9 k)) 109 k (S.2.1 10 k)) 8 = S.2.1 8
        rw [u2_ro _ _ _ (show 8 ≠ 109 by decide), u2_ro _ _ _ (show 8 ≠ 108 by decide), u2_ro _ _ _ (show 8 ≠ 107 by decide), u2_ro _ _ _ (show 8 ≠ 106 by decide)]; exact h6 7 (by omega) (by omega)
      · show (u2 (u2 (u2 (u2 S1.2.1 106 k (S.2.1 7 k)) 107 k (S.2.1 8 k)) 108 k (S.2.1 9 k)) 109 k (S.2.1 10 k)) 9 = S.2.1 9
        rw [u2_ro _ _ _ (show 9 ≠ 109 by decide), u2_ro _ _ _ (show 9 ≠ 108 by decide), u2_ro _ _ _ (show 9 ≠ 107 by decide), u2_ro _ _ _ (show 9 ≠ 106 by decide)]; exact h6 8 (by omega) (by omega)
      · show (u2 (u2 (u2 (u2 S1.2.1 106 k (S.2.1 7 k)) 107 k (S.2.1 8 k)) 108 k (S.2.1 9 k)) 109 k (S.2.1 10 k)) 10 = S.2.1 10
        rw [u2_ro _ _ _ (show 10 ≠ 109 by decide), u2_ro _ _ _ (show 10 ≠ 108 by decide), u2_ro _ _ _ (show 10 ≠ 107 by decide), u2_ro _ _ _ (show 10 ≠ 106 by decide)]; exact h6 9 (by omega) (by omega)
      · show (u2 (u2 (u2 (u2 S1.2.1 106 k (S.2.1 7 k)) 107 k (S.2.1 8 k)) 108 k (S.2.1 9 k)) 109 k (S.2.1 10 k)) 11 = S.2.1 11
        rw [u2_ro _ _ _ (show 11 ≠ 109 by decide), u2_ro _ _ _ (show 11 ≠ 108 by decide), u2_ro _ _ _ (show 11 ≠ 107 by decide), u2_ro _ _ _ (show 11 ≠ 106 by decide)]; exact h6 10 (by omega) (by omega)
      · show (u2 (u2 (u2 (u2 S1.2.1 106 k (S.2.1 7 k)) 107 k (S.2.1 8 k)) 108 k (S.2.1 9 k)) 109 k (S.2.1 10 k)) 12 = S.2.1 12
        rw [u2_ro _ _ _ (show 12 ≠ 109 by decide), u2_ro _ _ _ (show 12 ≠ 108 by decide), u2_ro _ _ _ (show 12 ≠ 107 by decide), u2_ro _ _ _ (show 12 ≠ 106 by decide)]; exact h6 11 (by omega) (by omega)
      · show (u2 (u2 (u2 (u2 S1.2.1 106 k (S.2.1 7 k)) 107 k (S.2.1 8 k)) 108 k (S.2.1 9 k)) 109 k (S.2.1 10 k)) 13 = S.2.1 13
        rw [u2_ro _ _ _ (show 13 ≠ 109 by decide), u2_ro _ _ _ (show 13 ≠ 108 by decide), u2_ro _ _ _ (show 13 ≠ 107 by decide), u2_ro _ _ _ (show 13 ≠ 106 by decide)]; exact h6 12 (by omega) (by omega)
      · show (u2 (u2 (u2 (u2 S1.2.1 106 k (S.2.1 7 k)) 107 k (S.2.1 8 k)) 108 k (S.2.1 9 k)) 109 k (S.2.1 10 k)) 14 = S.2.1 14
        rw [u2_ro _ _ _ (show 14 ≠ 109 by decide), u2_ro _ _ _ (show 14 ≠ 108 by decide), u2_ro _ _ _ (show 14 ≠ 107 by decide), u2_ro _ _ _ (show 14 ≠ 106 by decide)]; exact h6 13 (by omega) (by omega)
    · exact h7
theorem cpl42_100_1 (x : XT) (S : ST) (hq : ∀ l, l < 6 → qk x (S.2.2.2 15 l) = true) (ho : ∀ g, g < 10 → inb (S.2.1 6 g) 2 = true) : ∀ (m k fuel : Nat) (S1 : ST), k + m = 10 → m < fuel → CI S S1 100 1 k 0 0 0 0 → ∃ S2, lfX7_copyFrom_100_1_42 x fuel S1 (iN k) = some ((), S2) ∧ CI S S2 100 1 10 5 6 3 6
  | 0, k, fuel, S1, hk, hf, h => by
    obtain ⟨fuel, rfl⟩ : ∃ z, fuel = z + 1 := ⟨fuel - 1, by omega⟩
    have : k = 10 := by omega
    subst this
    rw [lfX7_copyFrom_100_1_42, bfX7_copyFrom_100_1_42, if_pos (show (10 : Int32) ≤ iN 10 by decide)]
    rw [show (0 : Int32) = iN 0 from rfl]
    exact cpl116_100_1 x S hq ho 5 0 20000 S1 (by omega) (by omega) h
  | m + 1, k, fuel, S1, hk, hf, h => by
    obtain ⟨fuel, rfl⟩ : ∃ z, fuel = z + 1 := ⟨fuel - 1, by omega⟩
    obtain ⟨h0, h1, h2, h3, h4, h5, h6, h7⟩ := h
    rw [lfX7_copyFrom_100_1_42, bfX7_copyFrom_100_1_42, if_neg (show ¬ (10 : Int32) ≤ iN k from fun hh => by have := (iN_le (m := 10) (by omega) (by omega)).mp hh; omega), inb_t (show k < 10 by omega) (by omega), iN_nat (by omega), iN_succ]
    simp only [cond_true]
    have e1 : S1.2.1 2 = S.2.1 2 := h6 1 (by omega) (by omega)
    have e2 : S1.2.1 3 = S.2.1 3 := h6 2 (by omega) (by omega)
    have e3 : S1.2.1 4 = S.2.1 4 := h6 3 (by omega) (by omega)
    have e4 : S1.2.1 5 = S.2.1 5 := h6 4 (by omega) (by omega)
    have e5 : S1.2.1 6 = S.2.1 6 := h6 5 (by omega) (by omega)
    rw [e1, e2, e3, e4, e5]
    rw [nar_b (ho k (by omega))]
    refine cpl42_100_1 x S hq ho m (k + 1) fuel (S1.1, (u2 (u2 (u2 (u2 (u2 S1.2.1 101 k (S.2.1 2 k)) 102 k (S.2.1 3 k)) 103 k (S.2.1 4 k)) 104 k (S.2.1 5 k)) 105 k (S.2.1 6 k)), S1.2.2.1, S1.2.2.2) (by omega) (by omega) ⟨h0, ?_, ?_, ?_, ?_, ?_, ?_, ?_⟩
    · intro i hi1 hi2
      have hi3 : i = 1 ∨ i = 2 ∨ i = 3 ∨ i = 4 ∨ i = 5 := by omega
      rcases hi3 with rfl | rfl | rfl | rfl | rfl
      · intro j hj
        show (u2 (u2 (u2 (u2 (u2 S1.2.1 101 k (S.2.1 2 k)) 102 k (S.2.1 3 k)) 103 k (S.2.1 4 k)) 104 k (S.2.1 5 k)) 105 k (S.2.1 6 k)) 101 j = S.2.1 2 j
        rw [u2_ro _ _ _ (show 101 ≠ 105 by decide), u2_ro _ _ _ (show 101 ≠ 104 by decide), u2_ro _ _ _ (show 101 ≠ 103 by decide), u2_ro _ _ _ (show 101 ≠ 102 by decide)]
        refine cp1 (B := S.2.1 2) (fun j hj => ?_) rfl j hj
        exact h1 1 (by omega) (by omega) j hj
      · intro j hj
        show (u2 (u2 (u2 (u2 (u2 S1.2.1 101 k (S.2.1 2 k)) 102 k (S.2.1 3 k)) 103 k (S.2.1 4 k)) 104 k (S.2.1 5 k)) 105 k (S.2.1 6 k)) 102 j = S.2.1 3 j
        rw [u2_ro _ _ _ (show 102 ≠ 105 by decide), u2_ro _ _ _ (show 102 ≠ 104 by decide), u2_ro _ _ _ (show 102 ≠ 103 by decide)]
        refine cp1 (B := S.2.1 3) (fun j hj => ?_) rfl j hj
        rw [u2_ro _ _ _ (show 102 ≠ 101 by decide)]
        exact h1 2 (by omega) (by omega) j hj
      · intro j hj
        show (u2 (u2 (u2 (u2 (u2 S1.2.1 101 k (S.2.1 2 k)) 102 k (S.2.1 3 k)) 103 k (S.2.1 4 k)) 104 k (S.2.1 5 k)) 105 k (S.2.1 6 k)) 103 j = S.2.1 4 j
        rw [u2_ro _ _ _ (show 103 ≠ 105 by decide), u2_ro _ _ _ (show 103 ≠ 104 by decide)]
        refine cp1 (B := S.2.1 4) (fun j hj => ?_) rfl j hj
        rw [u2_ro _ _ _ (show 103 ≠ 102 by decide), u2_ro _ _ _ (show 103 ≠ 101 by decide)]
        exact h1 3 (by omega) (by omega) j hj
      · intro j hj
        show (u2 (u2 (u2 (u2 (u2 S1.2.1 101 k (S.2.1 2 k)) 102 k (S.2.1 3 k)) 103 k (S.2.1 4 k)) 104 k (S.2.1 5 k)) 105 k (S.2.1 6 k)) 104 j = S.2.1 5 j
        rw [u2_ro _ _ _ (show 104 ≠ 105 by decide)]
        refine cp1 (B := S.2.1 5) (fun j hj => ?_) rfl j hj
        rw [u2_ro _ _ _ (show 104 ≠ 103 by decide), u2_ro _ _ _ (show 104 ≠ 102 by decide), u2_ro _ _ _ (show 104 ≠ 101 by decide)]
        exact h1 4 (by omega) (by omega) j hj
      · intro j hj
        show (u2 (u2 (u2 (u2 (u2 S1.2.1 101 k (S.2.1 2 k)) 102 k (S.2.1 3 k)) 103 k (S.2.1 4 k)) 104 k (S.2.1 5 k)) 105 k (S.2.1 6 k)) 105 j = S.2.1 6 j
        refine cp1 (B := S.2.1 6) (fun j hj => ?_) rfl j hj
        rw [u2_ro _ _ _ (show 105 ≠ 104 by decide), u2_ro _ _ _ (show 105 ≠ 103 by decide), u2_ro _ _ _ (show 105 ≠ 102 by decide), u2_ro _ _ _ (show 105 ≠ 101 by decide)]
        exact h1 5 (by omega) (by omega) j hj
    · intro i hi1 hi2
      have hi3 : i = 6 ∨ i = 7 ∨ i = 8 ∨ i = 9 := by omega
      rcases hi3 with rfl | rfl | rfl | rfl
      · intro j hj
        show (u2 (u2 (u2 (u2 (u2 S1.2.1 101 k (S.2.1 2 k)) 102 k (S.2.1 3 k)) 103 k (S.2.1 4 k)) 104 k (S.2.1 5 k)) 105 k (S.2.1 6 k)) 106 j = S.2.1 7 j
        rw [u2_ro _ _ _ (show 106 ≠ 105 by decide), u2_ro _ _ _ (show 106 ≠ 104 by decide), u2_ro _ _ _ (show 106 ≠ 103 by decide), u2_ro _ _ _ (show 106 ≠ 102 by decide), u2_ro _ _ _ (show 106 ≠ 101 by decide)]
        exact h2 6 (by omega) (by omega) j hj
      · intro j hj
        show (u2 (u2 (u2 (u2 (u2 S1.2.1 101 k (S.2.1 2 k)) 102 k (S.2.1 3 k)) 103 k (S.2.1 4 k)) 104 k (S.2.1 5 k)) 105 k (S.2.1 6 k)) 107 j = S.2.1 8 j
        rw [u2_ro _ _ _ (show 107 ≠ 105 by decide), u2_ro _ _ _ (show 107 ≠ 104 by decide), u2_ro _ _ _ (show 107 ≠ 103 by decide), u2_ro _ _ _ (show 107 ≠ 102 by decide), u2_ro _ _ _ (show 107 ≠ 101 by decide)]
        exact h2 7 (by omega) (by omega) j hj
      · intro j hj
        show (u2 (u2 (u2 (u2 (u2 S1.2.1 101 k (S.2.1 2 k)) 102 k (S.2.1 3 k)) 103 k (S.2.1 4 k)) 104 k (S.2.1 5 k)) 105 k (S.2.1 6 k)) 108 j = S.2.1 9 j
        rw [u2_ro _ _ _ (show 108 ≠ 105 by decide), u2_ro _ _ _ (show 108 ≠ 104 by decide), u2_ro _ _ _ (show 108 ≠ 103 by decide), u2_ro _ _ _ (show 108 ≠ 102 by decide), u2_ro _ _ _ (show 108 ≠ 101 by decide)]
        exact h2 8 (by omega) (by omega) j hj
      · intro j hj
        show (u2 (u2 (u2 (u2 (u2 S1.2.1 101 k (S.2.1 2 k)) 102 k (S.2.1 3 k)) 103 k (S.2.1 4 k)) 104 k (S.2.1 5 k)) 105 k (S.2.1 6 k)) 109 j = S.2.1 10 j
        rw [u2_ro _ _ _ (show 109 ≠ 105 by decide), u2_ro _ _ _ (show 109 ≠ 104 by decide), u2_ro _ _ _ (show 109 ≠ 103 by decide), u2_ro _ _ _ (show 109 ≠ 102 by decide), u2_ro _ _ _ (show 109 ≠ 101 by decide)]
        exact h2 9 (by omega) (by omega) j hj
    · intro i hi1 hi2
      have hi3 : i = 10 ∨ i = 11 ∨ i = 12 := by omega
      rcases hi3 with rfl | rfl | rfl
      · intro j hj
        show (u2 (u2 (u2 (u2 (u2 S1.2.1 101 k (S.2.1 2 k)) 102 k (S.2.1 3 k)) 103 k (S.2.1 4 k)) 104 k (S.2.1 5 k)) 105 k (S.2.1 6 k)) 110 j = S.2.1 11 j
        rw [u2_ro _ _ _ (show 110 ≠ 105 by decide), u2_ro _ _ _ (show 110 ≠ 104 by decide), u2_ro _ _ _ (show 110 ≠ 103 by decide), u2_ro _ _ _ (show 110 ≠ 102 by decide), u2_ro _ _ _ (show 110 ≠ 101 by decide)]
        exact h3 10 (by omega) (by omega) j hj
      · intro j hj
        show (u2 (u2 (u2 (u2 (u2 S1.2.1 101 k (S.2.1 2 k)) 102 k (S.2.1 3 k)) 103 k (S.2.1 4 k)) 104 k (S.2.1 5 k)) 105 k (S.2.1 6 k)) 111 j = S.2.1 12 j
        rw [u2_ro _ _ _ (show 111 ≠ 105 by decide), u2_ro _ _ _ (show 111 ≠ 104 by decide), u2_ro _ _ _ (show 111 ≠ 103 by decide), u2_ro _ _ _ (show 111 ≠ 102 by decide), u2_ro _ _ _ (show 111 ≠ 101 by decide)]
        exact h3 11 (by omega) (by omega) j hj
      · intro j hj
        show (u2 (u2 (u2 (u2 (u2 S1.2.1 101 k (S.2.1 2 k)) 102 k (S.2.1 3 k)) 103 k (S.2.1 4 k)) 104 k (S.2.1 5 k)) 105 k (S.2.1 6 k)) 112 j = S.2.1 13 j
        rw [u2_ro _ _ _ (show 112 ≠ 105 by decide), u2_ro _ _ _ (show 112 ≠ 104 by decide), u2_ro _ _ _ (show 112 ≠ 103 by decide), u2_ro _ _ _ (show 112 ≠ 102 by decide), u2_ro _ _ _ (show 112 ≠ 101 by decide)]
        exact h3 12 (by omega) (by omega) j hj
    · intro j hj
      show (u2 (u2 (u2 (u2 (u2 S1.2.1 101 k (S.2.1 2 k)) 102 k (S.2.1 3 k)) 103 k (S.2.1 4 k)) 104 k (S.2.1 5 k)) 105 k (S.2.1 6 k)) 113 j = S.2.1 14 j
      rw [u2_ro _ _ _ (show 113 ≠ 105 by decide), u2_ro _ _ _ (show 113 ≠ 104 by decide), u2_ro _ _ _ (show 113 ≠ 103 by decide), u2_ro _ _ _ (show 113 ≠ 102 by decide), u2_ro _ _ _ (show 113 ≠ 101 by decide)]
      exact h4 j hj
    · exact h5
    · intro i hi1 hi2
      have hi3 : i = 1 ∨ i = 2 ∨ i = 3 ∨ i = 4 ∨ i = 5 ∨ i = 6 ∨ i = 7 ∨ i = 8 ∨ i = 9 ∨ i = 10 ∨ i = 11 ∨ i = 12 ∨ i = 13 := by omega
      rcases hi3 with rfl | rfl | rfl | rfl | rfl | rfl | rfl | rfl | rfl | rfl | rfl | rfl | rfl
      · show (u2 (u2 (u2 (u2 (u2 S1.2.1 101 k (S.2.1 2 k)) 102 k (S.2.1 3 k)) 103 k (S.2.1 4 k)) 104 k (S.2.1 5 k)) 105 k (S.2.1 6 k)) 2 = S.2.1 2
        rw [u2_ro _ _ _ (show 2 ≠ 105 by decide), u2_ro _ _ _ (show 2 ≠ 104 by decide), u2_ro _ _ _ (show 2 ≠ 103 by decide), u2_ro _ _ _ (show 2 ≠ 102 by decide), u2_ro _ _ _ (show 2 ≠ 101 by decide)]; exact h6 1 (by omega) (by omega)
      · show (u2 (u2 (u2 (u2 (u2 S1.2.1 101 k (S.2.1 2 k)) 102 k (S.2.1 3 k)) 103 k (S.2.1 4 k)) 104 k (S.2.1 5 k)) 105 k (S.2.1 6 k)) 3 = S.2.1 3
        rw [u2_ro _ _ _ (show 3 ≠ 105 by decide), u2_ro _ _ _ (show 3 ≠ 104 by decide), u2_ro _ _ _ (show 3 ≠ 103 by decide), u2_ro _ _ _ (show 3 ≠ 102 by decide), u2_ro _ _ _ (show 3 ≠ 101 by decide)]; exact h6 2 (by omega) (by omega)
      · show (u2 (u2 (u2 (u2 (u2 S1.2.1 101 k (S.2.1 2 k)) 102 k (S.2.1 3 k)) 103 k (S.2.1 4 k)) 104 k (S.2.1 5 k)) 105 k (S.2.1 6 k)) 4 = S.2.1 4
        rw [u2_ro _ _ _ (show 4 ≠ 105 by decide), u2_ro _ _ _ (show 4 ≠ 104 by decide), u2_ro _ _ _ (show 4 ≠ 103 by decide), u2_ro _ _ _ (show 4 ≠ 102 by decide), u2_ro _ _ _ (show 4 ≠ 101 by decide)]; exact h6 3 (by omega) (by omega)
      · show (u2 (u2 (u2 (u2 (u2 S1.2.1 101 k (S.2.1 2 k)) 102 k (S.2.1 3 k)) 103 k (S.2.1 4 k)) 104 k (S.2.1 5 k)) 105 k (S.2.1 6 k)) 5 = S.2.1 5
        rw [u2_ro _ _ _ (show 5 ≠ 105 by decide), u2_ro _ _ _ (show 5 ≠ 104 by decide), u2_ro _ _ _ (show 5 ≠ 103 by decide), u2_ro _ _ _ (show 5 ≠ 102 by decide), u2_ro _ _ _ (show 5 ≠ 101 by decide)]; exact h6 4 (by omega) (by omega)
      · show (u2 (u2 (u2 (u2 (u2 S1.2.1 101 k (S.2.1 2 k)) 102 k (S.2.1 3 k)) 103 k (S.2.1 4 k)) 104 k (S.2.1 5 k)) 105 k (S.2.1 6 k)) 6 = S.2.1 6
        rw [u2_ro _ _ _ (show 6 ≠ 105 by decide), u2_ro _ _ _ (show 6 ≠ 104 by decide), u2_ro _ _ _ (show 6 ≠ 103 by decide), u2_ro _ _ _ (show 6 ≠ 102 by decide), u2_ro _ _ _ (show 6 ≠ 101 by decide)]; exact h6 5 (by omega) (by omega)
      · show (u2 (u2 (u2 (u2 (u2 S1.2.1 101 k (S.2.1 2 k)) 102 k (S.2.1 3 k)) 103 k (S.2.1 4 k)) 104 k (S.2.1 5 k)) 105 k (S.2.1 6 k)) 7 = S.2.1 7
        rw [u2_ro _ _ _ (show 7 ≠ 105 by decide), u2_ro _ _ _ (show 7 ≠ 104 by decide), u2_ro _ _ _ (show 7 ≠ 103 by decide), u2_ro _ _ _ (show 7 ≠ 102 by decide), u2_ro _ _ _ (show 7 ≠ 101 by decide)]; exact h6 6 (by omega) (by omega)
      · show (u2 (u2 (u2 (u2 (u2 S1.2.1 101 k (S.2.1 2 k)) 102 k (S.2.1 3 k)) 103 k (S.2.1 4 k)) 104 k (S.2.1 5 k)) 105 k (S.2.1 6 k)) 8 = S.2.1 8
        rw [u2_ro _ _ _ (show 8 ≠ 105 by decide), u2_ro _ _ _ (show 8 ≠ 104 by decide), u2_ro _ _ _ (show 8 ≠ 103 by decide), u2_ro _ _ _ (show 8 ≠ 102 by decide), u2_ro _ _ _ (show 8 ≠ 101 by decide)]; exact h6 7 (by omega) (by omega)
      · show (u2 (u2 (u2 (u2 (u2 S1.2.1 101 k (S.2.1 2 k)) 102 k (S.2.1 3 k)) 103 k (S.2.1 4 k)) 104 k (S.2.1 5 k)) 105 k (S.2.1 6 k)) 9 = S.2.1 9
        rw [u2_ro _ _ _ (show 9 ≠ 105 by decide), u2_ro _ _ _ (show 9 ≠ 104 by decide), u2_ro _ _ _ (show 9 ≠ 103 by decide), u2_ro _ _ _ (show 9 ≠ 102 by decide), u2_ro _ _ _ (show 9 ≠ 101 by decide)]; exact h6 8 (by omega) (by omega)
      · show (u2 (u2 (u2 (u2 (u2 S1.2.1 101 k (S.2.1 2 k)) 102 k (S.2.1 3 k)) 103 k (S.2.1 4 k)) 104 k (S.2.1 5 k)) 105 k (S.2.1 6 k)) 10 = S.2.1 10
        rw [u2_ro _ _ _ (show 10 ≠ 105 by decide), u2_ro _ _ _ (show 10 ≠ 104 by decide), u2_ro _ _ _ (show 10 ≠ 103 by decide), u2_ro _ _ _ (show 10 ≠ 102 by decide), u2_ro _ _ _ (show 10 ≠ 101 by decide)]; exact h6 9 (by omega) (by omega)
      · show (u2 (u2 (u2 (u2 (u2 S1.2.1 101 k (S.2.1 2 k)) 102 k (S.2.1 3 k)) 103 k (S.2.1 4 k)) 104 k (S.2.1 5 k)) 105 k (S.2.1 6 k)) 11 = S.2.1 11
        rw [u2_ro _ _ _ (show 11 ≠ 105 by decide), u2_ro _ _ _ (show 11 ≠ 104 by decide), u2_ro _ _ _ (show 11 ≠ 103 by decide), u2_ro _ _ _ (show 11 ≠ 102 by decide), u2_ro _ _ _ (show 11 ≠ 101 by decide)]; exact h6 10 (by omega) (by omega)
      · show (u2 (u2 (u2 (u2 (u2 S1.2.1 101 k (S.2.1 2 k)) 102 k (S.2.1 3 k)) 103 k (S.2.1 4 k)) 104 k (S.2.1 5 k)) 105 k (S.2.1 6 k)) 12 = S.2.1 12
        rw [u2_ro _ _ _ (show 12 ≠ 105 by decide), u2_ro _ _ _ (show 12 ≠ 104 by decide), u2_ro _ _ _ (show 12 ≠ 103 by decide), u2_ro _ _ _ (show 12 ≠ 102 by decide), u2_ro _ _ _ (show 12 ≠ 101 by decide)]; exact h6 11 (by omega) (by omega)
      · show (u2 (u2 (u2 (u2 (u2 S1.2.1 101 k (S.2.1 2 k)) 102 k (S.2.1 3 k)) 103 k (S.2.1 4 k)) 104 k (S.2.1 5 k)) 105 k (S.2.1 6 k)) 13 = S.2.1 13
        rw [u2_ro _ _ _ (show 13 ≠ 105 by decide), u2_ro _ _ _ (show 13 ≠ 104 by decide), u2_ro _ _ _ (show 13 ≠ 103 by decide), u2_ro _ _ _ (show 13 ≠ 102 by decide), u2_ro _ _ _ (show 13 ≠ 101 by decide)]; exact h6 12 (by omega) (by omega)
      · show (u2 (u2 (u2 (u2 (u2 S1.2.1 101 k (S.2.1 2 k)) 102 k (S.2.1 3 k)) 103 k (S.2.1 4 k)) 104 k (S.2.1 5 k)) 105 k (S.2.1 6 k)) 14 = S.2.1 14
        rw [u2_ro _ _ _ (show 14 ≠ 105 by decide), u2_ro _ _ _ (show 14 ≠ 104 by decide), u2_ro _ _ _ (show 14 ≠ 103 by decide), u2_ro _ _ _ (show 14 ≠ 102 by decide), u2_ro _ _ _ (show 14 ≠ 101 by decide)]; exact h6 13 (by omega) (by omega)
    · exact h7
theorem copy100_1 (x : XT) (S : ST) (hq : ∀ l, l < 6 → qk x (S.2.2.2 15 l) = true) (ho : ∀ g, g < 10 → inb (S.2.1 6 g) 2 = true) : ∃ S2, gfX7_copyFrom_100_1 x S = some ((), S2) ∧ CI S S2 100 1 10 5 6 3 6 := by
  unfold gfX7_copyFrom_100_1 bfX7_copyFrom_100_1_0
  rw [show (0 : Int32) = iN 0 from rfl]
  refine cpl42_100_1 x S hq ho 10 0 20000 _ (by omega) (by omega) ⟨⟨?_, ?_, ?_, ?_, ?_⟩, fun i _ _ j hj => by omega, fun i _ _ j hj => by omega, fun i _ _ j hj => by omega, fun j hj => by omega, fun j hj => by omega, fun _ _ _ => rfl, rfl⟩
  · show (u2 (u2 (u2 (u2 (u2 S.1 100 0 (S.1 1 0)) 100 6 (S.1 1 6)) 100 11 (S.1 1 11)) 100 16 (S.1 1 16)) 100 18 (S.1 1 18)) 100 0 = _
    rw [u2_k _ _ _ (show 0 ≠ 18 by decide), u2_k _ _ _ (show 0 ≠ 16 by decide), u2_k _ _ _ (show 0 ≠ 11 by decide), u2_k _ _ _ (show 0 ≠ 6 by decide), u2_s]
  · show (u2 (u2 (u2 (u2 (u2 S.1 100 0 (S.1 1 0)) 100 6 (S.1 1 6)) 100 11 (S.1 1 11)) 100 16 (S.1 1 16)) 100 18 (S.1 1 18)) 100 6 = _
    rw [u2_k _ _ _ (show 6 ≠ 18 by decide), u2_k _ _ _ (show 6 ≠ 16 by decide), u2_k _ _ _ (show 6 ≠ 11 by decide), u2_s]
  · show (u2 (u2 (u2 (u2 (u2 S.1 100 0 (S.1 1 0)) 100 6 (S.1 1 6)) 100 11 (S.1 1 11)) 100 16 (S.1 1 16)) 100 18 (S.1 1 18)) 100 11 = _
    rw [u2_k _ _ _ (show 11 ≠ 18 by decide), u2_k _ _ _ (show 11 ≠ 16 by decide), u2_s]
  · show (u2 (u2 (u2 (u2 (u2 S.1 100 0 (S.1 1 0)) 100 6 (S.1 1 6)) 100 11 (S.1 1 11)) 100 16 (S.1 1 16)) 100 18 (S.1 1 18)) 100 16 = _
    rw [u2_k _ _ _ (show 16 ≠ 18 by decide), u2_s]
  · show (u2 (u2 (u2 (u2 (u2 S.1 100 0 (S.1 1 0)) 100 6 (S.1 1 6)) 100 11 (S.1 1 11)) 100 16 (S.1 1 16)) 100 18 (S.1 1 18)) 100 18 = _
    rw [u2_s]
theorem cpl252_115_1 (x : XT) (S : ST) (hq : ∀ l, l < 6 → qk x (S.2.2.2 15 l) = true) (ho : ∀ g, g < 10 → inb (S.2.1 6 g) 2 = true) : ∀ (m k fuel : Nat) (S1 : ST), k + m = 6 → m < fuel → CI S S1 115 1 10 5 6 3 k → ∃ S2, lfX7_copyFrom_115_1_252 x fuel S1 (iN k) = some ((), S2) ∧ CI S S2 115 1 10 5 6 3 6
  | 0, k, fuel, S1, hk, hf, h => by
    obtain ⟨fuel, rfl⟩ : ∃ z, fuel = z + 1 := ⟨fuel - 1, by omega⟩
    have : k = 6 := by omega
    subst this
    rw [lfX7_copyFrom_115_1_252, bfX7_copyFrom_115_1_252, if_pos (show (6 : Int32) ≤ iN 6 by decide)]
    exact ⟨S1, rfl, h⟩
  | m + 1, k, fuel, S1, hk, hf, h => by
    obtain ⟨fuel, rfl⟩ : ∃ z, fuel = z + 1 := ⟨fuel - 1, by omega⟩
    obtain ⟨h0, h1, h2, h3, h4, h5, h6, h7⟩ := h
    rw [lfX7_copyFrom_115_1_252, bfX7_copyFrom_115_1_252, if_neg (show ¬ (6 : Int32) ≤ iN k from fun hh => by have := (iN_le (m := 6) (by omega) (by omega)).mp hh; omega), inb_t (show k < 6 by omega) (by omega), iN_nat (by omega), iN_succ]
    simp only [cond_true]
    have e7 : S1.2.2.2 15 = S.2.2.2 15 := h7
    rw [e7, hq k (by omega), cond_true]
    refine cpl252_115_1 x S hq ho m (k + 1) fuel (S1.1, S1.2.1, S1.2.2.1, u2 S1.2.2.2 129 k (S.2.2.2 15 k)) (by omega) (by omega) ⟨h0, ?_, ?_, ?_, ?_, ?_, ?_, ?_⟩
    · exact h1
    · exact h2
    · exact h3
    · exact h4
    · exact cp1 (A := S1.2.2.2) (B := S.2.2.2 15) h5 rfl
    · exact h6
    · show u2 S1.2.2.2 129 k (S.2.2.2 15 k) 15 = _
      rw [u2_ro _ _ _ (show 15 ≠ 129 by decide)]; exact h7
theorem cpl227_115_1 (x : XT) (S : ST) (hq : ∀ l, l < 6 → qk x (S.2.2.2 15 l) = true) (ho : ∀ g, g < 10 → inb (S.2.1 6 g) 2 = true) : ∀ (m k fuel : Nat) (S1 : ST), k + m = 3 → m < fuel → CI S S1 115 1 10 5 6 k 0 → ∃ S2, lfX7_copyFrom_115_1_227 x fuel S1 (iN k) = some ((), S2) ∧ CI S S2 115 1 10 5 6 3 6
  | 0, k, fuel, S1, hk, hf, h => by
    obtain ⟨fuel, rfl⟩ : ∃ z, fuel = z + 1 := ⟨fuel - 1, by omega⟩
    have : k = 3 := by omega
    subst this
    rw [lfX7_copyFrom_115_1_227, bfX7_copyFrom_115_1_227, if_pos (show (3 : Int32) ≤ iN 3 by decide)]
    rw [show (0 : Int32) = iN 0 from rfl]
    exact cpl252_115_1 x S hq ho 6 0 20000 S1 (by omega) (by omega) h
  | m + 1, k, fuel, S1, hk, hf, h => by
    obtain ⟨fuel, rfl⟩ : ∃ z, fuel = z + 1 := ⟨fuel - 1, by omega⟩
    obtain ⟨h0, h1, h2, h3, h4, h5, h6, h7⟩ := h
    rw [lfX7_copyFrom_115_1_227, bfX7_copyFrom_115_1_227, if_neg (show ¬ (3 : Int32) ≤ iN k from fun hh => by have := (iN_le (m := 3) (by omega) (by omega)).mp hh; omega), inb_t (show k < 3 by omega) (by omega), iN_nat (by omega), iN_succ]
    simp only [cond_true]
    have e13 : S1.2.1 14 = S.2.1 14 := h6 13 (by omega) (by omega)
    rw [e13]
    refine cpl227_115_1 x S hq ho m (k + 1) fuel (S1.1, (u2 S1.2.1 128 k (S.2.1 14 k)), S1.2.2.1, S1.2.2.2) (by omega) (by omega) ⟨h0, ?_, ?_, ?_, ?_, ?_, ?_, ?_⟩
    · intro i hi1 hi2
      have hi3 : i = 1 ∨ i = 2 ∨ i = 3 ∨ i = 4 ∨ i = 5 := by omega
      rcases hi3 with rfl | rfl | rfl | rfl | rfl
      · intro j hj
        show (u2 S1.2.1 128 k (S.2.1 14 k)) 116 j = S.2.1 2 j
        rw [u2_ro _ _ _ (show 116 ≠ 128 by decide)]
        exact h1 1 (by omega) (by omega) j hj
      · intro j hj
        show (u2 S1.2.1 128 k (S.2.1 14 k)) 117 j = S.2.1 3 j
        rw [u2_ro _ _ _ (show 117 ≠ 128 by decide)]
        exact h1 2 (by omega) (by omega) j hj
      · intro j hj
        show (u2 S1.2.1 128 k (S.2.1 14 k)) 118 j = S.2.1 4 j
        rw [u2_ro _ _ _ (show 118 ≠ 128 by decide)]
        exact h1 3 (by omega) (by omega) j hj
      · intro j hj
        show (u2 S1.2.1 128 k (S.2.1 14 k)) 119 j = S.2.1 5 j
        rw [u2_ro _ _ _ (show 119 ≠ 128 by decide)]
        exact h1 4 (by omega) (by omega) j hj
      · intro j hj
        show (u2 S1.2.1 128 k (S.2.1 14 k)) 120 j = S.2.1 6 j
        rw [u2_ro _ _ _ (show 120 ≠ 128 by decide)]
        exact h1 5 (by omega) (by omega) j hj
    · intro i hi1 hi2
      have hi3 : i = 6 ∨ i = 7 ∨ i = 8 ∨ i = 9 := by omega
      rcases hi3 with rfl | rfl | rfl | rfl
      · intro j hj
        show (u2 S1.2.1 128 k (S.2.1 14 k)) 121 j = S.2.1 7 j
        rw [u2_ro _ _ _ (show 121 ≠ 128 by decide)]
        exact h2 6 (by omega) (by omega) j hj
      · intro j hj
        show (u2 S1.2.1 128 k (S.2.1 14 k)) 122 j = S.2.1 8 j
        rw [u2_ro _ _ _ (show 122 ≠ 128 by decide)]
        exact h2 7 (by omega) (by omega) j hj
      · intro j hj
        show (u2 S1.2.1 128 k (S.2.1 14 k)) 123 j = S.2.1 9 j
        rw [u2_ro _ _ _ (show 123 ≠ 128 by decide)]
        exact h2 8 (by omega) (by omega) j hj
      · intro j hj
        show (u2 S1.2.1 128 k (S.2.1 14 k)) 124 j = S.2.1 10 j
        rw [u2_ro _ _ _ (show 124 ≠ 128 by decide)]
        exact h2 9 (by omega) (by omega) j hj
    · intro i hi1 hi2
      have hi3 : i = 10 ∨ i = 11 ∨ i = 12 := by omega
      rcases hi3 with rfl | rfl | rfl
      · intro j hj
        show (u2 S1.2.1 128 k (S.2.1 14 k)) 125 j = S.2.1 11 j
        rw [u2_ro _ _ _ (show 125 ≠ 128 by decide)]
        exact h3 10 (by omega) (by omega) j hj
      · intro j hj
        show (u2 S1.2.1 128 k (S.2.1 14 k)) 126 j = S.2.1 12 j
        rw [u2_ro _ _ _ (show 126 ≠ 128 by decide)]
        exact h3 11 (by omega) (by omega) j hj
      · intro j hj
        show (u2 S1.2.1 128 k (S.2.1 14 k)) 127 j = S.2.1 13 j
        rw [u2_ro _ _ _ (show 127 ≠ 128 by decide)]
        exact h3 12 (by omega) (by omega) j hj
    · exact cp1 (A := S1.2.1) (B := S.2.1 14) h4 rfl
    · exact h5
    · intro i hi1 hi2
      have hi3 : i = 1 ∨ i = 2 ∨ i = 3 ∨ i = 4 ∨ i = 5 ∨ i = 6 ∨ i = 7 ∨ i = 8 ∨ i = 9 ∨ i = 10 ∨ i = 11 ∨ i = 12 ∨ i = 13 := by omega
      rcases hi3 with rfl | rfl | rfl | rfl | rfl | rfl | rfl | rfl | rfl | rfl | rfl | rfl | rfl
      · show (u2 S1.2.1 128 k (S.2.1 14 k)) 2 = S.2.1 2
        rw [u2_ro _ _ _ (show 2 ≠ 128 by decide)]; exact h6 1 (by omega) (by omega)
      · show (u2 S1.2.1 128 k (S.2.1 14 k)) 3 = S.2.1 3
        rw [u2_ro _ _ _ (show 3 ≠ 128 by decide)]; exact h6 2 (by omega) (by omega)
      · show (u2 S1.2.1 128 k (S.2.1 14 k)) 4 = S.2.1 4
        rw [u2_ro _ _ _ (show 4 ≠ 128 by decide)]; exact h6 3 (by omega) (by omega)
      · show (u2 S1.2.1 128 k (S.2.1 14 k)) 5 = S.2.1 5
        rw [u2_ro _ _ _ (show 5 ≠ 128 by decide)]; exact h6 4 (by omega) (by omega)
      · show (u2 S1.2.1 128 k (S.2.1 14 k)) 6 = S.2.1 6
        rw [u2_ro _ _ _ (show 6 ≠ 128 by decide)]; exact h6 5 (by omega) (by omega)
      · show (u2 S1.2.1 128 k (S.2.1 14 k)) 7 = S.2.1 7
        rw [u2_ro _ _ _ (show 7 ≠ 128 by decide)]; exact h6 6 (by omega) (by omega)
      · show (u2 S1.2.1 128 k (S.2.1 14 k)) 8 = S.2.1 8
        rw [u2_ro _ _ _ (show 8 ≠ 128 by decide)]; exact h6 7 (by omega) (by omega)
      · show (u2 S1.2.1 128 k (S.2.1 14 k)) 9 = S.2.1 9
        rw [u2_ro _ _ _ (show 9 ≠ 128 by decide)]; exact h6 8 (by omega) (by omega)
      · show (u2 S1.2.1 128 k (S.2.1 14 k)) 10 = S.2.1 10
        rw [u2_ro _ _ _ (show 10 ≠ 128 by decide)]; exact h6 9 (by omega) (by omega)
      · show (u2 S1.2.1 128 k (S.2.1 14 k)) 11 = S.2.1 11
        rw [u2_ro _ _ _ (show 11 ≠ 128 by decide)]; exact h6 10 (by omega) (by omega)
      · show (u2 S1.2.1 128 k (S.2.1 14 k)) 12 = S.2.1 12
        rw [u2_ro _ _ _ (show 12 ≠ 128 by decide)]; exact h6 11 (by omega) (by omega)
      · show (u2 S1.2.1 128 k (S.2.1 14 k)) 13 = S.2.1 13
        rw [u2_ro _ _ _ (show 13 ≠ 128 by decide)]; exact h6 12 (by omega) (by omega)
      · show (u2 S1.2.1 128 k (S.2.1 14 k)) 14 = S.2.1 14
        rw [u2_ro _ _ _ (show 14 ≠ 128 by decide)]; exact h6 13 (by omega) (by omega)
    · exact h7
theorem cpl177_115_1 (x : XT) (S : ST) (hq : ∀ l, l < 6 → qk x (S.2.2.2 15 l) = true) (ho : ∀ g, g < 10 → inb (S.2.1 6 g) 2 = true) : ∀ (m k fuel : Nat) (S1 : ST), k + m = 6 → m < fuel → CI S S1 115 1 10 5 k 0 0 → ∃ S2, lfX7_copyFrom_115_1_177 x fuel S1 (iN k) = some ((), S2) ∧ CI S S2 115 1 10 5 6 3 6
  | 0, k, fuel, S1, hk, hf, h => by
    obtain ⟨fuel, rfl⟩ : ∃ z, fuel = z + 1 := ⟨fuel - 1, by omega⟩
    have : k = 6 := by omega
    subst this
    rw [lfX7_copyFrom_115_1_177, bfX7_copyFrom_115_1_177, if_pos (show (6 : Int32) ≤ iN 6 by decide)]
    rw [show (0 : Int32) = iN 0 from rfl]
    exact cpl227_115_1 x S hq ho 3 0 20000 S1 (by omega) (by omega) h
  | m + 1, k, fuel, S1, hk, hf, h => by
    obtain ⟨fuel, rfl⟩ : ∃ z, fuel = z + 1 := ⟨fuel - 1, by omega⟩
    obtain ⟨h0, h1, h2, h3, h4, h5, h6, h7⟩ := h
    rw [lfX7_copyFrom_115_1_177, bfX7_copyFrom_115_1_177, if_neg (show ¬ (6 : Int32) ≤ iN k from fun hh => by have := (iN_le (m := 6) (by omega) (by omega)).mp hh; omega), inb_t (show k < 6 by omega) (by omega), iN_nat (by omega), iN_succ]
    simp only [cond_true]
    have e10 : S1.2.1 11 = S.2.1 11 := h6 10 (by omega) (by omega)
    have e11 : S1.2.1 12 = S.2.1 12 := h6 11 (by omega) (by omega)
    have e12 : S1.2.1 13 = S.2.1 13 := h6 12 (by omega) (by omega)
    rw [e10, e11, e12]
    refine cpl177_115_1 x S hq ho m (k + 1) fuel (S1.1, (u2 (u2 (u2 S1.2.1 125 k (S.2.1 11 k)) 126 k (S.2.1 12 k)) 127 k (S.2.1 13 k)), S1.2.2.1, S1.2.2.2) (by omega) (by omega) ⟨h0, ?_, ?_, ?_, ?_, ?_, ?_, ?_⟩
    · intro i hi1 hi2
      have hi3 : i = 1 ∨ i = 2 ∨ i = 3 ∨ i = 4 ∨ i = 5 := by omega
      rcases hi3 with rfl | rfl | rfl | rfl | rfl
      · intro j hj
        show (u2 (u2 (u2 S1.2.1 125 k (S.2.1 11 k)) 126 k (S.2.1 12 k)) 127 k (S.2.1 13 k)) 116 j = S.2.1 2 j
        rw [u2_ro _ _ _ (show 116 ≠ 127 by decide), u2_ro _ _ _ (show 116 ≠ 126 by decide), u2_ro _ _ _ (show 116 ≠ 125 by decide)]
        exact h1 1 (by omega) (by omega) j hj
      · intro j hj
        show (u2 (u2 (u2 S1.2.1 125 k (S.2.1 11 k)) 126 k (S.2.1 12 k)) 127 k (S.2.1 13 k)) 117 j = S.2.1 3 j
        rw [u2_ro _ _ _ (show 117 ≠ 127 by decide), u2_ro _ _ _ (show 117 ≠ 126 by decide), u2_ro _ _ _ (show 117 ≠ 125 by decide)]
        exact h1 2 (by omega) (by omega) j hj
      · intro j hj
        show (u2 (u2 (u2 S1.2.1 125 k (S.2.1 11 k)) 126 k (S.2.1 12 k)) 127 k (S.2.1 13 k)) 118 j = S.2.1 4 j
        rw [u2_ro _ _ _ (show 118 ≠ 127 by decide), u2_ro _ _ _ (show 118 ≠ 126 by decide), u2_ro _ _ _ (show 118 ≠ 125 by decide)]
        exact h1 3 (by omega) (by omega) j hj
      · intro j hj
        show (u2 (u2 (u2 S1.2.1 125 k (S.2.1 11 k)) 126 k (S.2.1 12 k)) 127 k (S.2.1 13 k)) 119 j = S.2.1 5 j
        rw [u2_ro _ _ _ (show 119 ≠ 127 by decide), u2_ro _ _ _ (show 119 ≠ 126 by decide), u2_ro _ _ _ (show 119 ≠ 125 by decide)]
        exact h1 4 (by omega) (by omega) j hj
      · intro j hj
        show (u2 (u2 (u2 S1.2.1 125 k (S.2.1 11 k)) 126 k (S.2.1 12 k)) 127 k (S.2.1 13 k)) 120 j = S.2.1 6 j
        rw [u2_ro _ _ _ (show 120 ≠ 127 by decide), u2_ro _ _ _ (show 120 ≠ 126 by decide), u2_ro _ _ _ (show 120 ≠ 125 by decide)]
        exact h1 5 (by omega) (by omega) j hj
    · intro i hi1 hi2
      have hi3 : i = 6 ∨ i = 7 ∨ i = 8 ∨ i = 9 := by omega
      rcases hi3 with rfl | rfl | rfl | rfl
      · intro j hj
        show (u2 (u2 (u2 S1.2.1 125 k (S.2.1 11 k)) 126 k (S.2.1 12 k)) 127 k (S.2.1 13 k)) 121 j = S.2.1 7 j
        rw [u2_ro _ _ _ (show 121 ≠ 127 by decide), u2_ro _ _ _ (show 121 ≠ 126 by decide), u2_ro _ _ _ (show 121 ≠ 125 by decide)]
        exact h2 6 (by omega) (by omega) j hj
      · intro j hj
        show (u2 (u2 (u2 S1.2.1 125 k (S.2.1 11 k)) 126 k (S.2.1 12 k)) 127 k (S.2.1 13 k)) 122 j = S.2.1 8 j
        rw [u2_ro _ _ _ (show 122 ≠ 127 by decide), u2_ro _ _ _ (show 122 ≠ 126 by decide), u2_ro _ _ _ (show 122 ≠ 125 by decide)]
        exact h2 7 (by omega) (by omega) j hj
      · intro j hj
        show (u2 (u2 (u2 S1.2.1 125 k (S.2.1 11 k)) 126 k (S.2.1 12 k)) 127 k (S.2.1 13 k)) 123 j = S.2.1 9 j
        rw [u2_ro _ _ _ (show 123 ≠ 127 by decide), u2_ro _ _ _ (show 123 ≠ 126 by decide), u2_ro _ _ _ (show 123 ≠ 125 by decide)]
        exact h2 8 (by omega) (by omega) j hj
      · intro j hj
        show (u2 (u2 (u2 S1.2.1 125 k (S.2.1 11 k)) 126 k (S.2.1 12 k)) 127 k (S.2.1 13 k)) 124 j = S.2.1 10 j
        rw [u2_ro _ _ _ (show 124 ≠ 127 by decide), u2_ro _ _ _ (show 124 ≠ 126 by decide), u2_ro _ _ _ (show 124 ≠ 125 by decide)]
        exact h2 9 (by omega) (by omega) j hj
    · intro i hi1 hi2
      have hi3 : i = 10 ∨ i = 11 ∨ i = 12 := by omega
      rcases hi3 with rfl | rfl | rfl
      · intro j hj
        show (u2 (u2 (u2 S1.2.1 125 k (S.2.1 11 k)) 126 k (S.2.1 12 k)) 127 k (S.2.1 13 k)) 125 j = S.2.1 11 j
        rw [u2_ro _ _ _ (show 125 ≠ 127 by decide), u2_ro _ _ _ (show 125 ≠ 126 by decide)]
        refine cp1 (B := S.2.1 11) (fun j hj => ?_) rfl j hj
        exact h3 10 (by omega) (by omega) j hj
      · intro j hj
        show (u2 (u2 (u2 S1.2.1 125 k (S.2.1 11 k)) 126 k (S.2.1 12 k)) 127 k (S.2.1 13 k)) 126 j = S.2.1 12 j
        rw [u2_ro _ _ _ (show 126 ≠ 127 by decide)]
        refine cp1 (B := S.2.1 12) (fun j hj => ?_) rfl j hj
        rw [u2_ro _ _ _ (show 126 ≠ 125 by decide)]
        exact h3 11 (by omega) (by omega) j hj
      · intro j hj
        show (u2 (u2 (u2 S1.2.1 125 k (S.2.1 11 k)) 126 k (S.2.1 12 k)) 127 k (S.2.1 13 k)) 127 j = S.2.1 13 j
        refine cp1 (B := S.2.1 13) (fun j hj => ?_) rfl j hj
        rw [u2_ro _ _ _ (show 127 ≠ 126 by decide), u2_ro _ _ _ (show 127 ≠ 125 by decide)]
        exact h3 12 (by omega) (by omega) j hj
    · intro j hj
      show (u2 (u2 (u2 S1.2.1 125 k (S.2.1 11 k)) 126 k (S.2.1 12 k)) 127 k (S.2.1 13 k)) 128 j = S.2.1 14 j
      rw [u2_ro _ _ _ (show 128 ≠ 127 by decide), u2_ro _ _ _ (show 128 ≠ 126 by decide), u2_ro _ _ _ (show 128 ≠ 125 by decide)]
      exact h4 j hj
    · exact h5
    · intro i hi1 hi2
      have hi3 : i = 1 ∨ i = 2 ∨ i = 3 ∨ i = 4 ∨ i = 5 ∨ i = 6 ∨ i = 7 ∨ i = 8 ∨ i = 9 ∨ i = 10 ∨ i = 11 ∨ i = 12 ∨ i = 13 := by omega
      rcases hi3 with rfl | rfl | rfl | rfl | rfl | rfl | rfl | rfl | rfl | rfl | rfl | rfl | rfl
      · show (u2 (u2 (u2 S1.2.1 125 k (S.2.1 11 k)) 126 k (S.2.1 12 k)) 127 k (S.2.1 13 k)) 2 = S.2.1 2
        rw [u2_ro _ _ _ (show 2 ≠ 127 by decide), u2_ro _ _ _ (show 2 ≠ 126 by decide), u2_ro _ _ _ (show 2 ≠ 125 by decide)]; exact h6 1 (by omega) (by omega)
      · show (u2 (u2 (u2 S1.2.1 125 k (S.2.1 11 k)) 126 k (S.2.1 12 k)) 127 k (S.2.1 13 k)) 3 = S.2.1 3
        rw [u2_ro _ _ _ (show 3 ≠ 127 by decide), u2_ro _ _ _ (show 3 ≠ 126 by decide), u2_ro _ _ _ (show 3 ≠ 125 by decide)]; exact h6 2 (by omega) (by omega)
      · show (u2 (u2 (u2 S1.2.1 125 k (S.2.1 11 k)) 126 k (S.2.1 12 k)) 127 k (S.2.1 13 k)) 4 = S.2.1 4
        rw [u2_ro _ _ _ (show 4 ≠ 127 by decide), u2_ro _ _ _ (show 4 ≠ 126 by decide), u2_ro _ _ _ (show 4 ≠ 125 by decide)]; exact h6 3 (by omega) (by omega)
      · show (u2 (u2 (u2 S1.2.1 125 k (S.2.1 11 k)) 126 k (S.2.1 12 k)) 127 k (S.2.1 13 k)) 5 = S.2.1 5
        rw [u2_ro _ _ _ (show 5 ≠ 127 by decide), u2_ro _ _ _ (show 5 ≠ 126 by decide), u2_ro _ _ _ (show 5 ≠ 125 by decide)]; exact h6 4 (by omega) (by omega)
      · show (u2 (u2 (u2 S1.2.1 125 k (S.2.1 11 k)) 126 k (S.2.1 12 k)) 127 k (S.2.1 13 k)) 6 = S.2.1 6
        rw [u2_ro _ _ _ (show 6 ≠ 127 by decide), u2_ro _ _ _ (show 6 ≠ 126 by decide), u2_ro _ _ _ (show 6 ≠ 125 by decide)]; exact h6 5 (by omega) (by omega)
      · show (u2 (u2 (u2 S1.2.1 125 k (S.2.1 11 k)) 126 k (S.2.1 12 k)) 127 k (S.2.1 13 k)) 7 = S.2.1 7
        rw [u2_ro _ _ _ (show 7 ≠ 127 by decide), u2_ro _ _ _ (show 7 ≠ 126 by decide), u2_ro _ _ _ (show 7 ≠ 125 by decide)]; exact h6 6 (by omega) (by omega)
      · show (u2 (u2 (u2 S1.2.1 125 k (S.2.1 11 k)) 126 k (S.2.1 12 k)) 127 k (S.2.1 13 k)) 8 = S.2.1 8
        rw [u2_ro _ _ _ (show 8 ≠ 127 by decide), u2_ro _ _ _ (show 8 ≠ 126 by decide), u2_ro _ _ _ (show 8 ≠ 125 by decide)]; exact h6 7 (by omega) (by omega)
      · show (u2 (u2 (u2 S1.2.1 125 k (S.2.1 11 k)) 126 k (S.2.1 12 k)) 127 k (S.2.1 13 k)) 9 = S.2.1 9
        rw [u2_ro _ _ _ (show 9 ≠ 127 by decide), u2_ro _ _ _ (show 9 ≠ 126 by decide), u2_ro _ _ _ (show 9 ≠ 125 by decide)]; exact h6 8 (by omega) (by omega)
      · show (u2 (u2 (u2 S1.2.1 125 k (S.2.1 11 k)) 126 k (S.2.1 12 k)) 127 k (S.2.1 13 k)) 10 = S.2.1 10
        rw [u2_ro _ _ _ (show 10 ≠ 127 by decide), u2_ro _ _ _ (show 10 ≠ 126 by decide), u2_ro _ _ _ (show 10 ≠ 125 by decide)]; exact h6 9 (by omega) (by omega)
      · show (u2 (u2 (u2 S1.2.1 125 k (S.2.1 11 k)) 126 k (S.2.1 12 k)) 127 k (S.2.1 13 k)) 11 = S.2.1 11
        rw [u2_ro _ _ _ (show 11 ≠ 127 by decide), u2_ro _ _ _ (show 11 ≠ 126 by decide), u2_ro _ _ _ (show 11 ≠ 125 by decide)]; exact h6 10 (by omega) (by omega)
      · show (u2 (u2 (u2 S1.2.1 125 k (S.2.1 11 k)) 126 k (S.2.1 12 k)) 127 k (S.2.1 13 k)) 12 = S.2.1 12
        rw [u2_ro _ _ _ (show 12 ≠ 127 by decide), u2_ro _ _ _ (show 12 ≠ 126 by decide), u2_ro _ _ _ (show 12 ≠ 125 by decide)]; exact h6 11 (by omega) (by omega)
      · show (u2 (u2 (u2 S1.2.1 125 k (S.2.1 11 k)) 126 k (S.2.1 12 k)) 127 k (S.2.1 13 k)) 13 = S.2.1 13
        rw [u2_ro _ _ _ (show 13 ≠ 127 by decide), u2_ro _ _ _ (show 13 ≠ 126 by decide), u2_ro _ _ _ (show 13 ≠ 125 by decide)]; exact h6 12 (by omega) (by omega)
      · show (u2 (u2 (u2 S1.2.1 125 k (S.2.1 11 k)) 126 k (S.2.1 12 k)) 127 k (S.2.1 13 k)) 14 = S.2.1 14
        rw [u2_ro _ _ _ (show 14 ≠ 127 by decide), u2_ro _ _ _ (show 14 ≠ 126 by decide), u2_ro _ _ _ (show 14 ≠ 125 by decide)]; exact h6 13 (by omega) (by omega)
    · exact h7
theorem cpl116_115_1 (x : XT) (S : ST) (hq : ∀ l, l < 6 → qk x (S.2.2.2 15 l) = true) (ho : ∀ g, g < 10 → inb (S.2.1 6 g) 2 = true) : ∀ (m k fuel : Nat) (S1 : ST), k + m = 5 → m < fuel → CI S S1 115 1 10 k 0 0 0 → ∃ S2, lfX7_copyFrom_115_1_116 x fuel S1 (iN k) = some ((), S2) ∧ CI S S2 115 1 10 5 6 3 6
  | 0, k, fuel, S1, hk, hf, h => by
    obtain ⟨fuel, rfl⟩ : ∃ z, fuel = z + 1 := ⟨fuel - 1, by omega⟩
    have : k = 5 := by omega
    subst this
    rw [lfX7_copyFrom_115_1_116, bfX7_copyFrom_115_1_116, if_pos (show (5 : Int32) ≤ iN 5 by decide)]
    rw [show (0 : Int32) = iN 0 from rfl]
    exact cpl177_115_1 x S hq ho 6 0 20000 S1 (by omega) (by omega) h
  | m + 1, k, fuel, S1, hk, hf, h => by
    obtain ⟨fuel, rfl⟩ : ∃ z, fuel = z + 1 := ⟨fuel - 1, by omega⟩
    obtain ⟨h0, h1, h2, h3, h4, h5, h6, h7⟩ := h
    rw [lfX7_copyFrom_115_1_116, bfX7_copyFrom_115_1_116, if_neg (show ¬ (5 : Int32) ≤ iN k from fun hh => by have := (iN_le (m := 5) (by omega) (by omega)).mp hh; omega), inb_t (show k < 5 by omega) (by omega), iN_nat (by omega), iN_succ]
    simp only [cond_true]
    have e6 : S1.2.1 7 = S.2.1 7 := h6 6 (by omega) (by omega)
    have e7 : S1.2.1 8 = S.2.1 8 := h6 7 (by omega) (by omega)
    have e8 : S1.2.1 9 = S.2.1 9 := h6 8 (by omega) (by omega)
    have e9 : S1.2.1 10 = S.2.1 10 := h6 9 (by omega) (by omega)
    rw [e6, e7, e8, e9]
    refine cpl116_115_1 x S hq ho m (k + 1) fuel (S1.1, (u2 (u2 (u2 (u2 S1.2.1 121 k (S.2.1 7 k)) 122 k (S.2.1 8 k)) 123 k (S.2.1 9 k)) 124 k (S.2.1 10 k)), S1.2.2.1, S1.2.2.2) (by omega) (by omega) ⟨h0, ?_, ?_, ?_, ?_, ?_, ?_, ?_⟩
    · intro i hi1 hi2
      have hi3 : i = 1 ∨ i = 2 ∨ i = 3 ∨ i = 4 ∨ i = 5 := by omega
      rcases hi3 with rfl | rfl | rfl | rfl | rfl
      · intro j hj
        show (u2 (u2 (u2 (u2 S1.2.1 121 k (S.2.1 7 k)) 122 k (S.2.1 8 k)) 123 k (S.2.1 9 k)) 124 k (S.2.1 10 k)) 116 j = S.2.1 2 j
        rw [u2_ro _ _ _ (show 116 ≠ 124 by decide), u2_ro _ _ _ (show 116 ≠ 123 by decide), u2_ro _ _ _ (show 116 ≠ 122 by decide), u2_ro _ _ _ (show 116 ≠ 121 by decide)]
        exact h1 1 (by omega) (by omega) j hj
      · intro j hj
        show (u2 (u2 (u2 (u2 S1.2.1 121 k (S.2.1 7 k)) 122 k (S.2.1 8 k)) 123 k (S.2.1 9 k)) 124 k (S.2.1 10 k)) 117 j = S.2.1 3 j
        rw [u2_ro _ _ _ (show 117 ≠ 124 by decide), u2_ro _ _ _ (show 117 ≠ 123 by decide), u2_ro _ _ _ (show 117 ≠ 122 by decide), u2_ro _ _ _ (show 117 ≠ 121 by decide)]
        exact h1 2 (by omega) (by omega) j hj
      · intro j hj
        show (u2 (u2 (u2 (u2 S1.2.1 121 k (S.2.1 7 k)) 122 k (S.2.1 8 k)) 123 k (S.2.1 9 k)) 124 k (S.2.1 10 k)) 118 j = S.2.1 4 j
        rw [u2_ro _ _ _ (show 118 ≠ 124 by decide), u2_ro _ _ _ (show 118 ≠ 123 by decide), u2_ro _ _ _ (show 118 ≠ 122 by decide), u2_ro _ _ _ (show 118 ≠ 121 by decide)]
        exact h1 3 (by omega) (by omega) j hj
      · intro j hj
        show (u2 (u2 (u2 (u2 S1.2.1 121 k (S.2.1 7 k)) 122 k (S.2.1 8 k)) 123 k (S.2.1 9 k)) 124 k (S.2.1 10 k)) 119 j = S.2.1 5 j
        rw [u2_ro _ _ _ (show 119 ≠ 124 by decide), u2_ro _ _ _ (show 119 ≠ 123 by decide), u2_ro _ _ _ (show 119 ≠ 122 by decide), u2_ro _ _ _ (show 119 ≠ 121 by decide)]
        exact h1 4 (by omega) (by omega) j hj
      · intro j hj
        show (u2 (u2 (u2 (u2 S1.2.1 121 k (S.2.1 7 k)) 122 k (S.2.1 8 k)) 123 k (S.2.1 9 k)) 124 k (S.2.1 10 k)) 120 j = S.2.1 6 j
        rw [u2_ro _ _ _ (show 120 ≠ 124 by decide), u2_ro _ _ _ (show 120 ≠ 123 by decide), u2_ro _ _ _ (show 120 ≠ 122 by decide), u2_ro _ _ _ (show 120 ≠ 121 by decide)]
        exact h1 5 (by omega) (by omega) j hj
    · intro i hi1 hi2
      have hi3 : i = 6 ∨ i = 7 ∨ i = 8 ∨ i = 9 := by omega
      rcases hi3 with rfl | rfl | rfl | rfl
      · intro j hj
        show (u2 (u2 (u2 (u2 S1.2.1 121 k (S.2.1 7 k)) 122 k (S.2.1 8 k)) 123 k (S.2.1 9 k)) 124 k (S.2.1 10 k)) 121 j = S.2.1 7 j
        rw [u2_ro _ _ _ (show 121 ≠ 124 by decide), u2_ro _ _ _ (show 121 ≠ 123 by decide), u2_ro _ _ _ (show 121 ≠ 122 by decide)]
        refine cp1 (B := S.2.1 7) (fun j hj => ?_) rfl j hj
        exact h2 6 (by omega) (by omega) j hj
      · intro j hj
        show (u2 (u2 (u2 (u2 S1.2.1 121 k (S.2.1 7 k)) 122 k (S.2.1 8 k)) 123 k (S.2.1 9 k)) 124 k (S.2.1 10 k)) 122 j = S.2.1 8 j
        rw [u2_ro _ _ _ (show 122 ≠ 124 by decide), u2_ro _ _ _ (show 122 ≠ 123 by decide)]
        refine cp1 (B := S.2.1 8) (fun j hj => ?_) rfl j hj
        rw [u2_ro _ _ _ (show 122 ≠ 121 by decide)]
        exact h2 7 (by omega) (by omega) j hj
      · intro j hj
        show (u2 (u2 (u2 (u2 S1.2.1 121 k (S.2.1 7 k)) 122 k (S.2.1 8 k)) 123 k (S.2.1 9 k)) 124 k (S.2.1 10 k)) 123 j = S.2.1 9 j
        rw [u2_ro _ _ _ (show 123 ≠ 124 by decide)]
        refine cp1 (B := S.2.1 9) (fun j hj => ?_) rfl j hj
        rw [u2_ro _ _ _ (show 123 ≠ 122 by decide), u2_ro _ _ _ (show 123 ≠ 121 by decide)]
        exact h2 8 (by omega) (by omega) j hj
      · intro j hj
        show (u2 (u2 (u2 (u2 S1.2.1 121 k (S.2.1 7 k)) 122 k (S.2.1 8 k)) 123 k (S.2.1 9 k)) 124 k (S.2.1 10 k)) 124 j = S.2.1 10 j
        refine cp1 (B := S.2.1 10) (fun j hj => ?_) rfl j hj
        rw [u2_ro _ _ _ (show 124 ≠ 123 by decide), u2_ro _ _ _ (show 124 ≠ 122 by decide), u2_ro _ _ _ (show 124 ≠ 121 by decide)]
        exact h2 9 (by omega) (by omega) j hj
    · intro i hi1 hi2
      have hi3 : i = 10 ∨ i = 11 ∨ i = 12 := by omega
      rcases hi3 with rfl | rfl | rfl
      · intro j hj
        show (u2 (u2 (u2 (u2 S1.2.1 121 k (S.2.1 7 k)) 122 k (S.2.1 8 k)) 123 k (S.2.1 9 k)) 124 k (S.2.1 10 k)) 125 j = S.2.1 11 j
        rw [u2_ro _ _ _ (show 125 ≠ 124 by decide), u2_ro _ _ _ (show 125 ≠ 123 by decide), u2_ro _ _ _ (show 125 ≠ 122 by decide), u2_ro _ _ _ (show 125 ≠ 121 by decide)]
        exact h3 10 (by omega) (by omega) j hj
      · intro j hj
        show (u2 (u2 (u2 (u2 S1.2.1 121 k (S.2.1 7 k)) 122 k (S.2.1 8 k)) 123 k (S.2.1 9 k)) 124 k (S.2.1 10 k)) 126 j = S.2.1 12 j
        rw [u2_ro _ _ _ (show 126 ≠ 124 by decide), u2_ro _ _ _ (show 126 ≠ 123 by decide), u2_ro _ _ _ (show 126 ≠ 122 by decide), u2_ro _ _ _ (show 126 ≠ 121 by decide)]
        exact h3 11 (by omega) (by omega) j hj
      · intro j hj
        show (u2 (u2 (u2 (u2 S1.2.1 121 k (S.2.1 7 k)) 122 k (S.2.1 8 k)) 123 k (S.2.1 9 k)) 124 k (S.2.1 10 k)) 127 j = S.2.1 13 j
        rw [u2_ro _ _ _ (show 127 ≠ 124 by decide), u2_ro _ _ _ (show 127 ≠ 123 by decide), u2_ro _ _ _ (show 127 ≠ 122 by decide), u2_ro _ _ _ (show 127 ≠ 121 by decide)]
        exact h3 12 (by omega) (by omega) j hj
    · intro j hj
      show (u2 (u2 (u2 (u2 S1.2.1 121 k (S.2.1 7 k)) 122 k (S.2.1 8 k)) 123 k (S.2.1 9 k)) 124 k (S.2.1 10 k)) 128 j = S.2.1 14 j
      rw [u2_ro _ _ _ (show 128 ≠ 124 by decide), u2_ro _ _ _ (show 128 ≠ 123 by decide), u2_ro _ _ _ (show 128 ≠ 122 by decide), u2_ro _ _ _ (show 128 ≠ 121 by decide)]
      exact h4 j hj
    · exact h5
    · intro i hi1 hi2
      have hi3 : i = 1 ∨ i = 2 ∨ i = 3 ∨ i = 4 ∨ i = 5 ∨ i = 6 ∨ i = 7 ∨ i = 8 ∨ i = 9 ∨ i = 10 ∨ i = 11 ∨ i = 12 ∨ i = 13 := by omega
      rcases hi3 with rfl | rfl | rfl | rfl | rfl | rfl | rfl | rfl | rfl | rfl | rfl | rfl | rfl
      · show (u2 (u2 (u2 (u2 S1.2.1 121 k (S.2.1 7 k)) 122 k (S.2.1 8 k)) 123 k (S.2.1 9 k)) 124 k (S.2.1 10 k)) 2 = S.2.1 2
        rw [u2_ro _ _ _ (show 2 ≠ 124 by decide), u2_ro _ _ _ (show 2 ≠ 123 by decide), u2_ro _ _ _ (show 2 ≠ 122 by decide), u2_ro _ _ _ (show 2 ≠ 121 by decide)]; exact h6 1 (by omega) (by omega)
      · show (u2 (u2 (u2 (u2 S1.2.1 121 k (S.2.1 7 k)) 122 k (S.2.1 8 k)) 123 k (S.2.1 9 k)) 124 k (S.2.1 10 k)) 3 = S.2.1 3
        rw [u2_ro _ _ _ (show 3 ≠ 124 by decide), u2_ro _ _ _ (show 3 ≠ 123 by decide), u2_ro _ _ _ (show 3 ≠ 122 by decide), u2_ro _ _ _ (show 3 ≠ 121 by decide)]; exact h6 2 (by omega) (by omega)
      · show (u2 (u2 (u2 (u2 S1.2.1 121 k (S.2.1 7 k)) 122 k (S.2.1 8 k)) 123 k (S.2.1 9 k)) 124 k (S.2.1 10 k)) 4 = S.2.1 4
        rw [u2_ro _ _ _ (show 4 ≠ 124 by decide), u2_ro _ _ _ (show 4 ≠ 123 by decide), u2_ro _ _ _ (show 4 ≠ 122 by decide), u2_ro _ _ _ (show 4 ≠ 121 by decide)]; exact h6 3 (by omega) (by omega)
      · show (u2 (u2 (u2 (u2 S1.2.1 121 k (S.2.1 7 k)) 122 k (S.2.1 8 k)) 123 k (S.2.1 9 k)) 124 k (S.2.1 10 k)) 5 = S.2.1 5
        rw [u2_ro _ _ _ (show 5 ≠ 124 by decide), u2_ro _ _ _ (show 5 ≠ 123 by decide), u2_ro _ _ _ (show 5 ≠ 122 by decide), u2_ro _ _ _ (show 5 ≠ 121 by decide)]; exact h6 4 (by omega) (by omega)
      · show (u2 (u2 (u2 (u2 S1.2.1 121 k (S.2.1 7 k)) 122 k (S.2.1 8 k)) 123 k (S.2.1 9 k)) 124 k (S.2.1 10 k)) 6 = S.2.1 6
        rw [u2_ro _ _ _ (show 6 ≠ 124 by decide), u2_ro _ _ _ (show 6 ≠ 123 by decide), u2_ro _ _ _ (show 6 ≠ 122 by decide), u2_ro _ _ _ (show 6 ≠ 121 by decide)]; exact h6 5 (by omega) (by omega)
      · show (u2 (u2 (u2 (u2 S1.2.1 121 k (S.2.1 7 k)) 122 k (S.2.1 8 k)) 123 k (S.2.1 9 k)) 124 k (S.2.1 10 k)) 7 = S.2.1 7
        rw [u2_ro _ _ _ (show 7 ≠ 124 by decide), u2_ro _ _ _ (show 7 ≠ 123 by decide), u2_ro _ _ _ (show 7 ≠ 122 by decide), u2_ro _ _ _ (show 7 ≠ 121 by decide)]; exact h6 6 (by omega) (by omega)
      · show (u2 (u2 (u2 (u2 S1.2.1 121 k (S.2.1 7 k)) 122 k (S.2.1 8 k)) 123 k (S.2.1 9 k)) 124 k (S.2.1 10 k)) 8 = S.2.1 8
        rw [u2_ro _ _ _ (show 8 ≠ 124 by decide), u2_ro _ _ _ (show 8 ≠ 123 by decide), u2_ro _ _ _ (show 8 ≠ 122 by decide), u2_ro _ _ _ (show 8 ≠ 121 by decide)]; exact h6 7 (by omega) (by omega)
      · show (u2 (u2 (u2 (u2 S1.2.1 121 k (S.2.1 7 k)) 122 k (S.2.1 8 k)) 123 k (S.2.1 9 k)) 124 k (S.2.1 10 k)) 9 = S.2.1 9
        rw [u2_ro _ _ _ (show 9 ≠ 124 by decide), u2_ro _ _ _ (show 9 ≠ 123 by decide), u2_ro _ _ _ (show 9 ≠ 122 by decide), u2_ro _ _ _ (show 9 ≠ 121 by decide)]; exact h6 8 (by omega) (by omega)
      · show (u2 (u2 (u2 (u2 S1.2.1 121 k (S.2.1 7 k)) 122 k (S.2.1 8 k)) 123 k (S.2.1 9 k)) 124 k (S.2.1 10 k)) 10 = S.2.1 10
        rw [u2_ro _ _ _ (show 10 ≠ 124 by decide), u2_ro _ _ _ (show 10 ≠ 123 by decide), u2_ro _ _ _ (show 10 ≠ 122 by decide), u2_ro _ _ _ (show 10 ≠ 121 by decide)]; exact h6 9 (by omega) (by omega)
      · show (u2 (u2 (u2 (u2 S1.2.1 121 k (S.2.1 7 k)) 122 k (S.2.1 8 k)) 123 k (S.2.1 9 k)) 124 k (S.2.1 10 k)) 11 = S.2.1 11
        rw [u2_ro _ _ _ (show 11 ≠ 124 by decide), u2_ro _ _ _ (show 11 ≠ 123 by decide), u2_ro _ _ _ (show 11 ≠ 122 by decide), u2_ro _ _ _ (show 11 ≠ 121 by decide)]; exact h6 10 (by omega) (by omega)
      · show (u2 (u2 (u2 (u2 S1.2.1 121 k (S.2.1 7 k)) 122 k (S.2.1 8 k)) 123 k (S.2.1 9 k)) 124 k (S.2.1 10 k)) 12 = S.2.1 12
        rw [u2_ro _ _ _ (show 12 ≠ 124 by decide), u2_ro _ _ _ (show 12 ≠ 123 by decide), u2_ro _ _ _ (show 12 ≠ 122 by decide), u2_ro _ _ _ (show 12 ≠ 121 by decide)]; exact h6 11 (by omega) (by omega)
      · show (u2 (u2 (u2 (u2 S1.2.1 121 k (S.2.1 7 k)) 122 k (S.2.1 8 k)) 123 k (S.2.1 9 k)) 124 k (S.2.1 10 k)) 13 = S.2.1 13
        rw [u2_ro _ _ _ (show 13 ≠ 124 by decide), u2_ro _ _ _ (show 13 ≠ 123 by decide), u2_ro _ _ _ (show 13 ≠ 122 by decide), u2_ro _ _ _ (show 13 ≠ 121 by decide)]; exact h6 12 (by omega) (by omega)
      · show (u2 (u2 (u2 (u2 S1.2.1 121 k (S.2.1 7 k)) 122 k (S.2.1 8 k)) 123 k (S.2.1 9 k)) 124 k (S.2.1 10 k)) 14 = S.2.1 14
        rw [u2_ro _ _ _ (show 14 ≠ 124 by decide), u2_ro _ _ _ (show 14 ≠ 123 by decide), u2_ro _ _ _ (show 14 ≠ 122 by decide), u2_ro _ _ _ (show 14 ≠ 121 by decide)]; exact h6 13 (by omega) (by omega)
    · exact h7
theorem cpl42_115_1 (x : XT) (S : ST) (hq : ∀ l, l < 6 → qk x (S.2.2.2 15 l) = true) (ho : ∀ g, g < 10 → inb (S.2.1 6 g) 2 = true) : ∀ (m k fuel : Nat) (S1 : ST), k + m = 10 → m < fuel → CI S S1 115 1 k 0 0 0 0 → ∃ S2, lfX7_copyFrom_115_1_42 x fuel S1 (iN k) = some ((), S2) ∧ CI S S2 115 1 10 5 6 3 6
  | 0, k, fuel, S1, hk, hf, h => by
    obtain ⟨fuel, rfl⟩ : ∃ z, fuel = z + 1 := ⟨fuel - 1, by omega⟩
    have : k = 10 := by omega
    subst this
    rw [lfX7_copyFrom_115_1_42, bfX7_copyFrom_115_1_42, if_pos (show (10 : Int32) ≤ iN 10 by decide)]
    rw [show (0 : Int32) = iN 0 from rfl]
    exact cpl116_115_1 x S hq ho 5 0 20000 S1 (by omega) (by omega) h
  | m + 1, k, fuel, S1, hk, hf, h => by
    obtain ⟨fuel, rfl⟩ : ∃ z, fuel = z + 1 := ⟨fuel - 1, by omega⟩
    obtain ⟨h0, h1, h2, h3, h4, h5, h6, h7⟩ := h
    rw [lfX7_copyFrom_115_1_42, bfX7_copyFrom_115_1_42, if_neg (show ¬ (10 : Int32) ≤ iN k from fun hh => by have := (iN_le (m := 10) (by omega) (by omega)).mp hh; omega), inb_t (show k < 10 by omega) (by omega), iN_nat (by omega), iN_succ]
    simp only [cond_true]
    have e1 : S1.2.1 2 = S.2.1 2 := h6 1 (by omega) (by omega)
    have e2 : S1.2.1 3 = S.2.1 3 := h6 2 (by omega) (by omega)
    have e3 : S1.2.1 4 = S.2.1 4 := h6 3 (by omega) (by omega)
    have e4 : S1.2.1 5 = S.2.1 5 := h6 4 (by omega) (by omega)
    have e5 : S1.2.1 6 = S.2.1 6 := h6 5 (by omega) (by omega)
    rw [e1, e2, e3, e4, e5]
    rw [nar_b (ho k (by omega))]
    refine cpl42_115_1 x S hq ho m (k + 1) fuel (S1.1, (u2 (u2 (u2 (u2 (u2 S1.2.1 116 k (S.2.1 2 k)) 117 k (S.2.1 3 k)) 118 k (S.2.1 4 k)) 119 k (S.2.1 5 k)) 120 k (S.2.1 6 k)), S1.2.2.1, S1.2.2.2) (by omega) (by omega) ⟨h0, ?_, ?_, ?_, ?_, ?_, ?_, ?_⟩
    · intro i hi1 hi2
      have hi3 : i = 1 ∨ i = 2 ∨ i = 3 ∨ i = 4 ∨ i = 5 := by omega
      rcases hi3 with rfl | rfl | rfl | rfl | rfl
      · intro j hj
        show (u2 (u2 (u2 (u2 (u2 S1.2.1 116 k (S.2.1 2 k)) 117 k (S.2.1 3 k)) 118 k (S.2.1 4 k)) 119 k (S.2.1 5 k)) 120 k (S.2.1 6 k)) 116 j = S.2.1 2 j
        rw [u2_ro _ _ _ (show 116 ≠ 120 by decide), u2_ro _ _ _ (show 116 ≠ 119 by decide), u2_ro _ _ _ (show 116 ≠ 118 by decide), u2_ro _ _ _ (show 116 ≠ 117 by decide)]
        refine cp1 (B := S.2.1 2) (fun j hj => ?_) rfl j hj
        exact h1 1 (by omega) (by omega) j hj
      · intro j hj
        show (u2 (u2 (u2 (u2 (u2 S1.2.1 116 k (S.2.1 2 k)) 117 k (S.2.1 3 k)) 118 k (S.2.1 4 k)) 119 k (S.2.1 5 k)) 120 k (S.2.1 6 k)) 117 j = S.2.1 3 j
        rw [u2_ro _ _ _ (show 117 ≠ 120 by decide), u2_ro _ _ _ (show 117 ≠ 119 by decide), u2_ro _ _ _ (show 117 ≠ 118 by decide)]
        refine cp1 (B := S.2.1 3) (fun j hj => ?_) rfl j hj
        rw [u2_ro _ _ _ (show 117 ≠ 116 by decide)]
        exact h1 2 (by omega) (by omega) j hj
      · intro j hj
        show (u2 (u2 (u2 (u2 (u2 S1.2.1 116 k (S.2.1 2 k)) 117 k (S.2.1 3 k)) 118 k (S.2.1 4 k)) 119 k (S.2.1 5 k)) 120 k (S.2.1 6 k)) 118 j = S.2.1 4 j
        rw [u2_ro _ _ _ (show 118 ≠ 120 by decide), u2_ro _ _ _ (show 118 ≠ 119 by decide)]
        refine cp1 (B := S.2.1 4) (fun j hj => ?_) rfl j hj
        rw [u2_ro _ _ _ (show 118 ≠ 117 by decide), u2_ro _ _ _ (show 118 ≠ 116 by decide)]
        exact h1 3 (by omega) (by omega) j hj
      · intro j hj
        show (u2 (u2 (u2 (u2 (u2 S1.2.1 116 k (S.2.1 2 k)) 117 k (S.2.1 3 k)) 118 k (S.2.1 4 k)) 119 k (S.2.1 5 k)) 120 k (S.2.1 6 k)) 119 j = S.2.1 5 j
        rw [u2_ro _ _ _ (show 119 ≠ 120 by decide)]
        refine cp1 (B := S.2.1 5) (fun j hj => ?_) rfl j hj
        rw [u2_ro _ _ _ (show 119 ≠ 118 by decide), u2_ro _ _ _ (show 119 ≠ 117 by decide), u2_ro _ _ _ (show 119 ≠ 116 by decide)]
        exact h1 4 (by omega) (by omega) j hj
      · intro j hj
        show (u2 (u2 (u2 (u2 (u2 S1.2.1 116 k (S.2.1 2 k)) 117 k (S.2.1 3 k)) 118 k (S.2.1 4 k)) 119 k (S.2.1 5 k)) 120 k (S.2.1 6 k)) 120 j = S.2.1 6 j
        refine cp1 (B := S.2.1 6) (fun j hj => ?_) rfl j hj
        rw [u2_ro _ _ _ (show 120 ≠ 119 by decide), u2_ro _ _ _ (show 120 ≠ 118 by decide), u2_ro _ _ _ (show 120 ≠ 117 by decide), u2_ro _ _ _ (show 120 ≠ 116 by decide)]
        exact h1 5 (by omega) (by omega) j hj
    · intro i hi1 hi2
      have hi3 : i = 6 ∨ i = 7 ∨ i = 8 ∨ i = 9 := by omega
      rcases hi3 with rfl | rfl | rfl | rfl
      · intro j hj
        show (u2 (u2 (u2 (u2 (u2 S1.2.1 116 k (S.2.1 2 k)) 117 k (S.2.1 3 k)) 118 k (S.2.1 4 k)) 119 k (S.2.1 5 k)) 120 k (S.2.1 6 k)) 121 j = S.2.1 7 j
        rw [u2_ro _ _ _ (show 121 ≠ 120 by decide), u2_ro _ _ _ (show 121 ≠ 119 by decide), u2_ro _ _ _ (show 121 ≠ 118 by decide), u2_ro _ _ _ (show 121 ≠ 117 by decide), u2_ro _ _ _ (show 121 ≠ 116 by decide)]
        exact h2 6 (by omega) (by omega) j hj
      · intro j hj
        show (u2 (u2 (u2 (u2 (u2 S1.2.1 116 k (S.2.1 2 k)) 117 k (S.2.1 3 k)) 118 k (S.2.1 4 k)) 119 k (S.2.1 5 k)) 120 k (S.2.1 6 k)) 122 j = S.2.1 8 j
        rw [u2_ro _ _ _ (show 122 ≠ 120 by decide), u2_ro _ _ _ (show 122 ≠ 119 by decide), u2_ro _ _ _ (show 122 ≠ 118 by decide), u2_ro _ _ _ (show 122 ≠ 117 by decide), u2_ro _ _ _ (show 122 ≠ 116 by decide)]
        exact h2 7 (by omega) (by omega) j hj
      · intro j hj
        show (u2 (u2 (u2 (u2 (u2 S1.2.1 116 k (S.2.1 2 k)) 117 k (S.2.1 3 k)) 118 k (S.2.1 4 k)) 119 k (S.2.1 5 k)) 120 k (S.2.1 6 k)) 123 j = S.2.1 9 j
        rw [u2_ro _ _ _ (show 123 ≠ 120 by decide), u2_ro _ _ _ (show 123 ≠ 119 by decide), u2_ro _ _ _ (show 123 ≠ 118 by decide), u2_ro _ _ _ (show 123 ≠ 117 by decide), u2_ro _ _ _ (show 123 ≠ 116 by decide)]
        exact h2 8 (by omega) (by omega) j hj
      · intro j hj
        show (u2 (u2 (u2 (u2 (u2 S1.2.1 116 k (S.2.1 2 k)) 117 k (S.2.1 3 k)) 118 k (S.2.1 4 k)) 119 k (S.2.1 5 k)) 120 k (S.2.1 6 k)) 124 j = S.2.1 10 j
        rw [u2_ro _ _ _ (show 124 ≠ 120 by decide), u2_ro _ _ _ (show 124 ≠ 119 by decide), u2_ro _ _ _ (show 124 ≠ 118 by decide), u2_ro _ _ _ (show 124 ≠ 117 by decide), u2_ro _ _ _ (show 124 ≠ 116 by decide)]
        exact h2 9 (by omega) (by omega) j hj
    · intro i hi1 hi2
      have hi3 : i = 10 ∨ i = 11 ∨ i = 12 := by omega
      rcases hi3 with rfl | rfl | rfl
      · intro j hj
        show (u2 (u2 (u2 (u2 (u2 S1.2.1 116 k (S.2.1 2 k)) 117 k (S.2.1 3 k)) 118 k (S.2.1 4 k)) 119 k (S.2.1 5 k)) 120 k (S.2.1 6 k)) 125 j = S.2.1 11 j
        rw [u2_ro _ _ _ (show 125 ≠ 120 by decide), u2_ro _ _ _ (show 125 ≠ 119 by decide), u2_ro _ _ _ (show 125 ≠ 118 by decide), u2_ro _ _ _ (show 125 ≠ 117 by decide), u2_ro _ _ _ (show 125 ≠ 116 by decide)]
        exact h3 10 (by omega) (by omega) j hj
      · intro j hj
        show (u2 (u2 (u2 (u2 (u2 S1.2.1 116 k (S.2.1 2 k)) 117 k (S.2.1 3 k)) 118 k (S.2.1 4 k)) 119 k (S.2.1 5 k)) 120 k (S.2.1 6 k)) 126 j = S.2.1 12 j
        rw [u2_ro _ _ _ (show 126 ≠ 120 by decide), u2_ro _ _ _ (show 126 ≠ 119 by decide), u2_ro _ _ _ (show 126 ≠ 118 by decide), u2_ro _ _ _ (show 126 ≠ 117 by decide), u2_ro _ _ _ (show 126 ≠ 116 by decide)]
        exact h3 11 (by omega) (by omega) j hj
      · intro j hj
        show (u2 (u2 (u2 (u2 (u2 S1.2.1 116 k (S.2.1 2 k)) 117 k (S.2.1 3 k)) 118 k (S.2.1 4 k)) 119 k (S.2.1 5 k)) 120 k (S.2.1 6 k)) 127 j = S.2.1 13 j
        rw [u2_ro _ _ _ (show 127 ≠ 120 by decide), u2_ro _ _ _ (show 127 ≠ 119 by decide), u2_ro _ _ _ (show 127 ≠ 118 by decide), u2_ro _ _ _ (show 127 ≠ 117 by decide), u2_ro _ _ _ (show 127 ≠ 116 by decide)]
        exact h3 12 (by omega) (by omega) j hj
    · intro j hj
      show (u2 (u2 (u2 (u2 (u2 S1.2.1 116 k (S.2.1 2 k)) 117 k (S.2.1 3 k)) 118 k (S.2.1 4 k)) 119 k (S.2.1 5 k)) 120 k (S.2.1 6 k)) 128 j = S.2.1 14 j
      rw [u2_ro _ _ _ (show 128 ≠ 120 by decide), u2_ro _ _ _ (show 128 ≠ 119 by decide), u2_ro _ _ _ (show 128 ≠ 118 by decide), u2_ro _ _ _ (show 128 ≠ 117 by decide), u2_ro _ _ _ (show 128 ≠ 116 by decide)]
      exact h4 j hj
    · exact h5
    · intro i hi1 hi2
      have hi3 : i = 1 ∨ i = 2 ∨ i = 3 ∨ i = 4 ∨ i = 5 ∨ i = 6 ∨ i = 7 ∨ i = 8 ∨ i = 9 ∨ i = 10 ∨ i = 11 ∨ i = 12 ∨ i = 13 := by omega
      rcases hi3 with rfl | rfl | rfl | rfl | rfl | rfl | rfl | rfl | rfl | rfl | rfl | rfl | rfl
      · show (u2 (u2 (u2 (u2 (u2 S1.2.1 116 k (S.2.1 2 k)) 117 k (S.2.1 3 k)) 118 k (S.2.1 4 k)) 119 k (S.2.1 5 k)) 120 k (S.2.1 6 k)) 2 = S.2.1 2
        rw [u2_ro _ _ _ (show 2 ≠ 120 by decide), u2_ro _ _ _ (show 2 ≠ 119 by decide), u2_ro _ _ _ (show 2 ≠ 118 by decide), u2_ro _ _ _ (show 2 ≠ 117 by decide), u2_ro _ _ _ (show 2 ≠ 116 by decide)]; exact h6 1 (by omega) (by omega)
      · show (u2 (u2 (u2 (u2 (u2 S1.2.1 116 k (S.2.1 2 k)) 117 k (S.2.1 3 k)) 118 k (S.2.1 4 k)) 119 k (S.2.1 5 k)) 120 k (S.2.1 6 k)) 3 = S.2.1 3
        rw [u2_ro _ _ _ (show 3 ≠ 120 by decide), u2_ro _ _ _ (show 3 ≠ 119 by decide), u2_ro _ _ _ (show 3 ≠ 118 by decide), u2_ro _ _ _ (show 3 ≠ 117 by decide), u2_ro _ _ _ (show 3 ≠ 116 by decide)]; exact h6 2 (by omega) (by omega)
      · show (u2 (u2 (u2 (u2 (u2 S1.2.1 116 k (S.2.1 2 k)) 117 k (S.2.1 3 k)) 118 k (S.2.1 4 k)) 119 k (S.2.1 5 k)) 120 k (S.2.1 6 k)) 4 = S.2.1 4
        rw [u2_ro _ _ _ (show 4 ≠ 120 by decide), u2_ro _ _ _ (show 4 ≠ 119 by decide), u2_ro _ _ _ (show 4 ≠ 118 by decide), u2_ro _ _ _ (show 4 ≠ 117 by decide), u2_ro _ _ _ (show 4 ≠ 116 by decide)]; exact h6 3 (by omega) (by omega)
      · show (u2 (u2 (u2 (u2 (u2 S1.2.1 116 k (S.2.1 2 k)) 117 k (S.2.1 3 k)) 118 k (S.2.1 4 k)) 119 k (S.2.1 5 k)) 120 k (S.2.1 6 k)) 5 = S.2.1 5
        rw [u2_ro _ _ _ (show 5 ≠ 120 by decide), u2_ro _ _ _ (show 5 ≠ 119 by decide), u2_ro _ _ _ (show 5 ≠ 118 by decide), u2_ro _ _ _ (show 5 ≠ 117 by decide), u2_ro _ _ _ (show 5 ≠ 116 by decide)]; exact h6 4 (by omega) (by omega)
      · show (u2 (u2 (u2 (u2 (u2 S1.2.1 116 k (S.2.1 2 k)) 117 k (S.2.1 3 k)) 118 k (S.2.1 4 k)) 119 k (S.2.1 5 k)) 120 k (S.2.1 6 k)) 6 = S.2.1 6
        rw [u2_ro _ _ _ (show 6 ≠ 120 by decide), u2_ro _ _ _ (show 6 ≠ 119 by decide), u2_ro _ _ _ (show 6 ≠ 118 by decide), u2_ro _ _ _ (show 6 ≠ 117 by decide), u2_ro _ _ _ (show 6 ≠ 116 by decide)]; exact h6 5 (by omega) (by omega)
      · show (u2 (u2 (u2 (u2 (u2 S1.2.1 116 k (S.2.1 2 k)) 117 k (S.2.1 3 k)) 118 k (S.2.1 4 k)) 119 k (S.2.1 5 k)) 120 k (S.2.1 6 k)) 7 = S.2.1 7
        rw [u2_ro _ _ _ (show 7 ≠ 120 by decide), u2_ro _ _ _ (show 7 ≠ 119 by decide), u2_ro _ _ _ (show 7 ≠ 118 by decide), u2_ro _ _ _ (show 7 ≠ 117 by decide), u2_ro _ _ _ (show 7 ≠ 116 by decide)]; exact h6 6 (by omega) (by omega)
      · show (u2 (u2 (u2 (u2 (u2 S1.2.1 116 k (S.2.1 2 k)) 117 k (S.2.1 3 k)) 118 k (S.2.1 4 k)) 119 k (S.2.1 5 k)) 120 k (S.2.1 6 k)) 8 = S.2.1 8
        rw [u2_ro _ _ _ (show 8 ≠ 120 by decide), u2_ro _ _ _ (show 8 ≠ 119 by decide), u2_ro _ _ _ (show 8 ≠ 118 by decide), u2_ro _ _ _ (show 8 ≠ 117 by decide), u2_ro _ _ _ (show 8 ≠ 116 by decide)]; exact h6 7 (by omega) (by omega)
      · show (u2 (u2 (u2 (u2 (u2 S1.2.1 116 k (S.2.1 2 k)) 117 k (S.2.1 3 k)) 118 k (S.2.1 4 k)) 119 k (S.2.1 5 k)) 120 k (S.2.1 6 k)) 9 = S.2.1 9
        rw [u2_ro _ _ _ (show 9 ≠ 120 by decide), u2_ro _ _ _ (show 9 ≠ 119 by decide), u2_ro _ _ _ (show 9 ≠ 118 by decide), u2_ro _ _ _ (show 9 ≠ 117 by decide), u2_ro _ _ _ (show 9 ≠ 116 by decide)]; exact h6 8 (by omega) (by omega)
      · show (u2 (u2 (u2 (u2 (u2 S1.2.1 116 k (S.2.1 2 k)) 117 k (S.2.1 3 k)) 118 k (S.2.1 4 k)) 119 k (S.2.1 5 k)) 120 k (S.2.1 6 k)) 10 = S.2.1 10
        rw [u2_ro _ _ _ (show 10 ≠ 120 by decide), u2_ro _ _ _ (show 10 ≠ 119 by decide), u2_ro _ _ _ (show 10 ≠ 118 by decide), u2_ro _ _ _ (show 10 ≠ 117 by decide), u2_ro _ _ _ (show 10 ≠ 116 by decide)]; exact h6 9 (by omega) (by omega)
      · show (u2 (u2 (u2 (u2 (u2 S1.2.1 116 k (S.2.1 2 k)) 117 k (S.2.1 3 k)) 118 k (S.2.1 4 k)) 119 k (S.2.1 5 k)) 120 k (S.2.1 6 k)) 11 = S.2.1 11
        rw [u2_ro _ _ _ (show 11 ≠ 120 by decide), u2_ro _ _ _ (show 11 ≠ 119 by decide), u2_ro _ _ _ (show 11 ≠ 118 by decide), u2_ro _ _ _ (show 11 ≠ 117 by decide), u2_ro _ _ _ (show 11 ≠ 116 by decide)]; exact h6 10 (by omega) (by omega)
      · show (u2 (u2 (u2 (u2 (u2 S1.2.1 116 k (S.2.1 2 k)) 117 k (S.2.1 3 k)) 118 k (S.2.1 4 k)) 119 k (S.2.1 5 k)) 120 k (S.2.1 6 k)) 12 = S.2.1 12
        rw [u2_ro _ _ _ (show 12 ≠ 120 by decide), u2_ro _ _ _ (show 12 ≠ 119 by decide), u2_ro _ _ _ (show 12 ≠ 118 by decide), u2_ro _ _ _ (show 12 ≠ 117 by decide), u2_ro _ _ _ (show 12 ≠ 116 by decide)]; exact h6 11 (by omega) (by omega)
      · show (u2 (u2 (u2 (u2 (u2 S1.2.1 116 k (S.2.1 2 k)) 117 k (S.2.1 3 k)) 118 k (S.2.1 4 k)) 119 k (S.2.1 5 k)) 120 k (S.2.1 6 k)) 13 = S.2.1 13
        rw [u2_ro _ _ _ (show 13 ≠ 120 by decide), u2_ro _ _ _ (show 13 ≠ 119 by decide), u2_ro _ _ _ (show 13 ≠ 118 by decide), u2_ro _ _ _ (show 13 ≠ 117 by decide), u2_ro _ _ _ (show 13 ≠ 116 by decide)]; exact h6 12 (by omega) (by omega)
      · show (u2 (u2 (u2 (u2 (u2 S1.2.1 116 k (S.2.1 2 k)) 117 k (S.2.1 3 k)) 118 k (S.2.1 4 k)) 119 k (S.2.1 5 k)) 120 k (S.2.1 6 k)) 14 = S.2.1 14
        rw [u2_ro _ _ _ (show 14 ≠ 120 by decide), u2_ro _ _ _ (show 14 ≠ 119 by decide), u2_ro _ _ _ (show 14 ≠ 118 by decide), u2_ro _ _ _ (show 14 ≠ 117 by decide), u2_ro _ _ _ (show 14 ≠ 116 by decide)]; exact h6 13 (by omega) (by omega)
    · exact h7
theorem copy115_1 (x : XT) (S : ST) (hq : ∀ l, l < 6 → qk x (S.2.2.2 15 l) = true) (ho : ∀ g, g < 10 → inb (S.2.1 6 g) 2 = true) : ∃ S2, gfX7_copyFrom_115_1 x S = some ((), S2) ∧ CI S S2 115 1 10 5 6 3 6 := by
  unfold gfX7_copyFrom_115_1 bfX7_copyFrom_115_1_0
  rw [show (0 : Int32) = iN 0 from rfl]
  refine cpl42_115_1 x S hq ho 10 0 20000 _ (by omega) (by omega) ⟨⟨?_, ?_, ?_, ?_, ?_⟩, fun i _ _ j hj => by omega, fun i _ _ j hj => by omega, fun i _ _ j hj => by omega, fun j hj => by omega, fun j hj => by omega, fun _ _ _ => rfl, rfl⟩
  · show (u2 (u2 (u2 (u2 (u2 S.1 115 0 (S.1 1 0)) 115 6 (S.1 1 6)) 115 11 (S.1 1 11)) 115 16 (S.1 1 16)) 115 18 (S.1 1 18)) 115 0 = _
    rw [u2_k _ _ _ (show 0 ≠ 18 by decide), u2_k _ _ _ (show 0 ≠ 16 by decide), u2_k _ _ _ (show 0 ≠ 11 by decide), u2_k _ _ _ (show 0 ≠ 6 by decide), u2_s]
  · show (u2 (u2 (u2 (u2 (u2 S.1 115 0 (S.1 1 0)) 115 6 (S.1 1 6)) 115 11 (S.1 1 11)) 115 16 (S.1 1 16)) 115 18 (S.1 1 18)) 115 6 = _
    rw [u2_k _ _ _ (show 6 ≠ 18 by decide), u2_k _ _ _ (show 6 ≠ 16 by decide), u2_k _ _ _ (show 6 ≠ 11 by decide), u2_s]
  · show (u2 (u2 (u2 (u2 (u2 S.1 115 0 (S.1 1 0)) 115 6 (S.1 1 6)) 115 11 (S.1 1 11)) 115 16 (S.1 1 16)) 115 18 (S.1 1 18)) 115 11 = _
    rw [u2_k _ _ _ (show 11 ≠ 18 by decide), u2_k _ _ _ (show 11 ≠ 16 by decide), u2_s]
  · show (u2 (u2 (u2 (u2 (u2 S.1 115 0 (S.1 1 0)) 115 6 (S.1 1 6)) 115 11 (S.1 1 11)) 115 16 (S.1 1 16)) 115 18 (S.1 1 18)) 115 16 = _
    rw [u2_k _ _ _ (show 16 ≠ 18 by decide), u2_s]
  · show (u2 (u2 (u2 (u2 (u2 S.1 115 0 (S.1 1 0)) 115 6 (S.1 1 6)) 115 11 (S.1 1 11)) 115 16 (S.1 1 16)) 115 18 (S.1 1 18)) 115 18 = _
    rw [u2_s]
theorem cpl252_1_100 (x : XT) (S : ST) (hq : ∀ l, l < 6 → qk x (S.2.2.2 114 l) = true) (ho : ∀ g, g < 10 → inb (S.2.1 105 g) 2 = true) : ∀ (m k fuel : Nat) (S1 : ST), k + m = 6 → m < fuel → CI S S1 1 100 10 5 6 3 k → ∃ S2, lfX7_copyFrom_1_100_252 x fuel S1 (iN k) = some ((), S2) ∧ CI S S2 1 100 10 5 6 3 6
  | 0, k, fuel, S1, hk, hf, h => by
    obtain ⟨fuel, rfl⟩ : ∃ z, fuel = z + 1 := ⟨fuel - 1, by omega⟩
    have : k = 6 := by omega
    subst this
    rw [lfX7_copyFrom_1_100_252, bfX7_copyFrom_1_100_252, if_pos (show (6 : Int32) ≤ iN 6 by decide)]
    exact ⟨S1, rfl, h⟩
  | m + 1, k, fuel, S1, hk, hf, h => by
    obtain ⟨fuel, rfl⟩ : ∃ z, fuel = z + 1 := ⟨fuel - 1, by omega⟩
    obtain ⟨h0, h1, h2, h3, h4, h5, h6, h7⟩ := h
    rw [lfX7_copyFrom_1_100_252, bfX7_copyFrom_1_100_252, if_neg (show ¬ (6 : Int32) ≤ iN k from fun hh => by have := (iN_le (m := 6) (by omega) (by omega)).mp hh; omega), inb_t (show k < 6 by omega) (by omega), iN_nat (by omega), iN_succ]
    simp only [cond_true]
    have e7 : S1.2.2.2 114 = S.2.2.2 114 := h7
    rw [e7, hq k (by omega), cond_true]
    refine cpl252_1_100 x S hq ho m (k + 1) fuel (S1.1, S1.2.1, S1.2.2.1, u2 S1.2.2.2 15 k (S.2.2.2 114 k)) (by omega) (by omega) ⟨h0, ?_, ?_, ?_, ?_, ?_, ?_, ?_⟩
    · exact h1
    · exact h2
    · exact h3
    · exact h4
    · exact cp1 (A := S1.2.2.2) (B := S.2.2.2 114) h5 rfl
    · exact h6
    · show u2 S1.2.2.2 15 k (S.2.2.2 114 k) 114 = _
      rw [u2_ro _ _ _ (show 114 ≠ 15 by decide)]; exact h7
theorem cpl227_1_100 (x : XT) (S : ST) (hq : ∀ l, l < 6 → qk x (S.2.2.2 114 l) = true) (ho : ∀ g, g < 10 → inb (S.2.1 105 g) 2 = true) : ∀ (m k fuel : Nat) (S1 : ST), k + m = 3 → m < fuel → CI S S1 1 100 10 5 6 k 0 → ∃ S2, lfX7_copyFrom_1_100_227 x fuel S1 (iN k) = some ((), S2) ∧ CI S S2 1 100 10 5 6 3 6
  | 0, k, fuel, S1, hk, hf, h => by
    obtain ⟨fuel, rfl⟩ : ∃ z, fuel = z + 1 := ⟨fuel - 1, by omega⟩
    have : k = 3 := by omega
    subst this
    rw [lfX7_copyFrom_1_100_227, bfX7_copyFrom_1_100_227, if_pos (show (3 : Int32) ≤ iN 3 by decide)]
    rw [show (0 : Int32) = iN 0 from rfl]
    exact cpl252_1_100 x S hq ho 6 0 20000 S1 (by omega) (by omega) h
  | m + 1, k, fuel, S1, hk, hf, h => by
    obtain ⟨fuel, rfl⟩ : ∃ z, fuel = z + 1 := ⟨fuel - 1, by omega⟩
    obtain ⟨h0, h1, h2, h3, h4, h5, h6, h7⟩ := h
    rw [lfX7_copyFrom_1_100_227, bfX7_copyFrom_1_100_227, if_neg (show ¬ (3 : Int32) ≤ iN k from fun hh => by have := (iN_le (m := 3) (by omega) (by omega)).mp hh; omega), inb_t (show k < 3 by omega) (by omega), iN_nat (by omega), iN_succ]
    simp only [cond_true]
    have e13 : S1.2.1 113 = S.2.1 113 := h6 13 (by omega) (by omega)
    rw [e13]
    refine cpl227_1_100 x S hq ho m (k + 1) fuel (S1.1, (u2 S1.2.1 14 k (S.2.1 113 k)), S1.2.2.1, S1.2.2.2) (by omega) (by omega) ⟨h0, ?_, ?_, ?_, ?_, ?_, ?_, ?_⟩
    · intro i hi1 hi2
      have hi3 : i = 1 ∨ i = 2 ∨ i = 3 ∨ i = 4 ∨ i = 5 := by omega
      rcases hi3 with rfl | rfl | rfl | rfl | rfl
      · intro j hj
        show (u2 S1.2.1 14 k (S.2.1 113 k)) 2 j = S.2.1 101 j
        rw [u2_ro _ _ _ (show 2 ≠ 14 by decide)]
        exact h1 1 (by omega) (by omega) j hj
      · intro j hj
        show (u2 S1.2.1 14 k (S.2.1 113 k)) 3 j = S.2.1 102 j
        rw [u2_ro _ _ _ (show 3 ≠ 14 by decide)]
        exact h1 2 (by omega) (by omega) j hj
      · intro j hj
        show (u2 S1.2.1 14 k (S.2.1 113 k)) 4 j = S.2.1 103 j
        rw [u2_ro _ _ _ (show 4 ≠ 14 by decide)]
        exact h1 3 (by omega) (by omega) j hj
      · intro j hj
        show (u2 S1.2.1 14 k (S.2.1 113 k)) 5 j = S.2.1 104 j
        rw [u2_ro _ _ _ (show 5 ≠ 14 by decide)]
        exact h1 4 (by omega) (by omega) j hj
      · intro j hj
        show (u2 S1.2.1 14 k (S.2.1 113 k)) 6 j = S.2.1 105 j
        rw [u2_ro _ _ _ (show 6 ≠ 14 by decide)]
        exact h1 5 (by omega) (by omega) j hj
    · intro i hi1 hi2
      have hi3 : i = 6 ∨ i = 7 ∨ i = 8 ∨ i = 9 := by omega
      rcases hi3 with rfl | rfl | rfl | rfl
      · intro j hj
        show (u2 S1.2.1 14 k (S.2.1 113 k)) 7 j = S.2.1 106 j
        rw [u2_ro _ _ _ (show 7 ≠ 14 by decide)]
        exact h2 6 (by omega) (by omega) j hj
      · intro j hj
        show (u2 S1.2.1 14 k (S.2.1 113 k)) 8 j = S.2.1 107 j
        rw [u2_ro _ _ _ (show 8 ≠ 14 by decide)]
        exact h2 7 (by omega) (by omega) j hj
      · intro j hj
        show (u2 S1.2.1 14 k (S.2.1 113 k)) 9 j = S.2.1 108 j
        rw [u2_ro _ _ _ (show 9 ≠ 14 by decide)]
        exact h2 8 (by omega) (by omega) j hj
      · intro j hj
        show (u2 S1.2.1 14 k (S.2.1 113 k)) 10 j = S.2.1 109 j
        rw [u2_ro _ _ _ (show 10 ≠ 14 by decide)]
        exact h2 9 (by omega) (by omega) j hj
    · intro i hi1 hi2
      have hi3 : i = 10 ∨ i = 11 ∨ i = 12 := by omega
      rcases hi3 with rfl | rfl | rfl
      · intro j hj
        show (u2 S1.2.1 14 k (S.2.1 113 k)) 11 j = S.2.1 110 j
        rw [u2_ro _ _ _ (show 11 ≠ 14 by decide)]
        exact h3 10 (by omega) (by omega) j hj
      · intro j hj
        show (u2 S1.2.1 14 k (S.2.1 113 k)) 12 j = S.2.1 111 j
        rw [u2_ro _ _ _ (show 12 ≠ 14 by decide)]
        exact h3 11 (by omega) (by omega) j hj
      · intro j hj
        show (u2 S1.2.1 14 k (S.2.1 113 k)) 13 j = S.2.1 112 j
        rw [u2_ro _ _ _ (show 13 ≠ 14 by decide)]
        exact h3 12 (by omega) (by omega) j hj
    · exact cp1 (A := S1.2.1) (B := S.2.1 113) h4 rfl
    · exact h5
    · intro i hi1 hi2
      have hi3 : i = 1 ∨ i = 2 ∨ i = 3 ∨ i = 4 ∨ i = 5 ∨ i = 6 ∨ i = 7 ∨ i = 8 ∨ i = 9 ∨ i = 10 ∨ i = 11 ∨ i = 12 ∨ i = 13 := by omega
      rcases hi3 with rfl | rfl | rfl | rfl | rfl | rfl | rfl | rfl | rfl | rfl | rfl | rfl | rfl
      · show (u2 S1.2.1 14 k (S.2.1 113 k)) 101 = S.2.1 101
        rw [u2_ro _ _ _ (show 101 ≠ 14 by decide)]; exact h6 1 (by omega) (by omega)
      · show (u2 S1.2.1 14 k (S.2.1 113 k)) 102 = S.2.1 102
        rw [u2_ro _ _ _ (show 102 ≠ 14 by decide)]; exact h6 2 (by omega) (by omega)
      · show (u2 S1.2.1 14 k (S.2.1 113 k)) 103 = S.2.1 103
        rw [u2_ro _ _ _ (show 103 ≠ 14 by decide)]; exact h6 3 (by omega) (by omega)
      · show (u2 S1.2.1 14 k (S.2.1 113 k)) 104 = S.2.1 104
        rw [u2_ro _ _ _ (show 104 ≠ 14 by decide)]; exact h6 4 (by omega) (by omega)
      · show (u2 S1.2.1 14 k (S.2.1 113 k)) 105 = S.2.1 105
        rw [u2_ro _ _ _ (show 105 ≠ 14 by decide)]; exact h6 5 (by omega) (by omega)
      · show (u2 S1.2.1 14 k (S.2.1 113 k)) 106 = S.2.1 106
        rw [u2_ro _ _ _ (show 106 ≠ 14 by decide)]; exact h6 6 (by omega) (by omega)
      · show (u2 S1.2.1 14 k (S.2.1 113 k)) 107 = S.2.1 107
        rw [u2_ro _ _ _ (show 107 ≠ 14 by decide)]; exact h6 7 (by omega) (by omega)
      · show (u2 S1.2.1 14 k (S.2.1 113 k)) 108 = S.2.1 108
        rw [u2_ro _ _ _ (show 108 ≠ 14 by decide)]; exact h6 8 (by omega) (by omega)
      · show (u2 S1.2.1 14 k (S.2.1 113 k)) 109 = S.2.1 109
        rw [u2_ro _ _ _ (show 109 ≠ 14 by decide)]; exact h6 9 (by omega) (by omega)
      · show (u2 S1.2.1 14 k (S.2.1 113 k)) 110 = S.2.1 110
        rw [u2_ro _ _ _ (show 110 ≠ 14 by decide)]; exact h6 10 (by omega) (by omega)
      · show (u2 S1.2.1 14 k (S.2.1 113 k)) 111 = S.2.1 111
        rw [u2_ro _ _ _ (show 111 ≠ 14 by decide)]; exact h6 11 (by omega) (by omega)
      · show (u2 S1.2.1 14 k (S.2.1 113 k)) 112 = S.2.1 112
        rw [u2_ro _ _ _ (show 112 ≠ 14 by decide)]; exact h6 12 (by omega) (by omega)
      · show (u2 S1.2.1 14 k (S.2.1 113 k)) 113 = S.2.1 113
        rw [u2_ro _ _ _ (show 113 ≠ 14 by decide)]; exact h6 13 (by omega) (by omega)
    · exact h7
theorem cpl177_1_100 (x : XT) (S : ST) (hq : ∀ l, l < 6 → qk x (S.2.2.2 114 l) = true) (ho : ∀ g, g < 10 → inb (S.2.1 105 g) 2 = true) : ∀ (m k fuel : Nat) (S1 : ST), k + m = 6 → m < fuel → CI S S1 1 100 10 5 k 0 0 → ∃ S2, lfX7_copyFrom_1_100_177 x fuel S1 (iN k) = some ((), S2) ∧ CI S S2 1 100 10 5 6 3 6
  | 0, k, fuel, S1, hk, hf, h => by
    obtain ⟨fuel, rfl⟩ : ∃ z, fuel = z + 1 := ⟨fuel - 1, by omega⟩
    have : k = 6 := by omega
    subst this
    rw [lfX7_copyFrom_1_100_177, bfX7_copyFrom_1_100_177, if_pos (show (6 : Int32) ≤ iN 6 by decide)]
    rw [show (0 : Int32) = iN 0 from rfl]
    exact cpl227_1_100 x S hq ho 3 0 20000 S1 (by omega) (by omega) h
  | m + 1, k, fuel, S1, hk, hf, h => by
    obtain ⟨fuel, rfl⟩ : ∃ z, fuel = z + 1 := ⟨fuel - 1, by omega⟩
    obtain ⟨h0, h1, h2, h3, h4, h5, h6, h7⟩ := h
    rw [lfX7_copyFrom_1_100_177, bfX7_copyFrom_1_100_177, if_neg (show ¬ (6 : Int32) ≤ iN k from fun hh => by have := (iN_le (m := 6) (by omega) (by omega)).mp hh; omega), inb_t (show k < 6 by omega) (by omega), iN_nat (by omega), iN_succ]
    simp only [cond_true]
    have e10 : S1.2.1 110 = S.2.1 110 := h6 10 (by omega) (by omega)
    have e11 : S1.2.1 111 = S.2.1 111 := h6 11 (by omega) (by omega)
    have e12 : S1.2.1 112 = S.2.1 112 := h6 12 (by omega) (by omega)
    rw [e10, e11, e12]
    refine cpl177_1_100 x S hq ho m (k + 1) fuel (S1.1, (u2 (u2 (u2 S1.2.1 11 k (S.2.1 110 k)) 12 k (S.2.1 111 k)) 13 k (S.2.1 112 k)), S1.2.2.1, S1.2.2.2) (by omega) (by omega) ⟨h0, ?_, ?_, ?_, ?_, ?_, ?_, ?_⟩
    · intro i hi1 hi2
      have hi3 : i = 1 ∨ i = 2 ∨ i = 3 ∨ i = 4 ∨ i = 5 := by omega
      rcases hi3 with rfl | rfl | rfl | rfl | rfl
      · intro j hj
        show (u2 (u2 (u2 S1.2.1 11 k (S.2.1 110 k)) 12 k (S.2.1 111 k)) 13 k (S.2.1 112 k)) 2 j = S.2.1 101 j
        rw [u2_ro _ _ _ (show 2 ≠ 13 by decide), u2_ro _ _ _ (show 2 ≠ 12 by decide), u2_ro _ _ _ (show 2 ≠ 11 by decide)]
        exact h1 1 (by omega) (by omega) j hj
      · intro j hj
        show (u2 (u2 (u2 S1.2.1 11 k (S.2.1 110 k)) 12 k (S.2.1 111 k)) 13 k (S.2.1 112 k)) 3 j = S.2.1 102 j
        rw [u2_ro _ _ _ (show 3 ≠ 13 by decide), u2_ro _ _ _ (show 3 ≠ 12 by decide), u2_ro _ _ _ (show 3 ≠ 11 by decide)]
        exact h1 2 (by omega) (by omega) j hj
      · intro j hj
        show (u2 (u2 (u2 S1.2.1 11 k (S.2.1 110 k)) 12 k (S.2.1 111 k)) 13 k (S.2.1 112 k)) 4 j = S.2.1 103 j
        rw [u2_ro _ _ _ (show 4 ≠ 13 by decide), u2_ro _ _ _ (show 4 ≠ 12 by decide), u2_ro _ _ _ (show 4 ≠ 11 by decide)]
        exact h1 3 (by omega) (by omega) j hj
      · intro j hj
        show (u2 (u2 (u2 S1.2.1 11 k (S.2.1 110 k)) 12 k (S.2.1 111 k)) 13 k (S.2.1 112 k)) 5 j = S.2.1 104 j
        rw [u2_ro _ _ _ (show 5 ≠ 13 by decide), u2_ro _ _ _ (show 5 ≠ 12 by decide), u2_ro _ _ _ (show 5 ≠ 11 by decide)]
        exact h1 4 (by omega) (by omega) j hj
      · intro j hj
        show (u2 (u2 (u2 S1.2.1 11 k (S.2.1 110 k)) 12 k (S.2.1 111 k)) 13 k (S.2.1 112 k)) 6 j = S.2.1 105 j
        rw [u2_ro _ _ _ (show 6 ≠ 13 by decide), u2_ro _ _ _ (show 6 ≠ 12 by decide), u2_ro _ _ _ (show 6 ≠ 11 by decide)]
        exact h1 5 (by omega) (by omega) j hj
    · intro i hi1 hi2
      have hi3 : i = 6 ∨ i = 7 ∨ i = 8 ∨ i = 9 := by omega
      rcases hi3 with rfl | rfl | rfl | rfl
      · intro j hj
        show (u2 (u2 (u2 S1.2.1 11 k (S.2.1 110 k)) 12 k (S.2.1 111 k)) 13 k (S.2.1 112 k)) 7 j = S.2.1 106 j
        rw [u2_ro _ _ _ (show 7 ≠ 13 by decide), u2_ro _ _ _ (show 7 ≠ 12 by decide), u2_ro _ _ _ (show 7 ≠ 11 by decide)]
        exact h2 6 (by omega) (by omega) j hj
      · intro j hj
        show (u2 (u2 (u2 S1.2.1 11 k (S.2.1 110 k)) 12 k (S.2.1 111 k)) 13 k (S.2.1 112 k)) 8 j = S.2.1 107 j
        rw [u2_ro _ _ _ (show 8 ≠ 13 by decide), u2_ro _ _ _ (show 8 ≠ 12 by decide), u2_ro _ _ _ (show 8 ≠ 11 by decide)]
        exact h2 7 (by omega) (by omega) j hj
      · intro j hj
        show (u2 (u2 (u2 S1.2.1 11 k (S.2.1 110 k)) 12 k (S.2.1 111 k)) 13 k (S.2.1 112 k)) 9 j = S.2.1 108 j
        rw [u2_ro _ _ _ (show 9 ≠ 13 by decide), u2_ro _ _ _ (show 9 ≠ 12 by decide), u2_ro _ _ _ (show 9 ≠ 11 by decide)]
        exact h2 8 (by omega) (by omega) j hj
      · intro j hj
        show (u2 (u2 (u2 S1.2.1 11 k (S.2.1 110 k)) 12 k (S.2.1 111 k)) 13 k (S.2.1 112 k)) 10 j = S.2.1 109 j
        rw [u2_ro _ _ _ (show 10 ≠ 13 by decide), u2_ro _ _ _ (show 10 ≠ 12 by decide), u2_ro _ _ _ (show 10 ≠ 11 by decide)]
        exact h2 9 (by omega) (by omega) j hj
    · intro i hi1 hi2
      have hi3 : i = 10 ∨ i = 11 ∨ i = 12 := by omega
      rcases hi3 with rfl | rfl | rfl
      · intro j hj
        show (u2 (u2 (u2 S1.2.1 11 k (S.2.1 110 k)) 12 k (S.2.1 111 k)) 13 k (S.2.1 112 k)) 11 j = S.2.1 110 j
        rw [u2_ro _ _ _ (show 11 ≠ 13 by decide), u2_ro _ _ _ (show 11 ≠ 12 by decide)]
        refine cp1 (B := S.2.1 110) (fun j hj => ?_) rfl j hj
        exact h3 10 (by omega) (by omega) j hj
      · intro j hj
        show (u2 (u2 (u2 S1.2.1 11 k (S.2.1 110 k)) 12 k (S.2.1 111 k)) 13 k (S.2.1 112 k)) 12 j = S.2.1 111 j
        rw [u2_ro _ _ _ (show 12 ≠ 13 by decide)]
        refine cp1 (B := S.2.1 111) (fun j hj => ?_) rfl j hj
        rw [u2_ro _ _ _ (show 12 ≠ 11 by decide)]
        exact h3 11 (by omega) (by omega) j hj
      · intro j hj
        show (u2 (u2 (u2 S1.2.1 11 k (S.2.1 110 k)) 12 k (S.2.1 111 k)) 13 k (S.2.1 112 k)) 13 j = S.2.1 112 j
        refine cp1 (B := S.2.1 112) (fun j hj => ?_) rfl j hj
        rw [u2_ro _ _ _ (show 13 ≠ 12 by decide), u2_ro _ _ _ (show 13 ≠ 11 by decide)]
        exact h3 12 (by omega) (by omega) j hj
    · intro j hj
      show (u2 (u2 (u2 S1.2.1 11 k (S.2.1 110 k)) 12 k (S.2.1 111 k)) 13 k (S.2.1 112 k)) 14 j = S.2.1 113 j
      rw [u2_ro _ _ _ (show 14 ≠ 13 by decide), u2_ro _ _ _ (show 14 ≠ 12 by decide), u2_ro _ _ _ (show 14 ≠ 11 by decide)]
      exact h4 j hj
    · exact h5
    · intro i hi1 hi2
      have hi3 : i = 1 ∨ i = 2 ∨ i = 3 ∨ i = 4 ∨ i = 5 ∨ i = 6 ∨ i = 7 ∨ i = 8 ∨ i = 9 ∨ i = 10 ∨ i = 11 ∨ i = 12 ∨ i = 13 := by omega
      rcases hi3 with rfl | rfl | rfl | rfl | rfl | rfl | rfl | rfl | rfl | rfl | rfl | rfl | rfl
      · show (u2 (u2 (u2 S1.2.1 11 k (S.2.1 110 k)) 12 k (S.2.1 111 k)) 13 k (S.2.1 112 k)) 101 = S.2.1 101
        rw [u2_ro _ _ _ (show 101 ≠ 13 by decide), u2_ro _ _ _ (show 101 ≠ 12 by decide), u2_ro _ _ _ (show 101 ≠ 11 by decide)]; exact h6 1 (by omega) (by omega)
      · show (u2 (u2 (u2 S1.2.1 11 k (S.2.1 110 k)) 12 k (S.2.1 111 k)) 13 k (S.2.1 112 k)) 102 = S.2.1 102
        rw [u2_ro _ _ _ (show 102 ≠ 13 by decide), u2_ro _ _ _ (show 102 ≠ 12 by decide), u2_ro _ _ _ (show 102 ≠ 11 by decide)]; exact h6 2 (by omega) (by omega)
      · show (u2 (u2 (u2 S1.2.1 11 k (S.2.1 110 k)) 12 k (S.2.1 111 k)) 13 k (S.2.1 112 k)) 103 = S.2.1 103
        rw [u2_ro _ _ _ (show 103 ≠ 13 by decide), u2_ro _ _ _ (show 103 ≠ 12 by decide), u2_ro _ _ _ (show 103 ≠ 11 by decide)]; exact h6 3 (by omega) (by omega)
      · show (u2 (u2 (u2 S1.2.1 11 k (S.2.1 110 k)) 12 k (S.2.1 111 k)) 13 k (S.2.1 112 k)) 104 = S.2.1 104
        rw [u2_ro _ _ _ (show 104 ≠ 13 by decide), u2_ro _ _ _ (show 104 ≠ 12 by decide), u2_ro _ _ _ (show 104 ≠ 11 by decide)]; exact h6 4 (by omega) (by omega)
      · show (u2 (u2 (u2 S1.2.1 11 k (S.2.1 110 k)) 12 k (S.2.1 111 k)) 13 k (S.2.1 112 k)) 105 = S.2.1 105
        rw [u2_ro _ _ _ (show 105 ≠ 13 by decide), u2_ro _ _ _ (show 105 ≠ 12 by decide), u2_ro _ _ _ (show 105 ≠ 11 by decide)]; exact h6 5 (by omega) (by omega)
      · show (u2 (u2 (u2 S1.2.1 11 k (S.2.1 110 k)) 12 k (S.2.1 111 k)) 13 k (S.2.1 112 k)) 106 = S.2.1 106
        rw [u2_ro _ _ _ (show 106 ≠ 13 by decide), u2_ro _ _ _ (show 106 ≠ 12 by decide), u2_ro _ _ _ (show 106 ≠ 11 by decide)]; exact h6 6 (by omega) (by omega)
      · show (u2 (u2 (u2 S1.2.1 11 k (S.2.1 110 k)) 12 k (S.2.1 111 k)) 13 k (S.2.1 112 k)) 107 = S.2.1 107
        rw [u2_ro _ _ _ (show 107 ≠ 13 by decide), u2_ro _ _ _ (show 107 ≠ 12 by decide), u2_ro _ _ _ (show 107 ≠ 11 by decide)]; exact h6 7 (by omega) (by omega)
      · show (u2 (u2 (u2 S1.2.1 11 k (S.2.1 110 k)) 12 k (S.2.1 111 k)) 13 k (S.2.1 112 k)) 108 = S.2.1 108
        rw [u2_ro _ _ _ (show 108 ≠ 13 by decide), u2_ro _ _ _ (show 108 ≠ 12 by decide), u2_ro _ _ _ (show 108 ≠ 11 by decide)]; exact h6 8 (by omega) (by omega)
      · show (u2 (u2 (u2 S1.2.1 11 k (S.2.1 110 k)) 12 k (S.2.1 111 k)) 13 k (S.2.1 112 k)) 109 = S.2.1 109
        rw [u2_ro _ _ _ (show 109 ≠ 13 by decide), u2_ro _ _ _ (show 109 ≠ 12 by decide), u2_ro _ _ _ (show 109 ≠ 11 by decide)]; exact h6 9 (by omega) (by omega)
      · show (u2 (u2 (u2 S1.2.1 11 k (S.2.1 110 k)) 12 k (S.2.1 111 k)) 13 k (S.2.1 112 k)) 110 = S.2.1 110
        rw [u2_ro _ _ _ (show 110 ≠ 13 by decide), u2_ro _ _ _ (show 110 ≠ 12 by decide), u2_ro _ _ _ (show 110 ≠ 11 by decide)]; exact h6 10 (by omega) (by omega)
      · show (u2 (u2 (u2 S1.2.1 11 k (S.2.1 110 k)) 12 k (S.2.1 111 k)) 13 k (S.2.1 112 k)) 111 = S.2.1 111
        rw [u2_ro _ _ _ (show 111 ≠ 13 by decide), u2_ro _ _ _ (show 111 ≠ 12 by decide), u2_ro _ _ _ (show 111 ≠ 11 by decide)]; exact h6 11 (by omega) (by omega)
      · show (u2 (u2 (u2 S1.2.1 11 k (S.2.1 110 k)) 12 k (S.2.1 111 k)) 13 k (S.2.1 112 k)) 112 = S.2.1 112
        rw [u2_ro _ _ _ (show 112 ≠ 13 by decide), u2_ro _ _ _ (show 112 ≠ 12 by decide), u2_ro _ _ _ (show 112 ≠ 11 by decide)]; exact h6 12 (by omega) (by omega)
      · show (u2 (u2 (u2 S1.2.1 11 k (S.2.1 110 k)) 12 k (S.2.1 111 k)) 13 k (S.2.1 112 k)) 113 = S.2.1 113
        rw [u2_ro _ _ _ (show 113 ≠ 13 by decide), u2_ro _ _ _ (show 113 ≠ 12 by decide), u2_ro _ _ _ (show 113 ≠ 11 by decide)]; exact h6 13 (by omega) (by omega)
    · exact h7
theorem cpl116_1_100 (x : XT) (S : ST) (hq : ∀ l, l < 6 → qk x (S.2.2.2 114 l) = true) (ho : ∀ g, g < 10 → inb (S.2.1 105 g) 2 = true) : ∀ (m k fuel : Nat) (S1 : ST), k + m = 5 → m < fuel → CI S S1 1 100 10 k 0 0 0 → ∃ S2, lfX7_copyFrom_1_100_116 x fuel S1 (iN k) = some ((), S2) ∧ CI S S2 1 100 10 5 6 3 6
  | 0, k, fuel, S1, hk, hf, h => by
    obtain ⟨fuel, rfl⟩ : ∃ z, fuel = z + 1 := ⟨fuel - 1, by omega⟩
    have : k = 5 := by omega
    subst this
    rw [lfX7_copyFrom_1_100_116, bfX7_copyFrom_1_100_116, if_pos (show (5 : Int32) ≤ iN 5 by decide)]
    rw [show (0 : Int32) = iN 0 from rfl]
    exact cpl177_1_100 x S hq ho 6 0 20000 S1 (by omega) (by omega) h
  | m + 1, k, fuel, S1, hk, hf, h => by
    obtain ⟨fuel, rfl⟩ : ∃ z, fuel = z + 1 := ⟨fuel - 1, by omega⟩
    obtain ⟨h0, h1, h2, h3, h4, h5, h6, h7⟩ := h
    rw [lfX7_copyFrom_1_100_116, bfX7_copyFrom_1_100_116, if_neg (show ¬ (5 : Int32) ≤ iN k from fun hh => by have := (iN_le (m := 5) (by omega) (by omega)).mp hh; omega), inb_t (show k < 5 by omega) (by omega), iN_nat (by omega), iN_succ]
    simp only [cond_true]
    have e6 : S1.2.1 106 = S.2.1 106 := h6 6 (by omega) (by omega)
    have e7 : S1.2.1 107 = S.2.1 107 := h6 7 (by omega) (by omega)
    have e8 : S1.2.1 108 = S.2.1 108 := h6 8 (by omega) (by omega)
    have e9 : S1.2.1 109 = S.2.1 109 := h6 9 (by omega) (by omega)
    rw [e6, e7, e8, e9]
    refine cpl116_1_100 x S hq ho m (k + 1) fuel (S1.1, (u2 (u2 (u2 (u2 S1.2.1 7 k (S.2.1 106 k)) 8 k (S.2.1 107 k)) 9 k (S.2.1 108 k)) 10 k (S.2.1 109 k)), S1.2.2.1, S1.2.2.2) (by omega) (by omega) ⟨h0, ?_, ?_, ?_, ?_, ?_, ?_, ?_⟩
    · intro i hi1 hi2
      have hi3 : i = 1 ∨ i = 2 ∨ i = 3 ∨ i = 4 ∨ i = 5 := by omega
      rcases hi3 with rfl | rfl | rfl | rfl | rfl
      · intro j hj
        show (u2 (u2 (u2 (u2 S1.2.1 7 k (S.2.1 106 k)) 8 k (S.2.1 107 k)) 9 k (S.2.1 108 k)) 10 k (S.2.1 109 k)) 2 j = S.2.1 101 j
        rw [u2_ro _ _ _ (show 2 ≠ 10 by decide), u2_ro _ _ _ (show 2 ≠ 9 by decide), u2_ro _ _ _ (show 2 ≠ 8 by decide), u2_ro _ _ _ (show 2 ≠ 7 by decide)]
        exact h1 1 (by omega) (by omega) j hj
      · intro j hj
        show (u2 (u2 (u2 (u2 S1.2.1 7 k (S.2.1 106 k)) 8 k (S.2.1 107 k)) 9 k (S.2.1 108 k)) 10 k (S.2.1 109 k)) 3 j = S.2.1 102 j
        rw [u2_ro _ _ _ (show 3 ≠ 10 by decide), u2_ro _ _ _ (show 3 ≠ 9 by decide), u2_ro _ _ _ (show 3 ≠ 8 by decide), u2_ro _ _ _ (show 3 ≠ 7 by decide)]
        exact h1 2 (by omega) (by omega) j hj
      · intro j hj
        show (u2 (u2 (u2 (u2 S1.2.1 7 k (S.2.1 106 k)) 8 k (S.2.1 107 k)) 9 k (S.2.1 108 k)) 10 k (S.2.1 109 k)) 4 j = S.2.1 103 j
        rw [u2_ro _ _ _ (show 4 ≠ 10 by decide), u2_ro _ _ _ (show 4 ≠ 9 by decide), u2_ro _ _ _ (show 4 ≠ 8 by decide), u2_ro _ _ _ (show 4 ≠ 7 by decide)]
        exact h1 3 (by omega) (by omega) j hj
      · intro j hj
        show (u2 (u2 (u2 (u2 S1.2.1 7 k (S.2.1 106 k)) 8 k (S.2.1 107 k)) 9 k (S.2.1 108 k)) 10 k (S.2.1 109 k)) 5 j = S.2.1 104 j
        rw [u2_ro _ _ _ (show 5 ≠ 10 by decide), u2_ro _ _ _ (show 5 ≠ 9 by decide), u2_ro _ _ _ (show 5 ≠ 8 by decide), u2_ro _ _ _ (show 5 ≠ 7 by decide)]
        exact h1 4 (by omega) (by omega) j hj
      · intro j hj
        show (u2 (u2 (u2 (u2 S1.2.1 7 k (S.2.1 106 k)) 8 k (S.2.1 107 k)) 9 k (S.2.1 108 k)) 10 k (S.2.1 109 k)) 6 j = S.2.1 105 j
        rw [u2_ro _ _ _ (show 6 ≠ 10 by decide), u2_ro _ _ _ (show 6 ≠ 9 by decide), u2_ro _ _ _ (show 6 ≠ 8 by decide), u2_ro _ _ _ (show 6 ≠ 7 by decide)]
        exact h1 5 (by omega) (by omega) j hj
    · intro i hi1 hi2
      have hi3 : i = 6 ∨ i = 7 ∨ i = 8 ∨ i = 9 := by omega
      rcases hi3 with rfl | rfl | rfl | rfl
      · intro j hj
        show (u2 (u2 (u2 (u2 S1.2.1 7 k (S.2.1 106 k)) 8 k (S.2.1 107 k)) 9 k (S.2.1 108 k)) 10 k (S.2.1 109 k)) 7 j = S.2.1 106 j
        rw [u2_ro _ _ _ (show 7 ≠ 10 by decide), u2_ro _ _ _ (show 7 ≠ 9 by decide), u2_ro _ _ _ (show 7 ≠ 8 by decide)]
        refine cp1 (B := S.2.1 106) (fun j hj => ?_) rfl j hj
        exact h2 6 (by omega) (by omega) j hj
      · intro j hj
        show (u2 (u2 (u2 (u2 S1.2.1 7 k (S.2.1 106 k)) 8 k (S.2.1 107 k)) 9 k (S.2.1 108 k)) 10 k (S.2.1 109 k)) 8 j = S.2.1 107 j
        rw [u2_ro _ _ _ (show 8 ≠ 10 by decide), u2_ro _ _ _ (show 8 ≠ 9 by decide)]
        refine cp1 (B := S.2.1 107) (fun j hj => ?_) rfl j hj
        rw [u2_ro _ _ _ (show 8 ≠ 7 by decide)]
        exact h2 7 (by omega) (by omega) j hj
      · intro j hj
        show (u2 (u2 (u2 (u2 S1.2.1 7 k (S.2.1 106 k)) 8 k (S.2.1 107 k)) 9 k (S.2.1 108 k)) 10 k (S.2.1 109 k)) 9 j = S.2.1 108 j
        rw [u2_ro _ _ _ (show 9 ≠ 10 by decide)]
        refine cp1 (B := S.2.1 108) (fun j hj => ?_) rfl j hj
        rw [u2_ro _ _ _ (show 9 ≠ 8 by decide), u2_ro _ _ _ (show 9 ≠ 7 by decide)]
        exact h2 8 (by omega) (by omega) j hj
      · intro j hj
        show (u2 (u2 (u2 (u2 S1.2.1 7 k (S.2.1 106 k)) 8 k (S.2.1 107 k)) 9 k (S.2.1 108 k)) 10 k (S.2.1 109 k)) 10 j = S.2.1 109 j
        refine cp1 (B := S.2.1 109) (fun j hj => ?_) rfl j hj
        rw [u2_ro _ _ _ (show 10 ≠ 9 by decide), u2_ro _ _ _ (show 10 ≠ 8 by decide), u2_ro _ _ _ (show 10 ≠ 7 by decide)]
        exact h2 9 (by omega) (by omega) j hj
    · intro i hi1 hi2
      have hi3 : i = 10 ∨ i = 11 ∨ i = 12 := by omega
      rcases hi3 with rfl | rfl | rfl
      · intro j hj
        show (u2 (u2 (u2 (u2 S1.2.1 7 k (S.2.1 106 k)) 8 k (S.2.1 107 k)) 9 k (S.2.1 108 k)) 10 k (S.2.1 109 k)) 11 j = S.2.1 110 j
        rw [u2_ro _ _ _ (show 11 ≠ 10 by decide), u2_ro _ _ _ (show 11 ≠ 9 by decide), u2_ro _ _ _ (show 11 ≠ 8 by decide), u2_ro _ _ _ (show 11 ≠ 7 by decide)]
        exact h3 10 (by omega) (by omega) j hj
      · intro j hj
        show (u2 (u2 (u2 (u2 S1.2.1 7 k (S.2.1 106 k)) 8 k (S.2.1 107 k)) 9 k (S.2.1 108 k)) 10 k (S.2.1 109 k)) 12 j = S.2.1 111 j
        rw [u2_ro _ _ _ (show 12 ≠ 10 by decide), u2_ro _ _ _ (show 12 ≠ 9 by decide), u2_ro _ _ _ (show 12 ≠ 8 by decide), u2_ro _ _ _ (show 12 ≠ 7 by decide)]
        exact h3 11 (by omega) (by omega) j hj
      · intro j hj
        show (u2 (u2 (u2 (u2 S1.2.1 7 k (S.2.1 106 k)) 8 k (S.2.1 107 k)) 9 k (S.2.1 108 k)) 10 k (S.2.1 109 k)) 13 j = S.2.1 112 j
        rw [u2_ro _ _ _ (show 13 ≠ 10 by decide), u2_ro _ _ _ (show 13 ≠ 9 by decide), u2_ro _ _ _ (show 13 ≠ 8 by decide), u2_ro _ _ _ (show 13 ≠ 7 by decide)]
        exact h3 12 (by omega) (by omega) j hj
    · intro j hj
      show (u2 (u2 (u2 (u2 S1.2.1 7 k (S.2.1 106 k)) 8 k (S.2.1 107 k)) 9 k (S.2.1 108 k)) 10 k (S.2.1 109 k)) 14 j = S.2.1 113 j
      rw [u2_ro _ _ _ (show 14 ≠ 10 by decide), u2_ro _ _ _ (show 14 ≠ 9 by decide), u2_ro _ _ _ (show 14 ≠ 8 by decide), u2_ro _ _ _ (show 14 ≠ 7 by decide)]
      exact h4 j hj
    · exact h5
    · intro i hi1 hi2
      have hi3 : i = 1 ∨ i = 2 ∨ i = 3 ∨ i = 4 ∨ i = 5 ∨ i = 6 ∨ i = 7 ∨ i = 8 ∨ i = 9 ∨ i = 10 ∨ i = 11 ∨ i = 12 ∨ i = 13 := by omega
      rcases hi3 with rfl | rfl | rfl | rfl | rfl | rfl | rfl | rfl | rfl | rfl | rfl | rfl | rfl
      · show (u2 (u2 (u2 (u2 S1.2.1 7 k (S.2.1 106 k)) 8 k (S.2.1 107 k)) 9 k (S.2.1 108 k)) 10 k (S.2.1 109 k)) 101 = S.2.1 101
        rw [u2_ro _ _ _ (show 101 ≠ 10 by decide), u2_ro _ _ _ (show 101 ≠ 9 by decide), u2_ro _ _ _ (show 101 ≠ 8 by decide), u2_ro _ _ _ (show 101 ≠ 7 by decide)]; exact h6 1 (by omega) (by omega)
      · show (u2 (u2 (u2 (u2 S1.2.1 7 k (S.2.1 106 k)) 8 k (S.2.1 107 k)) 9 k (S.2.1 108 k)) 10 k (S.2.1 109 k)) 102 = S.2.1 102
        rw [u2_ro _ _ _ (show 102 ≠ 10 by decide), u2_ro _ _ _ (show 102 ≠ 9 by decide), u2_ro _ _ _ (show 102 ≠ 8 by decide), u2_ro _ _ _ (show 102 ≠ 7 by decide)]; exact h6 2 (by omega) (by omega)
      · show (u2 (u2 (u2 (u2 S1.2.1 7 k (S.2.1 106 k)) 8 k (S.2.1 107 k)) 9 k (S.2.1 108 k)) 10 k (S.2.1 109 k)) 103 = S.2.1 103
        rw [u2_ro _ _ _ (show 103 ≠ 10 by decide), u2_ro _ _ _ (show 103 ≠ 9 by decide), u2_ro _ _ _ (show 103 ≠ 8 by decide), u2_ro _ _ _ (show 103 ≠ 7 by decide)]; exact h6 3 (by omega) (by omega)
      · show (u2 (u2 (u2 (u2 S1.2.1 7 k (S.2.1 106 k)) 8 k (S.2.1 107 k)) 9 k (S.2.1 108 k)) 10 k (S.2.1 109 k)) 104 = S.2.1 104
        rw [u2_ro _ _ _ (show 104 ≠ 10 by decide), u2_ro _ _ _ (show 104 ≠ 9 by decide), u2_ro _ _ _ (show 104 ≠ 8 by decide), u2_ro _ _ _ (show 104 ≠ 7 by decide)]; exact h6 4 (by omega) (by omega)
      · show (u2 (u2 (u2 (u2 S1.2.1 7 k (S.2.1 106 k)) 8 k (S.2.1 107 k)) 9 k (S.2.1 108 k)) 10 k (S.2.1 109 k)) 105 = S.2.1 105
        rw [u2_ro _ _ _ (show 105 ≠ 10 by decide), u2_ro _ _ _ (show 105 ≠ 9 by decide), u2_ro _ _ _ (show 105 ≠ 8 by decide), u2_ro _ _ _ (show 105 ≠ 7 by decide)]; exact h6 5 (by omega) (by omega)
      · show (u2 (u2 (u2 (u2 S1.2.1 7 k (S.2.1 106 k)) 8 k (S.2.1 107 k)) 9 k (S.2.1 108 k)) 10 k (S.2.1 109 k)) 106 = S.2.1 106
        rw [u2_ro _ _ _ (show 106 ≠ 10 by decide), u2_ro _ _ _ (show 106 ≠ 9 by decide), u2_ro _ _ _ (show 106 ≠ 8 by decide), u2_ro _ _ _ (show 106 ≠ 7 by decide)]; exact h6 6 (by omega) (by omega)
      · show (u2 (u2 (u2 (u2 S1.2.1 7 k (S.2.1 106 k)) 8 k (S.2.1 107 k)) 9 k (S.2.1 108 k)) 10 k (S.2.1 109 k)) 107 = S.2.1 107
        rw [u2_ro _ _ _ (show 107 ≠ 10 by decide), u2_ro _ _ _ (show 107 ≠ 9 by decide), u2_ro _ _ _ (show 107 ≠ 8 by decide), u2_ro _ _ _ (show 107 ≠ 7 by decide)]; exact h6 7 (by omega) (by omega)
      · show (u2 (u2 (u2 (u2 S1.2.1 7 k (S.2.1 106 k)) 8 k (S.2.1 107 k)) 9 k (S.2.1 108 k)) 10 k (S.2.1 109 k)) 108 = S.2.1 108
        rw [u2_ro _ _ _ (show 108 ≠ 10 by decide), u2_ro _ _ _ (show 108 ≠ 9 by decide), u2_ro _ _ _ (show 108 ≠ 8 by decide), u2_ro _ _ _ (show 108 ≠ 7 by decide)]; exact h6 8 (by omega) (by omega)
      · show (u2 (u2 (u2 (u2 S1.2.1 7 k (S.2.1 106 k)) 8 k (S.2.1 107 k)) 9 k (S.2.1 108 k)) 10 k (S.2.1 109 k)) 109 = S.2.1 109
        rw [u2_ro _ _ _ (show 109 ≠ 10 by decide), u2_ro _ _ _ (show 109 ≠ 9 by decide), u2_ro _ _ _ (show 109 ≠ 8 by decide), u2_ro _ _ _ (show 109 ≠ 7 by decide)]; exact h6 9 (by omega) (by omega)
      · show (u2 (u2 (u2 (u2 S1.2.1 7 k (S.2.1 106 k)) 8 k (S.2.1 107 k)) 9 k (S.2.1 108 k)) 10 k (S.2.1 109 k)) 110 = S.2.1 110
        rw [u2_ro _ _ _ (show 110 ≠ 10 by decide), u2_ro _ _ _ (show 110 ≠ 9 by decide), u2_ro _ _ _ (show 110 ≠ 8 by decide), u2_ro _ _ _ (show 110 ≠ 7 by decide)]; exact h6 10 (by omega) (by omega)
      · show (u2 (u2 (u2 (u2 S1.2.1 7 k (S.2.1 106 k)) 8 k (S.2.1 107 k)) 9 k (S.2.1 108 k)) 10 k (S.2.1 109 k)) 111 = S.2.1 111
        rw [u2_ro _ _ _ (show 111 ≠ 10 by decide), u2_ro _ _ _ (show 111 ≠ 9 by decide), u2_ro _ _ _ (show 111 ≠ 8 by decide), u2_ro _ _ _ (show 111 ≠ 7 by decide)]; exact h6 11 (by omega) (by omega)
      · show (u2 (u2 (u2 (u2 S1.2.1 7 k (S.2.1 106 k)) 8 k (S.2.1 107 k)) 9 k (S.2.1 108 k)) 10 k (S.2.1 109 k)) 112 = S.2.1 112
        rw [u2_ro _ _ _ (show 112 ≠ 10 by decide), u2_ro _ _ _ (show 112 ≠ 9 by decide), u2_ro _ _ _ (show 112 ≠ 8 by decide), u2_ro _ _ _ (show 112 ≠ 7 by decide)]; exact h6 12 (by omega) (by omega)
      · show (u2 (u2 (u2 (u2 S1.2.1 7 k (S.2.1 106 k)) 8 k (S.2.1 107 k)) 9 k (S.2.1 108 k)) 10 k (S.2.1 109 k)) 113 = S.2.1 113
        rw [u2_ro _ _ _ (show 113 ≠ 10 by decide), u2_ro _ _ _ (show 113 ≠ 9 by decide), u2_ro _ _ _ (show 113 ≠ 8 by decide), u2_ro _ _ _ (show 113 ≠ 7 by decide)]; exact h6 13 (by omega) (by omega)
    · exact h7
theorem cpl42_1_100 (x : XT) (S : ST) (hq : ∀ l, l < 6 → qk x (S.2.2.2 114 l) = true) (ho : ∀ g, g < 10 → inb (S.2.1 105 g) 2 = true) : ∀ (m k fuel : Nat) (S1 : ST), k + m = 10 → m < fuel → CI S S1 1 100 k 0 0 0 0 → ∃ S2, lfX7_copyFrom_1_100_42 x fuel S1 (iN k) = some ((), S2) ∧ CI S S2 1 100 10 5 6 3 6
  | 0, k, fuel, S1, hk, hf, h => by
    obtain ⟨fuel, rfl⟩ : ∃ z, fuel = z + 1 := ⟨fuel - 1, by omega⟩
    have : k = 10 := by omega
    subst this
    rw [lfX7_copyFrom_1_100_42, bfX7_copyFrom_1_100_42, if_pos (show (10 : Int32) ≤ iN 10 by decide)]
    rw [show (0 : Int32) = iN 0 from rfl]
    exact cpl116_1_100 x S hq ho 5 0 20000 S1 (by omega) (by omega) h
  | m + 1, k, fuel, S1, hk, hf, h => by
    obtain ⟨fuel, rfl⟩ : ∃ z, fuel = z + 1 := ⟨fuel - 1, by omega⟩
    obtain ⟨h0, h1, h2, h3, h4, h5, h6, h7⟩ := h
    rw [lfX7_copyFrom_1_100_42, bfX7_copyFrom_1_100_42, if_neg (show ¬ (10 : Int32) ≤ iN k from fun hh => by have := (iN_le (m := 10) (by omega) (by omega)).mp hh; omega), inb_t (show k < 10 by omega) (by omega), iN_nat (by omega), iN_succ]
    simp only [cond_true]
    have e1 : S1.2.1 101 = S.2.1 101 := h6 1 (by omega) (by omega)
    have e2 : S1.2.1 102 = S.2.1 102 := h6 2 (by omega) (by omega)
    have e3 : S1.2.1 103 = S.2.1 103 := h6 3 (by omega) (by omega)
    have e4 : S1.2.1 104 = S.2.1 104 := h6 4 (by omega) (by omega)
    have e5 : S1.2.1 105 = S.2.1 105 := h6 5 (by omega) (by omega)
    rw [e1, e2, e3, e4, e5]
    rw [nar_b (ho k (by omega))]
    refine cpl42_1_100 x S hq ho m (k + 1) fuel (S1.1, (u2 (u2 (u2 (u2 (u2 S1.2.1 2 k (S.2.1 101 k)) 3 k (S.2.1 102 k)) 4 k (S.2.1 103 k)) 5 k (S.2.1 104 k)) 6 k (S.2.1 105 k)), S1.2.2.1, S1.2.2.2) (by omega) (by omega) ⟨h0, ?_, ?_, ?_, ?_, ?_, ?_, ?_⟩
    · intro i hi1 hi2
      have hi3 : i = 1 ∨ i = 2 ∨ i = 3 ∨ i = 4 ∨ i = 5 := by omega
      rcases hi3 with rfl | rfl | rfl | rfl | rfl
      · intro j hj
        show (u2 (u2 (u2 (u2 (u2 S1.2.1 2 k (S.2.1 101 k)) 3 k (S.2.1 102 k)) 4 k (S.2.1 103 k)) 5 k (S.2.1 104 k)) 6 k (S.2.1 105 k)) 2 j = S.2.1 101 j
        rw [u2_ro _ _ _ (show 2 ≠ 6 by decide), u2_ro _ _ _ (show 2 ≠ 5 by decide), u2_ro _ _ _ (show 2 ≠ 4 by decide), u2_ro _ _ _ (show 2 ≠ 3 by decide)]
        refine cp1 (B := S.2.1 101) (fun j hj => ?_) rfl j hj
        exact h1 1 (by omega) (by omega) j hj
      · intro j hj
        show (u2 (u2 (u2 (u2 (u2 S1.2.1 2 k (S.2.1 101 k)) 3 k (S.2.1 102 k)) 4 k (S.2.1 103 k)) 5 k (S.2.1 104 k)) 6 k (S.2.1 105 k)) 3 j = S.2.1 102 j
        rw [u2_ro _ _ _ (show 3 ≠ 6 by decide), u2_ro _ _ _ (show 3 ≠ 5 by decide), u2_ro _ _ _ (show 3 ≠ 4 by decide)]
        refine cp1 (B := S.2.1 102) (fun j hj => ?_) rfl j hj
        rw [u2_ro _ _ _ (show 3 ≠ 2 by decide)]
        exact h1 2 (by omega) (by omega) j hj
      · intro j hj
        show (u2 (u2 (u2 (u2 (u2 S1.2.1 2 k (S.2.1 101 k)) 3 k (S.2.1 102 k)) 4 k (S.2.1 103 k)) 5 k (S.2.1 104 k)) 6 k (S.2.1 105 k)) 4 j = S.2.1 103 j
        rw [u2_ro _ _ _ (show 4 ≠ 6 by decide), u2_ro _ _ _ (show 4 ≠ 5 by decide)]
        refine cp1 (B := S.2.1 103) (fun j hj => ?_) rfl j hj
        rw [u2_ro _ _ _ (show 4 ≠ 3 by decide), u2_ro _ _ _ (show 4 ≠ 2 by decide)]
        exact h1 3 (by omega) (by omega) j hj
      · intro j hj
        show (u2 (u2 (u2 (u2 (u2 S1.2.1 2 k (S.2.1 101 k)) 3 k (S.2.1 102 k)) 4 k (S.2.1 103 k)) 5 k (S.2.1 104 k)) 6 k (S.2.1 105 k)) 5 j = S.2.1 104 j
        rw [u2_ro _ _ _ (show 5 ≠ 6 by decide)]
        refine cp1 (B := S.2.1 104) (fun j hj => ?_) rfl j hj
        rw [u2_ro _ _ _ (show 5 ≠ 4 by decide), u2_ro _ _ _ (show 5 ≠ 3 by decide), u2_ro _ _ _ (show 5 ≠ 2 by decide)]
        exact h1 4 (by omega) (by omega) j hj
      · intro j hj
        show (u2 (u2 (u2 (u2 (u2 S1.2.1 2 k (S.2.1 101 k)) 3 k (S.2.1 102 k)) 4 k (S.2.1 103 k)) 5 k (S.2.1 104 k)) 6 k (S.2.1 105 k)) 6 j = S.2.1 105 j
        refine cp1 (B := S.2.1 105) (fun j hj => ?_) rfl j hj
        rw [u2_ro _ _ _ (show 6 ≠ 5 by decide), u2_ro _ _ _ (show 6 ≠ 4 by decide), u2_ro _ _ _ (show 6 ≠ 3 by decide), u2_ro _ _ _ (show 6 ≠ 2 by decide)]
        exact h1 5 (by omega) (by omega) j hj
    · intro i hi1 hi2
      have hi3 : i = 6 ∨ i = 7 ∨ i = 8 ∨ i = 9 := by omega
      rcases hi3 with rfl | rfl | rfl | rfl
      · intro j hj
        show (u2 (u2 (u2 (u2 (u2 S1.2.1 2 k (S.2.1 101 k)) 3 k (S.2.1 102 k)) 4 k (S.2.1 103 k)) 5 k (S.2.1 104 k)) 6 k (S.2.1 105 k)) 7 j = S.2.1 106 j
        rw [u2_ro _ _ _ (show 7 ≠ 6 by decide), u2_ro _ _ _ (show 7 ≠ 5 by decide), u2_ro _ _ _ (show 7 ≠ 4 by decide), u2_ro _ _ _ (show 7 ≠ 3 by decide), u2_ro _ _ _ (show 7 ≠ 2 by decide)]
        exact h2 6 (by omega) (by omega) j hj
      · intro j hj
        show (u2 (u2 (u2 (u2 (u2 S1.2.1 2 k (S.2.1 101 k)) 3 k (S.2.1 102 k)) 4 k (S.2.1 103 k)) 5 k (S.2.1 104 k)) 6 k (S.2.1 105 k)) 8 j = S.2.1 107 j
        rw [u2_ro _ _ _ (show 8 ≠ 6 by decide), u2_ro _ _ _ (show 8 ≠ 5 by decide), u2_ro _ _ _ (show 8 ≠ 4 by decide), u2_ro _ _ _ (show 8 ≠ 3 by decide), u2_ro _ _ _ (show 8 ≠ 2 by decide)]
        exact h2 7 (by omega) (by omega) j hj
      · intro j hj
        show (u2 (u2 (u2 (u2 (u2 S1.2.1 2 k (S.2.1 101 k)) 3 k (S.2.1 102 k)) 4 k (S.2.1 103 k)) 5 k (S.2.1 104 k)) 6 k (S.2.1 105 k)) 9 j = S.2.1 108 j
        rw [u2_ro _ _ _ (show 9 ≠ 6 by decide), u2_ro _ _ _ (show 9 ≠ 5 by decide), u2_ro _ _ _ (show 9 ≠ 4 by decide), u2_ro _ _ _ (show 9 ≠ 3 by decide), u2_ro _ _ _ (show 9 ≠ 2 by decide)]
        exact h2 8 (by omega) (by omega) j hj
      · intro j hj
        show (u2 (u2 (u2 (u2 (u2 S1.2.1 2 k (S.2.1 101 k)) 3 k (S.2.1 102 k)) 4 k (S.2.1 103 k)) 5 k (S.2.1 104 k)) 6 k (S.2.1 105 k)) 10 j = S.2.1 109 j
        rw [u2_ro _ _ _ (show 10 ≠ 6 by decide), u2_ro _ _ _ (show 10 ≠ 5 by decide), u2_ro _ _ _ (show 10 ≠ 4 by decide), u2_ro _ _ _ (show 10 ≠ 3 by decide), u2_ro _ _ _ (show 10 ≠ 2 by decide)]
        exact h2 9 (by omega) (by omega) j hj
    · intro i hi1 hi2
      have hi3 : i = 10 ∨ i = 11 ∨ i = 12 := by omega
      rcases hi3 with rfl | rfl | rfl
      · intro j hj
        show (u2 (u2 (u2 (u2 (u2 S1.2.1 2 k (S.2.1 101 k)) 3 k (S.2.1 102 k)) 4 k (S.2.1 103 k)) 5 k (S.2.1 104 k)) 6 k (S.2.1 105 k)) 11 j = S.2.1 110 j
        rw [u2_ro _ _ _ (show 11 ≠ 6 by decide), u2_ro _ _ _ (show 11 ≠ 5 by decide), u2_ro _ _ _ (show 11 ≠ 4 by decide), u2_ro _ _ _ (show 11 ≠ 3 by decide), u2_ro _ _ _ (show 11 ≠ 2 by decide)]
        exact h3 10 (by omega) (by omega) j hj
      · intro j hj
        show (u2 (u2 (u2 (u2 (u2 S1.2.1 2 k (S.2.1 101 k)) 3 k (S.2.1 102 k)) 4 k (S.2.1 103 k)) 5 k (S.2.1 104 k)) 6 k (S.2.1 105 k)) 12 j = S.2.1 111 j
        rw [u2_ro _ _ _ (show 12 ≠ 6 by decide), u2_ro _ _ _ (show 12 ≠ 5 by decide), u2_ro _ _ _ (show 12 ≠ 4 by decide), u2_ro _ _ _ (show 12 ≠ 3 by decide), u2_ro _ _ _ (show 12 ≠ 2 by decide)]
        exact h3 11 (by omega) (by omega) j hj
      · intro j hj
        show (u2 (u2 (u2 (u2 (u2 S1.2.1 2 k (S.2.1 101 k)) 3 k (S.2.1 102 k)) 4 k (S.2.1 103 k)) 5 k (S.2.1 104 k)) 6 k (S.2.1 105 k)) 13 j = S.2.1 112 j
        rw [u2_ro _ _ _ (show 13 ≠ 6 by decide), u2_ro _ _ _ (show 13 ≠ 5 by decide), u2_ro _ _ _ (show 13 ≠ 4 by decide), u2_ro _ _ _ (show 13 ≠ 3 by decide), u2_ro _ _ _ (show 13 ≠ 2 by decide)]
        exact h3 12 (by omega) (by omega) j hj
    · intro j hj
      show (u2 (u2 (u2 (u2 (u2 S1.2.1 2 k (S.2.1 101 k)) 3 k (S.2.1 102 k)) 4 k (S.2.1 103 k)) 5 k (S.2.1 104 k)) 6 k (S.2.1 105 k)) 14 j = S.2.1 113 j
      rw [u2_ro _ _ _ (show 14 ≠ 6 by decide), u2_ro _ _ _ (show 14 ≠ 5 by decide), u2_ro _ _ _ (show 14 ≠ 4 by decide), u2_ro _ _ _ (show 14 ≠ 3 by decide), u2_ro _ _ _ (show 14 ≠ 2 by decide)]
      exact h4 j hj
    · exact h5
    · intro i hi1 hi2
      have hi3 : i = 1 ∨ i = 2 ∨ i = 3 ∨ i = 4 ∨ i = 5 ∨ i = 6 ∨ i = 7 ∨ i = 8 ∨ i = 9 ∨ i = 10 ∨ i = 11 ∨ i = 12 ∨ i = 13 := by omega
      rcases hi3 with rfl | rfl | rfl | rfl | rfl | rfl | rfl | rfl | rfl | rfl | rfl | rfl | rfl
      · show (u2 (u2 (u2 (u2 (u2 S1.2.1 2 k (S.2.1 101 k)) 3 k (S.2.1 102 k)) 4 k (S.2.1 103 k)) 5 k (S.2.1 104 k)) 6 k (S.2.1 105 k)) 101 = S.2.1 101
        rw [u2_ro _ _ _ (show 101 ≠ 6 by decide), u2_ro _ _ _ (show 101 ≠ 5 by decide), u2_ro _ _ _ (show 101 ≠ 4 by decide), u2_ro _ _ _ (show 101 ≠ 3 by decide), u2_ro _ _ _ (show 101 ≠ 2 by decide)]; exact h6 1 (by omega) (by omega)
      · show (u2 (u2 (u2 (u2 (u2 S1.2.1 2 k (S.2.1 101 k)) 3 k (S.2.1 102 k)) 4 k (S.2.1 103 k)) 5 k (S.2.1 104 k)) 6 k (S.2.1 105 k)) 102 = S.2.1 102
        rw [u2_ro _ _ _ (show 102 ≠ 6 by decide), u2_ro _ _ _ (show 102 ≠ 5 by decide), u2_ro _ _ _ (show 102 ≠ 4 by decide), u2_ro _ _ _ (show 102 ≠ 3 by decide), u2_ro _ _ _ (show 102 ≠ 2 by decide)]; exact h6 2 (by omega) (by omega)
      · show (u2 (u2 (u2 (u2 (u2 S1.2.1 2 k (S.2.1 101 k)) 3 k (S.2.1 102 k)) 4 k (S.2.1 103 k)) 5 k (S.2.1 104 k)) 6 k (S.2.1 105 k)) 103 = S.2.1 103
        rw [u2_ro _ _ _ (show 103 ≠ 6 by decide), u2_ro _ _ _ (show 103 ≠ 5 by decide), u2_ro _ _ _ (show 103 ≠ 4 by decide), u2_ro _ _ _ (show 103 ≠ 3 by decide), u2_ro _ _ _ (show 103 ≠ 2 by decide)]; exact h6 3 (by omega) (by omega)
      · show (u2 (u2 (u2 (u2 (u2 S1.2.1 2 k (S.2.1 101 k)) 3 k (S.2.1 102 k)) 4 k (S.2.1 103 k)) 5 k (S.2.1 104 k)) 6 k (S.2.1 105 k)) 104 = S.2.1 104
        rw [u2_ro _ _ _ (show 104 ≠ 6 by decide), u2_ro _ _ _ (show 104 ≠ 5 by decide), u2_ro _ _ _ (show 104 ≠ 4 by decide), u2_ro _ _ _ (show 104 ≠ 3 by decide), u2_ro _ _ _ (show 104 ≠ 2 by decide)]; exact h6 4 (by omega) (by omega)
      · show (u2 (u2 (u2 (u2 (u2 S1.2.1 2 k (S.2.1 101 k)) 3 k (S.2.1 102 k)) 4 k (S.2.1 103 k)) 5 k (S.2.1 104 k)) 6 k (S.2.1 105 k)) 105 = S.2.1 105
        rw [u2_ro _ _ _ (show 105 ≠ 6 by decide), u2_ro _ _ _ (show 105 ≠ 5 by decide), u2_ro _ _ _ (show 105 ≠ 4 by decide), u2_ro _ _ _ (show 105 ≠ 3 by decide), u2_ro _ _ _ (show 105 ≠ 2 by decide)]; exact h6 5 (by omega) (by omega)
      · show (u2 (u2 (u2 (u2 (u2 S1.2.1 2 k (S.2.1 101 k)) 3 k (S.2.1 102 k)) 4 k (S.2.1 103 k)) 5 k (S.2.1 104 k)) 6 k (S.2.1 105 k)) 106 = S.2.1 106
        rw [u2_ro _ _ _ (show 106 ≠ 6 by decide), u2_ro _ _ _ (show 106 ≠ 5 by decide), u2_ro _ _ _ (show 106 ≠ 4 by decide), u2_ro _ _ _ (show 106 ≠ 3 by decide), u2_ro _ _ _ (show 106 ≠ 2 by decide)]; exact h6 6 (by omega) (by omega)
      · show (u2 (u2 (u2 (u2 (u2 S1.2.1 2 k (S.2.1 101 k)) 3 k (S.2.1 102 k)) 4 k (S.2.1 103 k)) 5 k (S.2.1 104 k)) 6 k (S.2.1 105 k)) 107 = S.2.1 107
        rw [u2_ro _ _ _ (show 107 ≠ 6 by decide), u2_ro _ _ _ (show 107 ≠ 5 by decide), u2_ro _ _ _ (show 107 ≠ 4 by decide), u2_ro _ _ _ (show 107 ≠ 3 by decide), u2_ro _ _ _ (show 107 ≠ 2 by decide)]; exact h6 7 (by omega) (by omega)
      · show (u2 (u2 (u2 (u2 (u2 S1.2.1 2 k (S.2.1 101 k)) 3 k (S.2.1 102 k)) 4 k (S.2.1 103 k)) 5 k (S.2.1 104 k)) 6 k (S.2.1 105 k)) 108 = S.2.1 108
        rw [u2_ro _ _ _ (show 108 ≠ 6 by decide), u2_ro _ _ _ (show 108 ≠ 5 by decide), u2_ro _ _ _ (show 108 ≠ 4 by decide), u2_ro _ _ _ (show 108 ≠ 3 by decide), u2_ro _ _ _ (show 108 ≠ 2 by decide)]; exact h6 8 (by omega) (by omega)
      · show (u2 (u2 (u2 (u2 (u2 S1.2.1 2 k (S.2.1 101 k)) 3 k (S.2.1 102 k)) 4 k (S.2.1 103 k)) 5 k (S.2.1 104 k)) 6 k (S.2.1 105 k)) 109 = S.2.1 109
        rw [u2_ro _ _ _ (show 109 ≠ 6 by decide), u2_ro _ _ _ (show 109 ≠ 5 by decide), u2_ro _ _ _ (show 109 ≠ 4 by decide), u2_ro _ _ _ (show 109 ≠ 3 by decide), u2_ro _ _ _ (show 109 ≠ 2 by decide)]; exact h6 9 (by omega) (by omega)
      · show (u2 (u2 (u2 (u2 (u2 S1.2.1 2 k (S.2.1 101 k)) 3 k (S.2.1 102 k)) 4 k (S.2.1 103 k)) 5 k (S.2.1 104 k)) 6 k (S.2.1 105 k)) 110 = S.2.1 110
        rw [u2_ro _ _ _ (show 110 ≠ 6 by decide), u2_ro _ _ _ (show 110 ≠ 5 by decide), u2_ro _ _ _ (show 110 ≠ 4 by decide), u2_ro _ _ _ (show 110 ≠ 3 by decide), u2_ro _ _ _ (show 110 ≠ 2 by decide)]; exact h6 10 (by omega) (by omega)
      · show (u2 (u2 (u2 (u2 (u2 S1.2.1 2 k (S.2.1 101 k)) 3 k (S.2.1 102 k)) 4 k (S.2.1 103 k)) 5 k (S.2.1 104 k)) 6 k (S.2.1 105 k)) 111 = S.2.1 111
        rw [u2_ro _ _ _ (show 111 ≠ 6 by decide), u2_ro _ _ _ (show 111 ≠ 5 by decide), u2_ro _ _ _ (show 111 ≠ 4 by decide), u2_ro _ _ _ (show 111 ≠ 3 by decide), u2_ro _ _ _ (show 111 ≠ 2 by decide)]; exact h6 11 (by omega) (by omega)
      · show (u2 (u2 (u2 (u2 (u2 S1.2.1 2 k (S.2.1 101 k)) 3 k (S.2.1 102 k)) 4 k (S.2.1 103 k)) 5 k (S.2.1 104 k)) 6 k (S.2.1 105 k)) 112 = S.2.1 112
        rw [u2_ro _ _ _ (show 112 ≠ 6 by decide), u2_ro _ _ _ (show 112 ≠ 5 by decide), u2_ro _ _ _ (show 112 ≠ 4 by decide), u2_ro _ _ _ (show 112 ≠ 3 by decide), u2_ro _ _ _ (show 112 ≠ 2 by decide)]; exact h6 12 (by omega) (by omega)
      · show (u2 (u2 (u2 (u2 (u2 S1.2.1 2 k (S.2.1 101 k)) 3 k (S.2.1 102 k)) 4 k (S.2.1 103 k)) 5 k (S.2.1 104 k)) 6 k (S.2.1 105 k)) 113 = S.2.1 113
        rw [u2_ro _ _ _ (show 113 ≠ 6 by decide), u2_ro _ _ _ (show 113 ≠ 5 by decide), u2_ro _ _ _ (show 113 ≠ 4 by decide), u2_ro _ _ _ (show 113 ≠ 3 by decide), u2_ro _ _ _ (show 113 ≠ 2 by decide)]; exact h6 13 (by omega) (by omega)
    · exact h7
theorem copy1_100 (x : XT) (S : ST) (hq : ∀ l, l < 6 → qk x (S.2.2.2 114 l) = true) (ho : ∀ g, g < 10 → inb (S.2.1 105 g) 2 = true) : ∃ S2, gfX7_copyFrom_1_100 x S = some ((), S2) ∧ CI S S2 1 100 10 5 6 3 6 := by
  unfold gfX7_copyFrom_1_100 bfX7_copyFrom_1_100_0
  rw [show (0 : Int32) = iN 0 from rfl]
  refine cpl42_1_100 x S hq ho 10 0 20000 _ (by omega) (by omega) ⟨⟨?_, ?_, ?_, ?_, ?_⟩, fun i _ _ j hj => by omega, fun i _ _ j hj => by omega, fun i _ _ j hj => by omega, fun j hj => by omega, fun j hj => by omega, fun _ _ _ => rfl, rfl⟩
  · show (u2 (u2 (u2 (u2 (u2 S.1 1 0 (S.1 100 0)) 1 6 (S.1 100 6)) 1 11 (S.1 100 11)) 1 16 (S.1 100 16)) 1 18 (S.1 100 18)) 1 0 = _
    rw [u2_k _ _ _ (show 0 ≠ 18 by decide), u2_k _ _ _ (show 0 ≠ 16 by decide), u2_k _ _ _ (show 0 ≠ 11 by decide), u2_k _ _ _ (show 0 ≠ 6 by decide), u2_s]
  · show (u2 (u2 (u2 (u2 (u2 S.1 1 0 (S.1 100 0)) 1 6 (S.1 100 6)) 1 11 (S.1 100 11)) 1 16 (S.1 100 16)) 1 18 (S.1 100 18)) 1 6 = _
    rw [u2_k _ _ _ (show 6 ≠ 18 by decide), u2_k _ _ _ (show 6 ≠ 16 by decide), u2_k _ _ _ (show 6 ≠ 11 by decide), u2_s]
  · show (u2 (u2 (u2 (u2 (u2 S.1 1 0 (S.1 100 0)) 1 6 (S.1 100 6)) 1 11 (S.1 100 11)) 1 16 (S.1 100 16)) 1 18 (S.1 100 18)) 1 11 = _
    rw [u2_k _ _ _ (show 11 ≠ 18 by decide), u2_k _ _ _ (show 11 ≠ 16 by decide), u2_s]
  · show (u2 (u2 (u2 (u2 (u2 S.1 1 0 (S.1 100 0)) 1 6 (S.1 100 6)) 1 11 (S.1 100 11)) 1 16 (S.1 100 16)) 1 18 (S.1 100 18)) 1 16 = _
    rw [u2_k _ _ _ (show 16 ≠ 18 by decide), u2_s]
  · show (u2 (u2 (u2 (u2 (u2 S.1 1 0 (S.1 100 0)) 1 6 (S.1 100 6)) 1 11 (S.1 100 11)) 1 16 (S.1 100 16)) 1 18 (S.1 100 18)) 1 18 = _
    rw [u2_s]
theorem cpl252_1_115 (x : XT) (S : ST) (hq : ∀ l, l < 6 → qk x (S.2.2.2 129 l) = true) (ho : ∀ g, g < 10 → inb (S.2.1 120 g) 2 = true) : ∀ (m k fuel : Nat) (S1 : ST), k + m = 6 → m < fuel → CI S S1 1 115 10 5 6 3 k → ∃ S2, lfX7_copyFrom_1_115_252 x fuel S1 (iN k) = some ((), S2) ∧ CI S S2 1 115 10 5 6 3 6
  | 0, k, fuel, S1, hk, hf, h => by
    obtain ⟨fuel, rfl⟩ : ∃ z, fuel = z + 1 := ⟨fuel - 1, by omega⟩
    have : k = 6 := by omega
    subst this
    rw [lfX7_copyFrom_1_115_252, bfX7_copyFrom_1_115_252, if_pos (show (6 : Int32) ≤ iN 6 by decide)]
    exact ⟨S1, rfl, h⟩
  | m + 1, k, fuel, S1, hk, hf, h => by
    obtain ⟨fuel, rfl⟩ : ∃ z, fuel = z + 1 := ⟨fuel - 1, by omega⟩
    obtain ⟨h0, h1, h2, h3, h4, h5, h6, h7⟩ := h
    rw [lfX7_copyFrom_1_115_252, bfX7_copyFrom_1_115_252, if_neg (show ¬ (6 : Int32) ≤ iN k from fun hh => by have := (iN_le (m := 6) (by omega) (by omega)).mp hh; omega), inb_t (show k < 6 by omega) (by omega), iN_nat (by omega), iN_succ]
    simp only [cond_true]
    have e7 : S1.2.2.2 129 = S.2.2.2 129 := h7
    rw [e7, hq k (by omega), cond_true]
    refine cpl252_1_115 x S hq ho m (k + 1) fuel (S1.1, S1.2.1, S1.2.2.1, u2 S1.2.2.2 15 k (S.2.2.2 129 k)) (by omega) (by omega) ⟨h0, ?_, ?_, ?_, ?_, ?_, ?_, ?_⟩
    · exact h1
    · exact h2
    · exact h3
    · exact h4
    · exact cp1 (A := S1.2.2.2) (B := S.2.2.2 129) h5 rfl
    · exact h6
    · show u2 S1.2.2.2 15 k (S.2.2.2 129 k) 129 = _
      rw [u2_ro _ _ _ (show 129 ≠ 15 by decide)]; exact h7
theorem cpl227_1_115 (x : XT) (S : ST) (hq : ∀ l, l < 6 → qk x (S.2.2.2 129 l) = true) (ho : ∀ g, g < 10 → inb (S.2.1 120 g) 2 = true) : ∀ (m k fuel : Nat) (S1 : ST), k + m = 3 → m < fuel → CI S S1 1 115 10 5 6 k 0 → ∃ S2, lfX7_copyFrom_1_115_227 x fuel S1 (iN k) = some ((), S2) ∧ CI S S2 1 115 10 5 6 3 6
  | 0, k, fuel, S1, hk, hf, h => by
    obtain ⟨fuel, rfl⟩ : ∃ z, fuel = z + 1 := ⟨fuel - 1, by omega⟩
    have : k = 3 := by omega
    subst this
    rw [lfX7_copyFrom_1_115_227, bfX7_copyFrom_1_115_227, if_pos (show (3 : Int32) ≤ iN 3 by decide)]
    rw [show (0 : Int32) = iN 0 from rfl]
    exact cpl252_1_115 x S hq ho 6 0 20000 S1 (by omega) (by omega) h
  | m + 1, k, fuel, S1, hk, hf, h => by
    obtain ⟨fuel, rfl⟩ : ∃ z, fuel = z + 1 := ⟨fuel - 1, by omega⟩
    obtain ⟨h0, h1, h2, h3, h4, h5, h6, h7⟩ := h
    rw [lfX7_copyFrom_1_115_227, bfX7_copyFrom_1_115_227, if_neg (show ¬ (3 : Int32) ≤ iN k from fun hh => by have := (iN_le (m := 3) (by omega) (by omega)).mp hh; omega), inb_t (show k < 3 by omega) (by omega), iN_nat (by omega), iN_succ]
    simp only [cond_true]
    have e13 : S1.2.1 128 = S.2.1 128 := h6 13 (by omega) (by omega)
    rw [e13]
    refine cpl227_1_115 x S hq ho m (k + 1) fuel (S1.1, (u2 S1.2.1 14 k (S.2.1 128 k)), S1.2.2.1, S1.2.2.2) (by omega) (by omega) ⟨h0, ?_, ?_, ?_, ?_, ?_, ?_, ?_⟩
    · intro i hi1 hi2
      have hi3 : i = 1 ∨ i = 2 ∨ i = 3 ∨ i = 4 ∨ i = 5 := by omega
      rcases hi3 with rfl | rfl | rfl | rfl | rfl
      · intro j hj
        show (u2 S1.2.1 14 k (S.2.1 128 k)) 2 j = S.2.1 116 j
        rw [u2_ro _ _ _ (show 2 ≠ 14 by decide)]
        exact h1 1 (by omega) (by omega) j hj
      · intro j hj
        show (u2 S1.2.1 14 k (S.2.1 128 k)) 3 j = S.2.1 117 j
        rw [u2_ro _ _ _ (show 3 ≠ 14 by decide)]
        exact h1 2 (by omega) (by omega) j hj
      · intro j hj
        show (u2 S1.2.1 14 k (S.2.1 128 k)) 4 j = S.2.1 118 j
        rw [u2_ro _ _ _ (show 4 ≠ 14 by decide)]
        exact h1 3 (by omega) (by omega) j hj
      · intro j hj
        show (u2 S1.2.1 14 k (S.2.1 128 k)) 5 j = S.2.1 119 j
        rw [u2_ro _ _ _ (show 5 ≠ 14 by decide)]
        exact h1 4 (by omega) (by omega) j hj
      · intro j hj
        show (u2 S1.2.1 14 k (S.2.1 128 k)) 6 j = S.2.1 120 j
        rw [u2_ro _ _ _ (show 6 ≠ 14 by decide)]
        exact h1 5 (by omega) (by omega) j hj
    · intro i hi1 hi2
      have hi3 : i = 6 ∨ i = 7 ∨ i = 8 ∨ i = 9 := by omega
      rcases hi3 with rfl | rfl | rfl | rfl
      · intro j hj
        show (u2 S1.2.1 14 k (S.2.1 128 k)) 7 j = S.2.1 121 j
        rw [u2_ro _ _ _ (show 7 ≠ 14 by decide)]
        exact h2 6 (by omega) (by omega) j hj
      · intro j hj
        show (u2 S1.2.1 14 k (S.2.1 128 k)) 8 j = S.2.1 122 j
        rw [u2_ro _ _ _ (show 8 ≠ 14 by decide)]
        exact h2 7 (by omega) (by omega) j hj
      · intro j hj
        show (u2 S1.2.1 14 k (S.2.1 128 k)) 9 j = S.2.1 123 j
        rw [u2_ro _ _ _ (show 9 ≠ 14 by decide)]
        exact h2 8 (by omega) (by omega) j hj
      · intro j hj
        show (u2 S1.2.1 14 k (S.2.1 128 k)) 10 j = S.2.1 124 j
        rw [u2_ro _ _ _ (show 10 ≠ 14 by decide)]
        exact h2 9 (by omega) (by omega) j hj
    · intro i hi1 hi2
      have hi3 : i = 10 ∨ i = 11 ∨ i = 12 := by omega
      rcases hi3 with rfl | rfl | rfl
      · intro j hj
        show (u2 S1.2.1 14 k (S.2.1 128 k)) 11 j = S.2.1 125 j
        rw [u2_ro _ _ _ (show 11 ≠ 14 by decide)]
        exact h3 10 (by omega) (by omega) j hj
      · intro j hj
        show (u2 S1.2.1 14 k (S.2.1 128 k)) 12 j = S.2.1 126 j
        rw [u2_ro _ _ _ (show 12 ≠ 14 by decide)]
        exact h3 11 (by omega) (by omega) j hj
      · intro j hj
        show (u2 S1.2.1 14 k (S.2.1 128 k)) 13 j = S.2.1 127 j
        rw [u2_ro _ _ _ (show 13 ≠ 14 by decide)]
        exact h3 12 (by omega) (by omega) j hj
    · exact cp1 (A := S1.2.1) (B := S.2.1 128) h4 rfl
    · exact h5
    · intro i hi1 hi2
      have hi3 : i = 1 ∨ i = 2 ∨ i = 3 ∨ i = 4 ∨ i = 5 ∨ i = 6 ∨ i = 7 ∨ i = 8 ∨ i = 9 ∨ i = 10 ∨ i = 11 ∨ i = 12 ∨ i = 13 := by omega
      rcases hi3 with rfl | rfl | rfl | rfl | rfl | rfl | rfl | rfl | rfl | rfl | rfl | rfl | rfl
      · show (u2 S1.2.1 14 k (S.2.1 128 k)) 116 = S.2.1 116
        rw [u2_ro _ _ _ (show 116 ≠ 14 by decide)]; exact h6 1 (by omega) (by omega)
      · show (u2 S1.2.1 14 k (S.2.1 128 k)) 117 = S.2.1 117
        rw [u2_ro _ _ _ (show 117 ≠ 14 by decide)]; exact h6 2 (by omega) (by omega)
      · show (u2 S1.2.1 14 k (S.2.1 128 k)) 118 = S.2.1 118
        rw [u2_ro _ _ _ (show 118 ≠ 14 by decide)]; exact h6 3 (by omega) (by omega)
      · show (u2 S1.2.1 14 k (S.2.1 128 k)) 119 = S.2.1 119
        rw [u2_ro _ _ _ (show 119 ≠ 14 by decide)]; exact h6 4 (by omega) (by omega)
      · show (u2 S1.2.1 14 k (S.2.1 128 k)) 120 = S.2.1 120
        rw [u2_ro _ _ _ (show 120 ≠ 14 by decide)]; exact h6 5 (by omega) (by omega)
      · show (u2 S1.2.1 14 k (S.2.1 128 k)) 121 = S.2.1 121
        rw [u2_ro _ _ _ (show 121 ≠ 14 by decide)]; exact h6 6 (by omega) (by omega)
      · show (u2 S1.2.1 14 k (S.2.1 128 k)) 122 = S.2.1 122
        rw [u2_ro _ _ _ (show 122 ≠ 14 by decide)]; exact h6 7 (by omega) (by omega)
      · show (u2 S1.2.1 14 k (S.2.1 128 k)) 123 = S.2.1 123
        rw [u2_ro _ _ _ (show 123 ≠ 14 by decide)]; exact h6 8 (by omega) (by omega)
      · show (u2 S1.2.1 14 k (S.2.1 128 k)) 124 = S.2.1 124
        rw [u2_ro _ _ _ (show 124 ≠ 14 by decide)]; exact h6 9 (by omega) (by omega)
      · show (u2 S1.2.1 14 k (S.2.1 128 k)) 125 = S.2.1 125
        rw [u2_ro _ _ _ (show 125 ≠ 14 by decide)]; exact h6 10 (by omega) (by omega)
      · show (u2 S1.2.1 14 k (S.2.1 128 k)) 126 = S.2.1 126
        rw [u2_ro _ _ _ (show 126 ≠ 14 by decide)]; exact h6 11 (by omega) (by omega)
      · show (u2 S1.2.1 14 k (S.2.1 128 k)) 127 = S.2.1 127
        rw [u2_ro _ _ _ (show 127 ≠ 14 by decide)]; exact h6 12 (by omega) (by omega)
      · show (u2 S1.2.1 14 k (S.2.1 128 k)) 128 = S.2.1 128
        rw [u2_ro _ _ _ (show 128 ≠ 14 by decide)]; exact h6 13 (by omega) (by omega)
    · exact h7
theorem cpl177_1_115 (x : XT) (S : ST) (hq : ∀ l, l < 6 → qk x (S.2.2.2 129 l) = true) (ho : ∀ g, g < 10 → inb (S.2.1 120 g) 2 = true) : ∀ (m k fuel : Nat) (S1 : ST), k + m = 6 → m < fuel → CI S S1 1 115 10 5 k 0 0 → ∃ S2, lfX7_copyFrom_1_115_177 x fuel S1 (iN k) = some ((), S2) ∧ CI S S2 1 115 10 5 6 3 6
  | 0, k, fuel, S1, hk, hf, h => by
    obtain ⟨fuel, rfl⟩ : ∃ z, fuel = z + 1 := ⟨fuel - 1, by omega⟩
    have : k = 6 := by omega
    subst this
    rw [lfX7_copyFrom_1_115_177, bfX7_copyFrom_1_115_177, if_pos (show (6 : Int32) ≤ iN 6 by decide)]
    rw [show (0 : Int32) = iN 0 from rfl]
    exact cpl227_1_115 x S hq ho 3 0 20000 S1 (by omega) (by omega) h
  | m + 1, k, fuel, S1, hk, hf, h => by
    obtain ⟨fuel, rfl⟩ : ∃ z, fuel = z + 1 := ⟨fuel - 1, by omega⟩
    obtain ⟨h0, h1, h2, h3, h4, h5, h6, h7⟩ := h
    rw [lfX7_copyFrom_1_115_177, bfX7_copyFrom_1_115_177, if_neg (show ¬ (6 : Int32) ≤ iN k from fun hh => by have := (iN_le (m := 6) (by omega) (by omega)).mp hh; omega), inb_t (show k < 6 by omega) (by omega), iN_nat (by omega), iN_succ]
    simp only [cond_true]
    have e10 : S1.2.1 125 = S.2.1 125 := h6 10 (by omega) (by omega)
    have e11 : S1.2.1 126 = S.2.1 126 := h6 11 (by omega) (by omega)
    have e12 : S1.2.1 127 = S.2.1 127 := h6 12 (by omega) (by omega)
    rw [e10, e11, e12]
    refine cpl177_1_115 x S hq ho m (k + 1) fuel (S1.1, (u2 (u2 (u2 S1.2.1 11 k (S.2.1 125 k)) 12 k (S.2.1 126 k)) 13 k (S.2.1 127 k)), S1.2.2.1, S1.2.2.2) (by omega) (by omega) ⟨h0, ?_, ?_, ?_, ?_, ?_, ?_, ?_⟩
    · intro i hi1 hi2
      have hi3 : i = 1 ∨ i = 2 ∨ i = 3 ∨ i = 4 ∨ i = 5 := by omega
      rcases hi3 with rfl | rfl | rfl | rfl | rfl
      · intro j hj
        show (u2 (u2 (u2 S1.2.1 11 k (S.2.1 125 k)) 12 k (S.2.1 126 k)) 13 k (S.2.1 127 k)) 2 j = S.2.1 116 j
        rw [u2_ro _ _ _ (show 2 ≠ 13 by decide), u2_ro _ _ _ (show 2 ≠ 12 by decide), u2_ro _ _ _ (show 2 ≠ 11 by decide)]
        exact h1 1 (by omega) (by omega) j hj
      · intro j hj
        show (u2 (u2 (u2 S1.2.1 11 k (S.2.1 125 k)) 12 k (S.2.1 126 k)) 13 k (S.2.1 127 k)) 3 j = S.2.1 117 j
        rw [u2_ro _ _ _ (show 3 ≠ 13 by decide), u2_ro _ _ _ (show 3 ≠ 12 by decide), u2_ro _ _ _ (show 3 ≠ 11 by decide)]
        exact h1 2 (by omega) (by omega) j hj
      · intro j hj
        show (u2 (u2 (u2 S1.2.1 11 k (S.2.1 125 k)) 12 k (S.2.1 126 k)) 13 k (S.2.1 127 k)) 4 j = S.2.1 118 j
        rw [u2_ro _ _ _ (show 4 ≠ 13 by decide), u2_ro _ _ _ (show 4 ≠ 12 by decide), u2_ro _ _ _ (show 4 ≠ 11 by decide)]
        exact h1 3 (by omega) (by omega) j hj
      · intro j hj
        show (u2 (u2 (u2 S1.2.1 11 k (S.2.1 125 k)) 12 k (S.2.1 126 k)) 13 k (S.2.1 127 k)) 5 j = S.2.1 119 j
        rw [u2_ro _ _ _ (show 5 ≠ 13 by decide), u2_ro _ _ _ (show 5 ≠ 12 by decide), u2_ro _ _ _ (show 5 ≠ 11 by decide)]
        exact h1 4 (by omega) (by omega) j hj
      · intro j hj
        show (u2 (u2 (u2 S1.2.1 11 k (S.2.1 125 k)) 12 k (S.2.1 126 k)) 13 k (S.2.1 127 k)) 6 j = S.2.1 120 j
        rw [u2_ro _ _ _ (show 6 ≠ 13 by decide), u2_ro _ _ _ (show 6 ≠ 12 by decide), u2_ro _ _ _ (show 6 ≠ 11 by decide)]
        exact h1 5 (by omega) (by omega) j hj
    · intro i hi1 hi2
      have hi3 : i = 6 ∨ i = 7 ∨ i = 8 ∨ i = 9 := by omega
      rcases hi3 with rfl | rfl | rfl | rfl
      · intro j hj
        show (u2 (u2 (u2 S1.2.1 11 k (S.2.1 125 k)) 12 k (S.2.1 126 k)) 13 k (S.2.1 127 k)) 7 j = S.2.1 121 j
        rw [u2_ro _ _ _ (show 7 ≠ 13 by decide), u2_ro _ _ _ (show 7 ≠ 12 by decide), u2_ro _ _ _ (show 7 ≠ 11 by decide)]
        exact h2 6 (by omega) (by omega) j hj
      · intro j hj
        show (u2 (u2 (u2 S1.2.1 11 k (S.2.1 125 k)) 12 k (S.2.1 126 k)) 13 k (S.2.1 127 k)) 8 j = S.2.1 122 j
        rw [u2_ro _ _ _ (show 8 ≠ 13 by decide), u2_ro _ _ _ (show 8 ≠ 12 by decide), u2_ro _ _ _ (show 8 ≠ 11 by decide)]
        exact h2 7 (by omega) (by omega) j hj
      · intro j hj
        show (u2 (u2 (u2 S1.2.1 11 k (S.2.1 125 k)) 12 k (S.2.1 126 k)) 13 k (S.2.1 127 k)) 9 j = S.2.1 123 j
        rw [u2_ro _ _ _ (show 9 ≠ 13 by decide), u2_ro _ _ _ (show 9 ≠ 12 by decide), u2_ro _ _ _ (show 9 ≠ 11 by decide)]
        exact h2 8 (by omega) (by omega) j hj
      · intro j hj
        show (u2 (u2 (u2 S1.2.1 11 k (S.2.1 125 k)) 12 k (S.2.1 126 k)) 13 k (S.2.1 127 k)) 10 j = S.2.1 124 j
        rw [u2_ro _ _ _ (show 10 ≠ 13 by decide), u2_ro _ _ _ (show 10 ≠ 12 by decide), u2_ro _ _ _ (show 10 ≠ 11 by decide)]
        exact h2 9 (by omega) (by omega) j hj
    · intro i hi1 hi2
      have hi3 : i = 10 ∨ i = 11 ∨ i = 12 := by omega
      rcases hi3 with rfl | rfl | rfl
      · intro j hj
        show (u2 (u2 (u2 S1.2.1 11 k (S.2.1 125 k)) 12 k (S.2.1 126 k)) 13 k (S.2.1 127 k)) 11 j = S.2.1 125 j
        rw [u2_ro _ _ _ (show 11 ≠ 13 by decide), u2_ro _ _ _ (show 11 ≠ 12 by decide)]
        refine cp1 (B := S.2.1 125) (fun j hj => ?_) rfl j hj
        exact h3 10 (by omega) (by omega) j hj
      · intro j hj
        show (u2 (u2 (u2 S1.2.1 11 k (S.2.1 125 k)) 12 k (S.2.1 126 k)) 13 k (S.2.1 127 k)) 12 j = S.2.1 126 j
        rw [u2_ro _ _ _ (show 12 ≠ 13 by decide)]
        refine cp1 (B := S.2.1 126) (fun j hj => ?_) rfl j hj
        rw [u2_ro _ _ _ (show 12 ≠ 11 by decide)]
        exact h3 11 (by omega) (by omega) j hj
      · intro j hj
        show (u2 (u2 (u2 S1.2.1 11 k (S.2.1 125 k)) 12 k (S.2.1 126 k)) 13 k (S.2.1 127 k)) 13 j = S.2.1 127 j
        refine cp1 (B := S.2.1 127) (fun j hj => ?_) rfl j hj
        rw [u2_ro _ _ _ (show 13 ≠ 12 by decide), u2_ro _ _ _ (show 13 ≠ 11 by decide)]
        exact h3 12 (by omega) (by omega) j hj
    · intro j hj
      show (u2 (u2 (u2 S1.2.1 11 k (S.2.1 125 k)) 12 k (S.2.1 126 k)) 13 k (S.2.1 127 k)) 14 j = S.2.1 128 j
      rw [u2_ro _ _ _ (show 14 ≠ 13 by decide), u2_ro _ _ _ (show 14 ≠ 12 by decide), u2_ro _ _ _ (show 14 ≠ 11 by decide)]
      exact h4 j hj
    · exact h5
    · intro i hi1 hi2
      have hi3 : i = 1 ∨ i = 2 ∨ i = 3 ∨ i = 4 ∨ i = 5 ∨ i = 6 ∨ i = 7 ∨ i = 8 ∨ i = 9 ∨ i = 10 ∨ i = 11 ∨ i = 12 ∨ i = 13 := by omega
      rcases hi3 with rfl | rfl | rfl | rfl | rfl | rfl | rfl | rfl | rfl | rfl | rfl | rfl | rfl
      · show (u2 (u2 (u2 S1.2.1 11 k (S.2.1 125 k)) 12 k (S.2.1 126 k)) 13 k (S.2.1 127 k)) 116 = S.2.1 116
        rw [u2_ro _ _ _ (show 116 ≠ 13 by decide), u2_ro _ _ _ (show 116 ≠ 12 by decide), u2_ro _ _ _ (show 116 ≠ 11 by decide)]; exact h6 1 (by omega) (by omega)
      · show (u2 (u2 (u2 S1.2.1 11 k (S.2.1 125 k)) 12 k (S.2.1 126 k)) 13 k (S.2.1 127 k)) 117 = S.2.1 117
        rw [u2_ro _ _ _ (show 117 ≠ 13 by decide), u2_ro _ _ _ (show 117 ≠ 12 by decide), u2_ro _ _ _ (show 117 ≠ 11 by decide)]; exact h6 2 (by omega) (by omega)
      · show (u2 (u2 (u2 S1.2.1 11 k (S.2.1 125 k)) 12 k (S.2.1 126 k)) 13 k (S.2.1 127 k)) 118 = S.2.1 118
        rw [u2_ro _ _ _ (show 118 ≠ 13 by decide), u2_ro _ _ _ (show 118 ≠ 12 by decide), u2_ro _ _ _ (show 118 ≠ 11 by decide)]; exact h6 3 (by omega) (by omega)
      · show (u2 (u2 (u2 S1.2.1 11 k (S.2.1 125 k)) 12 k (S.2.1 126 k)) 13 k (S.2.1 127 k)) 119 = S.2.1 119
        rw [u2_ro _ _ _ (show 119 ≠ 13 by decide), u2_ro _ _ _ (show 119 ≠ 12 by decide), u2_ro _ _ _ (show 119 ≠ 11 by decide)]; exact h6 4 (by omega) (by omega)
      · show (u2 (u2 (u2 S1.2.1 11 k (S.2.1 125 k)) 12 k (S.2.1 126 k)) 13 k (S.2.1 127 k)) 120 = S.2.1 120
        rw [u2_ro _ _ _ (show 120 ≠ 13 by decide), u2_ro _ _ _ (show 120 ≠ 12 by decide), u2_ro _ _ _ (show 120 ≠ 11 by decide)]; exact h6 5 (by omega) (by omega)
      · show (u2 (u2 (u2 S1.2.1 11 k (S.2.1 125 k)) 12 k (S.2.1 126 k)) 13 k (S.2.1 127 k)) 121 = S.2.1 121
        rw [u2_ro _ _ _ (show 121 ≠ 13 by decide), u2_ro _ _ _ (show 121 ≠ 12 by decide), u2_ro _ _ _ (show 121 ≠ 11 by decide)]; exact h6 6 (by omega) (by omega)
      · show (u2 (u2 (u2 S1.2.1 11 k (S.2.1 125 k)) 12 k (S.2.1 126 k)) 13 k (S.2.1 127 k)) 122 = S.2.1 122
        rw [u2_ro _ _ _ (show 122 ≠ 13 by decide), u2_ro _ _ _ (show 122 ≠ 12 by decide), u2_ro _ _ _ (show 122 ≠ 11 by decide)]; exact h6 7 (by omega) (by omega)
      · show (u2 (u2 (u2 S1.2.1 11 k (S.2.1 125 k)) 12 k (S.2.1 126 k)) 13 k (S.2.1 127 k)) 123 = S.2.1 123
        rw [u2_ro _ _ _ (show 123 ≠ 13 by decide), u2_ro _ _ _ (show 123 ≠ 12 by decide), u2_ro _ _ _ (show 123 ≠ 11 by decide)]; exact h6 8 (by omega) (by omega)
      · show (u2 (u2 (u2 S1.2.1 11 k (S.2.1 125 k)) 12 k (S.2.1 126 k)) 13 k (S.2.1 127 k)) 124 = S.2.1 124
        rw [u2_ro _ _ _ (show 124 ≠ 13 by decide), u2_ro _ _ _ (show 124 ≠ 12 by decide), u2_ro _ _ _ (show 124 ≠ 11 by decide)]; exact h6 9 (by omega) (by omega)
      · show (u2 (u2 (u2 S1.2.1 11 k (S.2.1 125 k)) 12 k (S.2.1 126 k)) 13 k (S.2.1 127 k)) 125 = S.2.1 125
        rw [u2_ro _ _ _ (show 125 ≠ 13 by decide), u2_ro _ _ _ (show 125 ≠ 12 by decide), u2_ro _ _ _ (show 125 ≠ 11 by decide)]; exact h6 10 (by omega) (by omega)
      · show (u2 (u2 (u2 S1.2.1 11 k (S.2.1 125 k)) 12 k (S.2.1 126 k)) 13 k (S.2.1 127 k)) 126 = S.2.1 126
        rw [u2_ro _ _ _ (show 126 ≠ 13 by decide), u2_ro _ _ _ (show 126 ≠ 12 by decide), u2_ro _ _ _ (show 126 ≠ 11 by decide)]; exact h6 11 (by omega) (by omega)
      · show (u2 (u2 (u2 S1.2.1 11 k (S.2.1 125 k)) 12 k (S.2.1 126 k)) 13 k (S.2.1 127 k)) 127 = S.2.1 127
        rw [u2_ro _ _ _ (show 127 ≠ 13 by decide), u2_ro _ _ _ (show 127 ≠ 12 by decide), u2_ro _ _ _ (show 127 ≠ 11 by decide)]; exact h6 12 (by omega) (by omega)
      · show (u2 (u2 (u2 S1.2.1 11 k (S.2.1 125 k)) 12 k (S.2.1 126 k)) 13 k (S.2.1 127 k)) 128 = S.2.1 128
        rw [u2_ro _ _ _ (show 128 ≠ 13 by decide), u2_ro _ _ _ (show 128 ≠ 12 by decide), u2_ro _ _ _ (show 128 ≠ 11 by decide)]; exact h6 13 (by omega) (by omega)
    · exact h7
theorem cpl116_1_115 (x : XT) (S : ST) (hq : ∀ l, l < 6 → qk x (S.2.2.2 129 l) = true) (ho : ∀ g, g < 10 → inb (S.2.1 120 g) 2 = true) : ∀ (m k fuel : Nat) (S1 : ST), k + m = 5 → m < fuel → CI S S1 1 115 10 k 0 0 0 → ∃ S2, lfX7_copyFrom_1_115_116 x fuel S1 (iN k) = some ((), S2) ∧ CI S S2 1 115 10 5 6 3 6
  | 0, k, fuel, S1, hk, hf, h => by
    obtain ⟨fuel, rfl⟩ : ∃ z, fuel = z + 1 := ⟨fuel - 1, by omega⟩
    have : k = 5 := by omega
    subst this
    rw [lfX7_copyFrom_1_115_116, bfX7_copyFrom_1_115_116, if_pos (show (5 : Int32) ≤ iN 5 by decide)]
    rw [show (0 : Int32) = iN 0 from rfl]
    exact cpl177_1_115 x S hq ho 6 0 20000 S1 (by omega) (by omega) h
  | m + 1, k, fuel, S1, hk, hf, h => by
    obtain ⟨fuel, rfl⟩ : ∃ z, fuel = z + 1 := ⟨fuel - 1, by omega⟩
    obtain ⟨h0, h1, h2, h3, h4, h5, h6, h7⟩ := h
    rw [lfX7_copyFrom_1_115_116, bfX7_copyFrom_1_115_116, if_neg (show ¬ (5 : Int32) ≤ iN k from fun hh => by have := (iN_le (m := 5) (by omega) (by omega)).mp hh; omega), inb_t (show k < 5 by omega) (by omega), iN_nat (by omega), iN_succ]
    simp only [cond_true]
    have e6 : S1.2.1 121 = S.2.1 121 := h6 6 (by omega) (by omega)
    have e7 : S1.2.1 122 = S.2.1 122 := h6 7 (by omega) (by omega)
    have e8 : S1.2.1 123 = S.2.1 123 := h6 8 (by omega) (by omega)
    have e9 : S1.2.1 124 = S.2.1 124 := h6 9 (by omega) (by omega)
    rw [e6, e7, e8, e9]
    refine cpl116_1_115 x S hq ho m (k + 1) fuel (S1.1, (u2 (u2 (u2 (u2 S1.2.1 7 k (S.2.1 121 k)) 8 k (S.2.1 122 k)) 9 k (S.2.1 123 k)) 10 k (S.2.1 124 k)), S1.2.2.1, S1.2.2.2) (by omega) (by omega) ⟨h0, ?_, ?_, ?_, ?_, ?_, ?_, ?_⟩
    · intro i hi1 hi2
      have hi3 : i = 1 ∨ i = 2 ∨ i = 3 ∨ i = 4 ∨ i = 5 := by omega
      rcases hi3 with rfl | rfl | rfl | rfl | rfl
      · intro j hj
        show (u2 (u2 (u2 (u2 S1.2.1 7 k (S.2.1 121 k)) 8 k (S.2.1 122 k)) 9 k (S.2.1 123 k)) 10 k (S.2.1 124 k)) 2 j = S.2.1 116 j
        rw [u2_ro _ _ _ (show 2 ≠ 10 by decide), u2_ro _ _ _ (show 2 ≠ 9 by decide), u2_ro _ _ _ (show 2 ≠ 8 by decide), u2_ro _ _ _ (show 2 ≠ 7 by decide)]
        exact h1 1 (by omega) (by omega) j hj
      · intro j hj
        show (u2 (u2 (u2 (u2 S1.2.1 7 k (S.2.1 121 k)) 8 k (S.2.1 122 k)) 9 k (S.2.1 123 k)) 10 k (S.2.1 124 k)) 3 j = S.2.1 117 j
        rw [u2_ro _ _ _ (show 3 ≠ 10 by decide), u2_ro _ _ _ (show 3 ≠ 9 by decide), u2_ro _ _ _ (show 3 ≠ 8 by decide), u2_ro _ _ _ (show 3 ≠ 7 by decide)]
        exact h1 2 (by omega) (by omega) j hj
      · intro j hj
        show (u2 (u2 (u2 (u2 S1.2.1 7 k (S.2.1 121 k)) 8 k (S.2.1 122 k)) 9 k (S.2.1 123 k)) 10 k (S.2.1 124 k)) 4 j = S.2.1 118 j
        rw [u2_ro _ _ _ (show 4 ≠ 10 by decide), u2_ro _ _ _ (show 4 ≠ 9 by decide), u2_ro _ _ _ (show 4 ≠ 8 by decide), u2_ro _ _ _ (show 4 ≠ 7 by decide)]
        exact h1 3 (by omega) (by omega) j hj
      · intro j hj
        show (u2 (u2 (u2 (u2 S1.2.1 7 k (S.2.1 121 k)) 8 k (S.2.1 122 k)) 9 k (S.2.1 123 k)) 10 k (S.2.1 124 k)) 5 j = S.2.1 119 j
        rw [u2_ro _ _ _ (show 5 ≠ 10 by decide), u2_ro _ _ _ (show 5 ≠ 9 by decide), u2_ro _ _ _ (show 5 ≠ 8 by decide), u2_ro _ _ _ (show 5 ≠ 7 by decide)]
        exact h1 4 (by omega) (by omega) j hj
      · intro j hj
        show (u2 (u2 (u2 (u2 S1.2.1 7 k (S.2.1 121 k)) 8 k (S.2.1 122 k)) 9 k (S.2.1 123 k)) 10 k (S.2.1 124 k)) 6 j = S.2.1 120 j
        rw [u2_ro _ _ _ (show 6 ≠ 10 by decide), u2_ro _ _ _ (show 6 ≠ 9 by decide), u2_ro _ _ _ (show 6 ≠ 8 by decide), u2_ro _ _ _ (show 6 ≠ 7 by decide)]
        exact h1 5 (by omega) (by omega) j hj
    · intro i hi1 hi2
      have hi3 : i = 6 ∨ i = 7 ∨ i = 8 ∨ i = 9 := by omega
      rcases hi3 with rfl | rfl | rfl | rfl
      · intro j hj
        show (u2 (u2 (u2 (u2 S1.2.1 7 k (S.2.1 121 k)) 8 k (S.2.1 122 k)) 9 k (S.2.1 123 k)) 10 k (S.2.1 124 k)) 7 j = S.2.1 121 j
        rw [u2_ro _ _ _ (show 7 ≠ 10 by decide), u2_ro _ _ _ (show 7 ≠ 9 by decide), u2_ro _ _ _ (show 7 ≠ 8 by decide)]
        refine cp1 (B := S.2.1 121) (fun j hj => ?_) rfl j hj
        exact h2 6 (by omega) (by omega) j hj
      · intro j hj
        show (u2 (u2 (u2 (u2 S1.2.1 7 k (S.2.1 121 k)) 8 k (S.2.1 122 k)) 9 k (S.2.1 123 k)) 10 k (S.2.1 124 k)) 8 j = S.2.1 122 j
        rw [u2_ro _ _ _ (show 8 ≠ 10 by decide), u2_ro _ _ _ (show 8 ≠ 9 by decide)]
        refine cp1 (B := S.2.1 122) (fun j hj => ?_) rfl j hj
        rw [u2_ro _ _ _ (show 8 ≠ 7 by decide)]
        exact h2 7 (by omega) (by omega) j hj
      · intro j hj
        show (u2 (u2 (u2 (u2 S1.2.1 7 k (S.2.1 121 k)) 8 k (S.2.1 122 k)) 9 k (S.2.1 123 k)) 10 k (S.2.1 124 k)) 9 j = S.2.1 123 j
        rw [u2_ro _ _ _ (show 9 ≠ 10 by decide)]
        refine cp1 (B := S.2.1 123) (fun j hj => ?_) rfl j hj
        rw [u2_ro _ _ _ (show 9 ≠ 8 by decide), u2_ro _ _ _ (show 9 ≠ 7 by decide)]
        exact h2 8 (by omega) (by omega) j hj
      · intro j hj
        show (u2 (u2 (u2 (u2 S1.2.1 7 k (S.2.1 121 k)) 8 k (S.2.1 122 k)) 9 k (S.2.1 123 k)) 10 k (S.2.1 124 k)) 10 j = S.2.1 124 j
        refine cp1 (B := S.2.1 124) (fun j hj => ?_) rfl j hj
        rw [u2_ro _ _ _ (show 10 ≠ 9 by decide), u2_ro _ _ _ (show 10 ≠ 8 by decide), u2_ro _ _ _ (show 10 ≠ 7 by decide)]
        exact h2 9 (by omega) (by omega) j hj
    · intro i hi1 hi2
      have hi3 : i = 10 ∨ i = 11 ∨ i = 12 := by omega
      rcases hi3 with rfl | rfl | rfl
      · intro j hj
        show (u2 (u2 (u2 (u2 S1.2.1 7 k (S.2.1 121 k)) 8 k (S.2.1 122 k)) 9 k (S.2.1 123 k)) 10 k (S.2.1 124 k)) 11 j = S.2.1 125 j
        rw [u2_ro _ _ _ (show 11 ≠ 10 by decide), u2_ro _ _ _ (show 11 ≠ 9 by decide), u2_ro _ _ _ (show 11 ≠ 8 by decide), u2_ro _ _ _ (show 11 ≠ 7 by decide)]
        exact h3 10 (by omega) (by omega) j hj
      · intro j hj
        show (u2 (u2 (u2 (u2 S1.2.1 7 k (S.2.1 121 k)) 8 k (S.2.1 122 k)) 9 k (S.2.1 123 k)) 10 k (S.2.1 124 k)) 12 j = S.2.1 126 j
        rw [u2_ro _ _ _ (show 12 ≠ 10 by decide), u2_ro _ _ _ (show 12 ≠ 9 by decide), u2_ro _ _ _ (show 12 ≠ 8 by decide), u2_ro _ _ _ (show 12 ≠ 7 by decide)]
        exact h3 11 (by omega) (by omega) j hj
      · intro j hj
        show (u2 (u2 (u2 (u2 S1.2.1 7 k (S.2.1 121 k)) 8 k (S.2.1 122 k)) 9 k (S.2.1 123 k)) 10 k (S.2.1 124 k)) 13 j = S.2.1 127 j
        rw [u2_ro _ _ _ (show 13 ≠ 10 by decide), u2_ro _ _ _ (show 13 ≠ 9 by decide), u2_ro _ _ _ (show 13 ≠ 8 by decide), u2_ro _ _ _ (show 13 ≠ 7 by decide)]
        exact h3 12 (by omega) (by omega) j hj
    · intro j hj
      show (u2 (u2 (u2 (u2 S1.2.1 7 k (S.2.1 121 k)) 8 k (S.2.1 122 k)) 9 k (S.2.1 123 k)) 10 k (S.2.1 124 k)) 14 j = S.2.1 128 j
      rw [u2_ro _ _ _ (show 14 ≠ 10 by decide), u2_ro _ _ _ (show 14 ≠ 9 by decide), u2_ro _ _ _ (show 14 ≠ 8 by decide), u2_ro _ _ _ (show 14 ≠ 7 by decide)]
      exact h4 j hj
    · exact h5
    · intro i hi1 hi2
      have hi3 : i = 1 ∨ i = 2 ∨ i = 3 ∨ i = 4 ∨ i = 5 ∨ i = 6 ∨ i = 7 ∨ i = 8 ∨ i = 9 ∨ i = 10 ∨ i = 11 ∨ i = 12 ∨ i = 13 := by omega
      rcases hi3 with rfl | rfl | rfl | rfl | rfl | rfl | rfl | rfl | rfl | rfl | rfl | rfl | rfl
      · show (u2 (u2 (u2 (u2 S1.2.1 7 k (S.2.1 121 k)) 8 k (S.2.1 122 k)) 9 k (S.2.1 123 k)) 10 k (S.2.1 124 k)) 116 = S.2.1 116
        rw [u2_ro _ _ _ (show 116 ≠ 10 by decide), u2_ro _ _ _ (show 116 ≠ 9 by decide), u2_ro _ _ _ (show 116 ≠ 8 by decide), u2_ro _ _ _ (show 116 ≠ 7 by decide)]; exact h6 1 (by omega) (by omega)
      · show (u2 (u2 (u2 (u2 S1.2.1 7 k (S.2.1 121 k)) 8 k (S.2.1 122 k)) 9 k (S.2.1 123 k)) 10 k (S.2.1 124 k)) 117 = S.2.1 117
        rw [u2_ro _ _ _ (show 117 ≠ 10 by decide), u2_ro _ _ _ (show 117 ≠ 9 by decide), u2_ro _ _ _ (show 117 ≠ 8 by decide), u2_ro _ _ _ (show 117 ≠ 7 by decide)]; exact h6 2 (by omega) (by omega)
      · show (u2 (u2 (u2 (u2 S1.2.1 7 k (S.2.1 121 k)) 8 k (S.2.1 122 k)) 9 k (S.2.1 123 k)) 10 k (S.2.1 124 k)) 118 = S.2.1 118
        rw [u2_ro _ _ _ (show 118 ≠ 10 by decide), u2_ro _ _ _ (show 118 ≠ 9 by decide), u2_ro _ _ _ (show 118 ≠ 8 by decide), u2_ro _ _ _ (show 118 ≠ 7 by decide)]; exact h6 3 (by omega) (by omega)
      · show (u2 (u2 (u2 (u2 S1.2.1 7 k (S.2.1 121 k)) 8 k (S.2.1 122 k)) 9 k (S.2.1 123 k)) 10 k (S.2.1 124 k)) 119 = S.2.1 119
        rw [u2_ro _ _ _ (show 119 ≠ 10 by decide), u2_ro _ _ _ (show 119 ≠ 9 by decide), u2_ro _ _ _ (show 119 ≠ 8 by decide), u2_ro _ _ _ (show 119 ≠ 7 by decide)]; exact h6 4 (by omega) (by omega)
      · show (u2 (u2 (u2 (u2 S1.2.1 7 k (S.2.1 121 k)) 8 k (S.2.1 122 k)) 9 k (S.2.1 123 k)) 10 k (S.2.1 124 k)) 120 = S.2.1 120
        rw [u2_ro _ _ _ (show 120 ≠ 10 by decide), u2_ro _ _ _ (show 120 ≠ 9 by decide), u2_ro _ _ _ (show 120 ≠ 8 by decide), u2_ro _ _ _ (show 120 ≠ 7 by decide)]; exact h6 5 (by omega) (by omega)
      · show (u2 (u2 (u2 (u2 S1.2.1 7 k (S.2.1 121 k)) 8 k (S.2.1 122 k)) 9 k (S.2.1 123 k)) 10 k (S.2.1 124 k)) 121 = S.2.1 121
        rw [u2_ro _ _ _ (show 121 ≠ 10 by decide), u2_ro _ _ _ (show 121 ≠ 9 by decide), u2_ro _ _ _ (show 121 ≠ 8 by decide), u2_ro _ _ _ (show 121 ≠ 7 by decide)]; exact h6 6 (by omega) (by omega)
      · show (u2 (u2 (u2 (u2 S1.2.1 7 k (S.2.1 121 k)) 8 k (S.2.1 122 k)) 9 k (S.2.1 123 k)) 10 k (S.2.1 124 k)) 122 = S.2.1 122
        rw [u2_ro _ _ _ (show 122 ≠ 10 by decide), u2_ro _ _ _ (show 122 ≠ 9 by decide), u2_ro _ _ _ (show 122 ≠ 8 by decide), u2_ro _ _ _ (show 122 ≠ 7 by decide)]; exact h6 7 (by omega) (by omega)
      · show (u2 (u2 (u2 (u2 S1.2.1 7 k (S.2.1 121 k)) 8 k (S.2.1 122 k)) 9 k (S.2.1 123 k)) 10 k (S.2.1 124 k)) 123 = S.2.1 123
        rw [u2_ro _ _ _ (show 123 ≠ 10 by decide), u2_ro _ _ _ (show 123 ≠ 9 by decide), u2_ro _ _ _ (show 123 ≠ 8 by decide), u2_ro _ _ _ (show 123 ≠ 7 by decide)]; exact h6 8 (by omega) (by omega)
      · show (u2 (u2 (u2 (u2 S1.2.1 7 k (S.2.1 121 k)) 8 k (S.2.1 122 k)) 9 k (S.2.1 123 k)) 10 k (S.2.1 124 k)) 124 = S.2.1 124
        rw [u2_ro _ _ _ (show 124 ≠ 10 by decide), u2_ro _ _ _ (show 124 ≠ 9 by decide), u2_ro _ _ _ (show 124 ≠ 8 by decide), u2_ro _ _ _ (show 124 ≠ 7 by decide)]; exact h6 9 (by omega) (by omega)
      · show (u2 (u2 (u2 (u2 S1.2.1 7 k (S.2.1 121 k)) 8 k (S.2.1 122 k)) 9 k (S.2.1 123 k)) 10 k (S.2.1 124 k)) 125 = S.2.1 125
        rw [u2_ro _ _ _ (show 125 ≠ 10 by decide), u2_ro _ _ _ (show 125 ≠ 9 by decide), u2_ro _ _ _ (show 125 ≠ 8 by decide), u2_ro _ _ _ (show 125 ≠ 7 by decide)]; exact h6 10 (by omega) (by omega)
      · show (u2 (u2 (u2 (u2 S1.2.1 7 k (S.2.1 121 k)) 8 k (S.2.1 122 k)) 9 k (S.2.1 123 k)) 10 k (S.2.1 124 k)) 126 = S.2.1 126
        rw [u2_ro _ _ _ (show 126 ≠ 10 by decide), u2_ro _ _ _ (show 126 ≠ 9 by decide), u2_ro _ _ _ (show 126 ≠ 8 by decide), u2_ro _ _ _ (show 126 ≠ 7 by decide)]; exact h6 11 (by omega) (by omega)
      · show (u2 (u2 (u2 (u2 S1.2.1 7 k (S.2.1 121 k)) 8 k (S.2.1 122 k)) 9 k (S.2.1 123 k)) 10 k (S.2.1 124 k)) 127 = S.2.1 127
        rw [u2_ro _ _ _ (show 127 ≠ 10 by decide), u2_ro _ _ _ (show 127 ≠ 9 by decide), u2_ro _ _ _ (show 127 ≠ 8 by decide), u2_ro _ _ _ (show 127 ≠ 7 by decide)]; exact h6 12 (by omega) (by omega)
      · show (u2 (u2 (u2 (u2 S1.2.1 7 k (S.2.1 121 k)) 8 k (S.2.1 122 k)) 9 k (S.2.1 123 k)) 10 k (S.2.1 124 k)) 128 = S.2.1 128
        rw [u2_ro _ _ _ (show 128 ≠ 10 by decide), u2_ro _ _ _ (show 128 ≠ 9 by decide), u2_ro _ _ _ (show 128 ≠ 8 by decide), u2_ro _ _ _ (show 128 ≠ 7 by decide)]; exact h6 13 (by omega) (by omega)
    · exact h7
theorem cpl42_1_115 (x : XT) (S : ST) (hq : ∀ l, l < 6 → qk x (S.2.2.2 129 l) = true) (ho : ∀ g, g < 10 → inb (S.2.1 120 g) 2 = true) : ∀ (m k fuel : Nat) (S1 : ST), k + m = 10 → m < fuel → CI S S1 1 115 k 0 0 0 0 → ∃ S2, lfX7_copyFrom_1_115_42 x fuel S1 (iN k) = some ((), S2) ∧ CI S S2 1 115 10 5 6 3 6
  | 0, k, fuel, S1, hk, hf, h => by
    obtain ⟨fuel, rfl⟩ : ∃ z, fuel = z + 1 := ⟨fuel - 1, by omega⟩
    have : k = 10 := by omega
    subst this
    rw [lfX7_copyFrom_1_115_42, bfX7_copyFrom_1_115_42, if_pos (show (10 : Int32) ≤ iN 10 by decide)]
    rw [show (0 : Int32) = iN 0 from rfl]
    exact cpl116_1_115 x S hq ho 5 0 20000 S1 (by omega) (by omega) h
  | m + 1, k, fuel, S1, hk, hf, h => by
    obtain ⟨fuel, rfl⟩ : ∃ z, fuel = z + 1 := ⟨fuel - 1, by omega⟩
    obtain ⟨h0, h1, h2, h3, h4, h5, h6, h7⟩ := h
    rw [lfX7_copyFrom_1_115_42, bfX7_copyFrom_1_115_42, if_neg (show ¬ (10 : Int32) ≤ iN k from fun hh => by have := (iN_le (m := 10) (by omega) (by omega)).mp hh; omega), inb_t (show k < 10 by omega) (by omega), iN_nat (by omega), iN_succ]
    simp only [cond_true]
    have e1 : S1.2.1 116 = S.2.1 116 := h6 1 (by omega) (by omega)
    have e2 : S1.2.1 117 = S.2.1 117 := h6 2 (by omega) (by omega)
    have e3 : S1.2.1 118 = S.2.1 118 := h6 3 (by omega) (by omega)
    have e4 : S1.2.1 119 = S.2.1 119 := h6 4 (by omega) (by omega)
    have e5 : S1.2.1 120 = S.2.1 120 := h6 5 (by omega) (by omega)
    rw [e1, e2, e3, e4, e5]
    rw [nar_b (ho k (by omega))]
    refine cpl42_1_115 x S hq ho m (k + 1) fuel (S1.1, (u2 (u2 (u2 (u2 (u2 S1.2.1 2 k (S.2.1 116 k)) 3 k (S.2.1 117 k)) 4 k (S.2.1 118 k)) 5 k (S.2.1 119 k)) 6 k (S.2.1 120 k)), S1.2.2.1, S1.2.2.2) (by omega) (by omega) ⟨h0, ?_, ?_, ?_, ?_, ?_, ?_, ?_⟩
    · intro i hi1 hi2
      have hi3 : i = 1 ∨ i = 2 ∨ i = 3 ∨ i = 4 ∨ i = 5 := by omega
      rcases hi3 with rfl | rfl | rfl | rfl | rfl
      · intro j hj
        show (u2 (u2 (u2 (u2 (u2 S1.2.1 2 k (S.2.1 116 k)) 3 k (S.2.1 117 k)) 4 k (S.2.1 118 k)) 5 k (S.2.1 119 k)) 6 k (S.2.1 120 k)) 2 j = S.2.1 116 j
        rw [u2_ro _ _ _ (show 2 ≠ 6 by decide), u2_ro _ _ _ (show 2 ≠ 5 by decide), u2_ro _ _ _ (show 2 ≠ 4 by decide), u2_ro _ _ _ (show 2 ≠ 3 by decide)]
        refine cp1 (B := S.2.1 116) (fun j hj => ?_) rfl j hj
        exact h1 1 (by omega) (by omega) j hj
      · intro j hj
        show (u2 (u2 (u2 (u2 (u2 S1.2.1 2 k (S.2.1 116 k)) 3 k (S.2.1 117 k)) 4 k (S.2.1 118 k)) 5 k (S.2.1 119 k)) 6 k (S.2.1 120 k)) 3 j = S.2.1 117 j
        rw [u2_ro _ _ _ (show 3 ≠ 6 by decide), u2_ro _ _ _ (show 3 ≠ 5 by decide), u2_ro _ _ _ (show 3 ≠ 4 by decide)]
        refine cp1 (B := S.2.1 117) (fun j hj => ?_) rfl j hj
        rw [u2_ro _ _ _ (show 3 ≠ 2 by decide)]
        exact h1 2 (by omega) (by omega) j hj
      · intro j hj
        show (u2 (u2 (u2 (u2 (u2 S1.2.1 2 k (S.2.1 116 k)) 3 k (S.2.1 117 k)) 4 k (S.2.1 118 k)) 5 k (S.2.1 119 k)) 6 k (S.2.1 120 k)) 4 j = S.2.1 118 j
        rw [u2_ro _ _ _ (show 4 ≠ 6 by decide), u2_ro _ _ _ (show 4 ≠ 5 by decide)]
        refine cp1 (B := S.2.1 118) (fun j hj => ?_) rfl j hj
        rw [u2_ro _ _ _ (show 4 ≠ 3 by decide), u2_ro _ _ _ (show 4 ≠ 2 by decide)]
        exact h1 3 (by omega) (by omega) j hj
      · intro j hj
        show (u2 (u2 (u2 (u2 (u2 S1.2.1 2 k (S.2.1 116 k)) 3 k (S.2.1 117 k)) 4 k (S.2.1 118 k)) 5 k (S.2.1 119 k)) 6 k (S.2.1 120 k)) 5 j = S.2.1 119 j
        rw [u2_ro _ _ _ (show 5 ≠ 6 by decide)]
        refine cp1 (B := S.2.1 119) (fun j hj => ?_) rfl j hj
        rw [u2_ro _ _ _ (show 5 ≠ 4 by decide), u2_ro _ _ _ (show 5 ≠ 3 by decide), u2_ro _ _ _ (show 5 ≠ 2 by decide)]
        exact h1 4 (by omega) (by omega) j hj
      · intro j hj
        show (u2 (u2 (u2 (u2 (u2 S1.2.1 2 k (S.2.1 116 k)) 3 k (S.2.1 117 k)) 4 k (S.2.1 118 k)) 5 k (S.2.1 119 k)) 6 k (S.2.1 120 k)) 6 j = S.2.1 120 j
        refine cp1 (B := S.2.1 120) (fun j hj => ?_) rfl j hj
        rw [u2_ro _ _ _ (show 6 ≠ 5 by decide), u2_ro _ _ _ (show 6 ≠ 4 by decide), u2_ro _ _ _ (show 6 ≠ 3 by decide), u2_ro _ _ _ (show 6 ≠ 2 by decide)]
        exact h1 5 (by omega) (by omega) j hj
    · intro i hi1 hi2
      have hi3 : i = 6 ∨ i = 7 ∨ i = 8 ∨ i = 9 := by omega
      rcases hi3 with rfl | rfl | rfl | rfl
      · intro j hj
        show (u2 (u2 (u2 (u2 (u2 S1.2.1 2 k (S.2.1 116 k)) 3 k (S.2.1 117 k)) 4 k (S.2.1 118 k)) 5 k (S.2.1 119 k)) 6 k (S.2.1 120 k)) 7 j = S.2.1 121 j
        rw [u2_ro _ _ _ (show 7 ≠ 6 by decide), u2_ro _ _ _ (show 7 ≠ 5 by decide), u2_ro _ _ _ (show 7 ≠ 4 by decide), u2_ro _ _ _ (show 7 ≠ 3 by decide), u2_ro _ _ _ (show 7 ≠ 2 by decide)]
        exact h2 6 (by omega) (by omega) j hj
      · intro j hj
        show (u2 (u2 (u2 (u2 (u2 S1.2.1 2 k (S.2.1 116 k)) 3 k (S.2.1 117 k)) 4 k (S.2.1 118 k)) 5 k (S.2.1 119 k)) 6 k (S.2.1 120 k)) 8 j = S.2.1 122 j
        rw [u2_ro _ _ _ (show 8 ≠ 6 by decide), u2_ro _ _ _ (show 8 ≠ 5 by decide), u2_ro _ _ _ (show 8 ≠ 4 by decide), u2_ro _ _ _ (show 8 ≠ 3 by decide), u2_ro _ _ _ (show 8 ≠ 2 by decide)]
        exact h2 7 (by omega) (by omega) j hj
      · intro j hj
        show (u2 (u2 (u2 (u2 (u2 S1.2.1 2 k (S.2.1 116 k)) 3 k (S.2.1 117 k)) 4 k (S.2.1 118 k)) 5 k (S.2.1 119 k)) 6 k (S.2.1 120 k)) 9 j = S.2.1 123 j
        rw [u2_ro _ _ _ (show 9 ≠ 6 by decide), u2_ro _ _ _ (show 9 ≠ 5 by decide), u2_ro _ _ _ (show 9 ≠ 4 by decide), u2_ro _ _ _ (show 9 ≠ 3 by decide), u2_ro _ _ _ (show 9 ≠ 2 by decide)]
        exact h2 8 (by omega) (by omega) j hj
      · intro j hj
        show (u2 (u2 (u2 (u2 (u2 S1.2.1 2 k (S.2.1 116 k)) 3 k (S.2.1 117 k)) 4 k (S.2.1 118 k)) 5 k (S.2.1 119 k)) 6 k (S.2.1 120 k)) 10 j = S.2.1 124 j
        rw [u2_ro _ _ _ (show 10 ≠ 6 by decide), u2_ro _ _ _ (show 10 ≠ 5 by decide), u2_ro _ _ _ (show 10 ≠ 4 by decide), u2_ro _ _ _ (show 10 ≠ 3 by decide), u2_ro _ _ _ (show 10 ≠ 2 by decide)]
        exact h2 9 (by omega) (by omega) j hj
    · intro i hi1 hi2
      have hi3 : i = 10 ∨ i = 11 ∨ i = 12 := by omega
      rcases hi3 with rfl | rfl | rfl
      · intro j hj
        show (u2 (u2 (u2 (u2 (u2 S1.2.1 2 k (S.2.1 116 k)) 3 k (S.2.1 117 k)) 4 k (S.2.1 118 k)) 5 k (S.2.1 119 k)) 6 k (S.2.1 120 k)) 11 j = S.2.1 125 j
        rw [u2_ro _ _ _ (show 11 ≠ 6 by decide), u2_ro _ _ _ (show 11 ≠ 5 by decide), u2_ro _ _ _ (show 11 ≠ 4 by decide), u2_ro _ _ _ (show 11 ≠ 3 by decide), u2_ro _ _ _ (show 11 ≠ 2 by decide)]
        exact h3 10 (by omega) (by omega) j hj
      · intro j hj
        show (u2 (u2 (u2 (u2 (u2 S1.2.1 2 k (S.2.1 116 k)) 3 k (S.2.1 117 k)) 4 k (S.2.1 118 k)) 5 k (S.2.1 119 k)) 6 k (S.2.1 120 k)) 12 j = S.2.1 126 j
        rw [u2_ro _ _ _ (show 12 ≠ 6 by decide), u2_ro _ _ _ (show 12 ≠ 5 by decide), u2_ro _ _ _ (show 12 ≠ 4 by decide), u2_ro _ _ _ (show 12 ≠ 3 by decide), u2_ro _ _ _ (show 12 ≠ 2 by decide)]
        exact h3 11 (by omega) (by omega) j hj
      · intro j hj
        show (u2 (u2 (u2 (u2 (u2 S1.2.1 2 k (S.2.1 116 k)) 3 k (S.2.1 117 k)) 4 k (S.2.1 118 k)) 5 k (S.2.1 119 k)) 6 k (S.2.1 120 k)) 13 j = S.2.1 127 j
        rw [u2_ro _ _ _ (show 13 ≠ 6 by decide), u2_ro _ _ _ (show 13 ≠ 5 by decide), u2_ro _ _ _ (show 13 ≠ 4 by decide), u2_ro _ _ _ (show 13 ≠ 3 by decide), u2_ro _ _ _ (show 13 ≠ 2 by decide)]
        exact h3 12 (by omega) (by omega) j hj
    · intro j hj
      show (u2 (u2 (u2 (u2 (u2 S1.2.1 2 k (S.2.1 116 k)) 3 k (S.2.1 117 k)) 4 k (S.2.1 118 k)) 5 k (S.2.1 119 k)) 6 k (S.2.1 120 k)) 14 j = S.2.1 128 j
      rw [u2_ro _ _ _ (show 14 ≠ 6 by decide), u2_ro _ _ _ (show 14 ≠ 5 by decide), u2_ro _ _ _ (show 14 ≠ 4 by decide), u2_ro _ _ _ (show 14 ≠ 3 by decide), u2_ro _ _ _ (show 14 ≠ 2 by decide)]
      exact h4 j hj
    · exact h5
    · intro i hi1 hi2
      have hi3 : i = 1 ∨ i = 2 ∨ i = 3 ∨ i = 4 ∨ i = 5 ∨ i = 6 ∨ i = 7 ∨ i = 8 ∨ i = 9 ∨ i = 10 ∨ i = 11 ∨ i = 12 ∨ i = 13 := by omega
      rcases hi3 with rfl | rfl | rfl | rfl | rfl | rfl | rfl | rfl | rfl | rfl | rfl | rfl | rfl
      · show (u2 (u2 (u2 (u2 (u2 S1.2.1 2 k (S.2.1 116 k)) 3 k (S.2.1 117 k)) 4 k (S.2.1 118 k)) 5 k (S.2.1 119 k)) 6 k (S.2.1 120 k)) 116 = S.2.1 116
        rw [u2_ro _ _ _ (show 116 ≠ 6 by decide), u2_ro _ _ _ (show 116 ≠ 5 by decide), u2_ro _ _ _ (show 116 ≠ 4 by decide), u2_ro _ _ _ (show 116 ≠ 3 by decide), u2_ro _ _ _ (show 116 ≠ 2 by decide)]; exact h6 1 (by omega) (by omega)
      · show (u2 (u2 (u2 (u2 (u2 S1.2.1 2 k (S.2.1 116 k)) 3 k (S.2.1 117 k)) 4 k (S.2.1 118 k)) 5 k (S.2.1 119 k)) 6 k (S.2.1 120 k)) 117 = S.2.1 117
        rw [u2_ro _ _ _ (show 117 ≠ 6 by decide), u2_ro _ _ _ (show 117 ≠ 5 by decide), u2_ro _ _ _ (show 117 ≠ 4 by decide), u2_ro _ _ _ (show 117 ≠ 3 by decide), u2_ro _ _ _ (show 117 ≠ 2 by decide)]; exact h6 2 (by omega) (by omega)
      · show (u2 (u2 (u2 (u2 (u2 S1.2.1 2 k (S.2.1 116 k)) 3 k (S.2.1 117 k)) 4 k (S.2.1 118 k)) 5 k (S.2.1 119 k)) 6 k (S.2.1 120 k)) 118 = S.2.1 118
        rw [u2_ro _ _ _ (show 118 ≠ 6 by decide), u2_ro _ _ _ (show 118 ≠ 5 by decide), u2_ro _ _ _ (show 118 ≠ 4 by decide), u2_ro _ _ _ (show 118 ≠ 3 by decide), u2_ro _ _ _ (show 118 ≠ 2 by decide)]; exact h6 3 (by omega) (by omega)
      · show (u2 (u2 (u2 (u2 (u2 S1.2.1 2 k (S.2.1 116 k)) 3 k (S.2.1 117 k)) 4 k (S.2.1 118 k)) 5 k (S.2.1 119 k)) 6 k (S.2.1 120 k)) 119 = S.2.1 119
        rw [u2_ro _ _ _ (show 119 ≠ 6 by decide), u2_ro _ _ _ (show 119 ≠ 5 by decide), u2_ro _ _ _ (show 119 ≠ 4 by decide), u2_ro _ _ _ (show 119 ≠ 3 by decide), u2_ro _ _ _ (show 119 ≠ 2 by decide)]; exact h6 4 (by omega) (by omega)
      · show (u2 (u2 (u2 (u2 (u2 S1.2.1 2 k (S.2.1 116 k)) 3 k (S.2.1 117 k)) 4 k (S.2.1 118 k)) 5 k (S.2.1 119 k)) 6 k (S.2.1 120 k)) 120 = S.2.1 120
        rw [u2_ro _ _ _ (show 120 ≠ 6 by decide), u2_ro _ _ _ (show 120 ≠ 5 by decide), u2_ro _ _ _ (show 120 ≠ 4 by decide), u2_ro _ _ _ (show 120 ≠ 3 by decide), u2_ro _ _ _ (show 120 ≠ 2 by decide)]; exact h6 5 (by omega) (by omega)
      · show (u2 (u2 (u2 (u2 (u2 S1.2.1 2 k (S.2.1 116 k)) 3 k (S.2.1 117 k)) 4 k (S.2.1 118 k)) 5 k (S.2.1 119 k)) 6 k (S.2.1 120 k)) 121 = S.2.1 121
        rw [u2_ro _ _ _ (show 121 ≠ 6 by decide), u2_ro _ _ _ (show 121 ≠ 5 by decide), u2_ro _ _ _ (show 121 ≠ 4 by decide), u2_ro _ _ _ (show 121 ≠ 3 by decide), u2_ro _ _ _ (show 121 ≠ 2 by decide)]; exact h6 6 (by omega) (by omega)
      · show (u2 (u2 (u2 (u2 (u2 S1.2.1 2 k (S.2.1 116 k)) 3 k (S.2.1 117 k)) 4 k (S.2.1 118 k)) 5 k (S.2.1 119 k)) 6 k (S.2.1 120 k)) 122 = S.2.1 122
        rw [u2_ro _ _ _ (show 122 ≠ 6 by decide), u2_ro _ _ _ (show 122 ≠ 5 by decide), u2_ro _ _ _ (show 122 ≠ 4 by decide), u2_ro _ _ _ (show 122 ≠ 3 by decide), u2_ro _ _ _ (show 122 ≠ 2 by decide)]; exact h6 7 (by omega) (by omega)
      · show (u2 (u2 (u2 (u2 (u2 S1.2.1 2 k (S.2.1 116 k)) 3 k (S.2.1 117 k)) 4 k (S.2.1 118 k)) 5 k (S.2.1 119 k)) 6 k (S.2.1 120 k)) 123 = S.2.1 123
        rw [u2_ro _ _ _ (show 123 ≠ 6 by decide), u2_ro _ _ _ (show 123 ≠ 5 by decide), u2_ro _ _ _ (show 123 ≠ 4 by decide), u2_ro _ _ _ (show 123 ≠ 3 by decide), u2_ro _ _ _ (show 123 ≠ 2 by decide)]; exact h6 8 (by omega) (by omega)
      · show (u2 (u2 (u2 (u2 (u2 S1.2.1 2 k (S.2.1 116 k)) 3 k (S.2.1 117 k)) 4 k (S.2.1 118 k)) 5 k (S.2.1 119 k)) 6 k (S.2.1 120 k)) 124 = S.2.1 124
        rw [u2_ro _ _ _ (show 124 ≠ 6 by decide), u2_ro _ _ _ (show 124 ≠ 5 by decide), u2_ro _ _ _ (show 124 ≠ 4 by decide), u2_ro _ _ _ (show 124 ≠ 3 by decide), u2_ro _ _ _ (show 124 ≠ 2 by decide)]; exact h6 9 (by omega) (by omega)
      · show (u2 (u2 (u2 (u2 (u2 S1.2.1 2 k (S.2.1 116 k)) 3 k (S.2.1 117 k)) 4 k (S.2.1 118 k)) 5 k (S.2.1 119 k)) 6 k (S.2.1 120 k)) 125 = S.2.1 125
        rw [u2_ro _ _ _ (show 125 ≠ 6 by decide), u2_ro _ _ _ (show 125 ≠ 5 by decide), u2_ro _ _ _ (show 125 ≠ 4 by decide), u2_ro _ _ _ (show 125 ≠ 3 by decide), u2_ro _ _ _ (show 125 ≠ 2 by decide)]; exact h6 10 (by omega) (by omega)
      · show (u2 (u2 (u2 (u2 (u2 S1.2.1 2 k (S.2.1 116 k)) 3 k (S.2.1 117 k)) 4 k (S.2.1 118 k)) 5 k (S.2.1 119 k)) 6 k (S.2.1 120 k)) 126 = S.2.1 126
        rw [u2_ro _ _ _ (show 126 ≠ 6 by decide), u2_ro _ _ _ (show 126 ≠ 5 by decide), u2_ro _ _ _ (show 126 ≠ 4 by decide), u2_ro _ _ _ (show 126 ≠ 3 by decide), u2_ro _ _ _ (show 126 ≠ 2 by decide)]; exact h6 11 (by omega) (by omega)
      · show (u2 (u2 (u2 (u2 (u2 S1.2.1 2 k (S.2.1 116 k)) 3 k (S.2.1 117 k)) 4 k (S.2.1 118 k)) 5 k (S.2.1 119 k)) 6 k (S.2.1 120 k)) 127 = S.2.1 127
        rw [u2_ro _ _ _ (show 127 ≠ 6 by decide), u2_ro _ _ _ (show 127 ≠ 5 by decide), u2_ro _ _ _ (show 127 ≠ 4 by decide), u2_ro _ _ _ (show 127 ≠ 3 by decide), u2_ro _ _ _ (show 127 ≠ 2 by decide)]; exact h6 12 (by omega) (by omega)
      · show (u2 (u2 (u2 (u2 (u2 S1.2.1 2 k (S.2.1 116 k)) 3 k (S.2.1 117 k)) 4 k (S.2.1 118 k)) 5 k (S.2.1 119 k)) 6 k (S.2.1 120 k)) 128 = S.2.1 128
        rw [u2_ro _ _ _ (show 128 ≠ 6 by decide), u2_ro _ _ _ (show 128 ≠ 5 by decide), u2_ro _ _ _ (show 128 ≠ 4 by decide), u2_ro _ _ _ (show 128 ≠ 3 by decide), u2_ro _ _ _ (show 128 ≠ 2 by decide)]; exact h6 13 (by omega) (by omega)
    · exact h7
theorem copy1_115 (x : XT) (S : ST) (hq : ∀ l, l < 6 → qk x (S.2.2.2 129 l) = true) (ho : ∀ g, g < 10 → inb (S.2.1 120 g) 2 = true) : ∃ S2, gfX7_copyFrom_1_115 x S = some ((), S2) ∧ CI S S2 1 115 10 5 6 3 6 := by
  unfold gfX7_copyFrom_1_115 bfX7_copyFrom_1_115_0
  rw [show (0 : Int32) = iN 0 from rfl]
  refine cpl42_1_115 x S hq ho 10 0 20000 _ (by omega) (by omega) ⟨⟨?_, ?_, ?_, ?_, ?_⟩, fun i _ _ j hj => by omega, fun i _ _ j hj => by omega, fun i _ _ j hj => by omega, fun j hj => by omega, fun j hj => by omega, fun _ _ _ => rfl, rfl⟩
  · show (u2 (u2 (u2 (u2 (u2 S.1 1 0 (S.1 115 0)) 1 6 (S.1 115 6)) 1 11 (S.1 115 11)) 1 16 (S.1 115 16)) 1 18 (S.1 115 18)) 1 0 = _
    rw [u2_k _ _ _ (show 0 ≠ 18 by decide), u2_k _ _ _ (show 0 ≠ 16 by decide), u2_k _ _ _ (show 0 ≠ 11 by decide), u2_k _ _ _ (show 0 ≠ 6 by decide), u2_s]
  · show (u2 (u2 (u2 (u2 (u2 S.1 1 0 (S.1 115 0)) 1 6 (S.1 115 6)) 1 11 (S.1 115 11)) 1 16 (S.1 115 16)) 1 18 (S.1 115 18)) 1 6 = _
    rw [u2_k _ _ _ (show 6 ≠ 18 by decide), u2_k _ _ _ (show 6 ≠ 16 by decide), u2_k _ _ _ (show 6 ≠ 11 by decide), u2_s]
  · show (u2 (u2 (u2 (u2 (u2 S.1 1 0 (S.1 115 0)) 1 6 (S.1 115 6)) 1 11 (S.1 115 11)) 1 16 (S.1 115 16)) 1 18 (S.1 115 18)) 1 11 = _
    rw [u2_k _ _ _ (show 11 ≠ 18 by decide), u2_k _ _ _ (show 11 ≠ 16 by decide), u2_s]
  · show (u2 (u2 (u2 (u2 (u2 S.1 1 0 (S.1 115 0)) 1 6 (S.1 115 6)) 1 11 (S.1 115 11)) 1 16 (S.1 115 16)) 1 18 (S.1 115 18)) 1 16 = _
    rw [u2_k _ _ _ (show 16 ≠ 18 by decide), u2_s]
  · show (u2 (u2 (u2 (u2 (u2 S.1 1 0 (S.1 115 0)) 1 6 (S.1 115 6)) 1 11 (S.1 115 11)) 1 16 (S.1 115 16)) 1 18 (S.1 115 18)) 1 18 = _
    rw [u2_s]
end COPYF
