section MEET
theorem meet_cp (x : XT) (v2 v3 : Int32) : ∀ (d k fuel : Nat) (T : ST), k + d = 120 → d < fuel → (∀ q, q < k → T.2.1 153 q = T.2.1 148 q) → ∃ T', lfX11_meet_130_50 x fuel T v2 v3 (iN k) = lfX11_meet_130_50 x 1 T' v2 v3 120 ∧ Agr ([], [153], [], []) T T' ∧ ∀ q, q < 120 → T'.2.1 153 q = T'.2.1 148 q
  | 0, k, fuel, T, hk, hf, h => by
    obtain ⟨fuel, rfl⟩ : ∃ z, fuel = z + 1 := ⟨fuel - 1, by omega⟩
    have e : k = 120 := by omega
    subst e
    refine ⟨T, ?_, Agr.rf, h⟩
    rw [lfX11_meet_130_50, lfX11_meet_130_50, show iN 120 = 120 from rfl, bfX11_meet_130_50, bfX11_meet_130_50, if_pos (show (120 : Int32) ≤ 120 by decide), if_pos (show (120 : Int32) ≤ 120 by decide)]
  | d + 1, k, fuel, T, hk, hf, h => by
    obtain ⟨fuel, rfl⟩ : ∃ z, fuel = z + 1 := ⟨fuel - 1, by omega⟩
    have e48 : ∀ q, (u2 T.2.1 153 k (T.2.1 148 k)) 148 q = T.2.1 148 q := fun q => by rw [u2_ro _ _ _ (by decide)]
    obtain ⟨T', r1, r2, r3⟩ := meet_cp x v2 v3 d (k + 1) fuel (T.1, u2 T.2.1 153 k (T.2.1 148 k), T.2.2.1, T.2.2.2) (by omega) (by omega) (fun q hq => by
      dsimp only
      rw [e48]
      by_cases e : q = k
      · subst e; rw [u2_s]
      · rw [u2_k _ _ _ e]; exact h q (by omega))
    refine ⟨T', ?_, (Agr.i Agr.rf 153 k _ (by decide)).tr r2, r3⟩
    rw [lfX11_meet_130_50, bfX11_meet_130_50, if_neg (show ¬ (120 : Int32) ≤ iN k from fun z => by have := (iN_le (m := 120) (by omega) (by omega)).mp z; omega), inb_t (show k < 120 by omega) (by omega), cond_true, cond_true, iN_nat (by omega), iN_succ]
    exact r1
/-- the longer of two -/
def lgC (S : ST) (q : Nat) : Int32 := if S.2.1 72 q < S.2.1 75 q then S.2.1 75 q else S.2.1 72 q
def lgR (T : ST) (q : Nat) : Int32 := if T.2.1 153 q ≤ T.2.1 148 q then T.2.1 148 q else T.2.1 153 q
def MU (S T : ST) (q : Nat) : Prop := ((S.2.1 72 q = -1 ∨ S.2.1 75 q = -1) ∧ lgR T q = 1000000) ∨ ∃ m, m < 1000 ∧ ¬ S.2.1 72 q = -1 ∧ ¬ S.2.1 75 q = -1 ∧ lgC S q = iN m ∧ lgR T q = iN m
theorem longer_eq (x : XT) (S : ST) (q : Nat) (hq : q < 120) : gfX6_longerSteps_54 x S (iN q) = some (lgC S q, S) := by
  unfold gfX6_longerSteps_54 bfX6_longerSteps_54_0 bfX6_longerSteps_54_28 lgC
  rw [show (120 : Int32) = iN 120 from rfl, within_eq x S _ 120 (by omega), inb_t hq (by omega)]
  dsimp only
  rw [if_neg (show ¬ bz true = 0 by decide), cond_true, cond_true, iN_nat (by omega)]
theorem meet_loop (x : XT) (S T : ST) (hM : ∀ q, q < 120 → MU S T q) (w : Int32) : ∀ (d k f1 f2 : Nat) (b v : Int32), k + d = 120 → d < f1 → d < f2 → ((b = -1 ∧ v = 1000000) ∨ ∃ b0 m, b0 < 120 ∧ m < 1000 ∧ b = iN b0 ∧ v = iN m ∧ lgC S b0 = iN m) → ∃ r, lfX6_meetingPlace_54_8 x f1 S b (iN k) = some (r, S) ∧ ((r = -1 ∧ lfX11_meet_130_102 x f2 T w b v (iN k) = some (-1, T)) ∨ ∃ b0, b0 < 120 ∧ r = iN b0 ∧ lfX11_meet_130_102 x f2 T w b v (iN k) = some (if ¬ w = 0 then lgC S b0 else iN b0, T))
  | 0, k, f1, f2, b, v, hk, l1, l2, hI => by
    obtain ⟨f1, rfl⟩ : ∃ z, f1 = z + 1 := ⟨f1 - 1, by omega⟩
    obtain ⟨f2, rfl⟩ : ∃ z, f2 = z + 1 := ⟨f2 - 1, by omega⟩
    have e : k = 120 := by omega
    subst e
    rw [lfX6_meetingPlace_54_8, bfX6_meetingPlace_54_8, if_pos (show (120 : Int32) ≤ iN 120 by decide), lfX11_meet_130_102, bfX11_meet_130_102, if_pos (show (120 : Int32) ≤ iN 120 by decide)]
    unfold bfX11_meet_130_162 bfX11_meet_130_169
    refine ⟨b, rfl, ?_⟩
    rcases hI with ⟨rfl, rfl⟩ | ⟨b0, m, h1, h2, rfl, rfl, h3⟩
    · rw [if_pos rfl]; exact Or.inl ⟨rfl, rfl⟩
    · rw [if_neg (iN_m1 (by omega)), ← h3]
      refine Or.inr ⟨b0, h1, rfl, ?_⟩
      by_cases e : w = 0
      · rw [if_neg (fun z => z e), if_neg (fun z => z e)]
      · rw [if_pos e, if_pos e]
  | d + 1, k, f1, f2, b, v, hk, l1, l2, hI => by
    obtain ⟨f1, rfl⟩ : ∃ z, f1 = z + 1 := ⟨f1 - 1, by omega⟩
    obtain ⟨f2, rfl⟩ : ∃ z, f2 = z + 1 := ⟨f2 - 1, by omega⟩
    have n120 : ¬ (120 : Int32) ≤ iN k := fun z => by have := (iN_le (m := 120) (by omega) (by omega)).mp z; omega
    have hg : gfX11_greater x T (T.2.1 153 k) (T.2.1 148 k) = some (lgR T k, T) := by
      unfold gfX11_greater bfX11_greater_0 bfX11_greater_10 lgR
      by_cases e : T.2.1 153 k ≤ T.2.1 148 k
      · rw [if_pos e, if_pos e]
      · rw [if_neg e, if_neg e]
    have hI2 : v = 1000000 ∨ ∃ m, m < 1000 ∧ v = iN m := by
      rcases hI with ⟨-, e⟩ | ⟨b0, m, h1, h2, -, e, -⟩
      · exact Or.inl e
      · exact Or.inr ⟨m, h2, e⟩
    rw [lfX6_meetingPlace_54_8, bfX6_meetingPlace_54_8, if_neg n120, lfX11_meet_130_102, bfX11_meet_130_102, if_neg n120]
    unfold bfX6_meetingPlace_54_52 bfX6_meetingPlace_54_54 bfX11_meet_130_146
    rw [inb_t (show k < 120 by omega) (by omega), iN_nat (by omega), iN_succ, hg]
    simp only [cond_true]
    have step := fun b v hI => meet_loop x S T hM w d (k + 1) f1 f2 b v (by omega) (by omega) (by omega) hI
    rcases hM k (by omega) with ⟨u1, u2⟩ | ⟨m, u1, u2, u3, u4, u5⟩
    · rw [u2, if_neg (show ¬ (1000000 : Int32) < v from fun z => by
        rcases hI2 with e | ⟨m, h2, e⟩
        · rw [e] at z; exact absurd z (by decide)
        · rw [e] at z; have := (iN_lt (m := 1000000) (by omega) (by omega)).mp z; omega)]
      by_cases e : S.2.1 72 k = -1
      · rw [if_pos e]; exact step b v hI
      · rw [if_neg e, if_pos (u1.resolve_left e)]; exact step b v hI
    · rw [if_neg u2, if_neg u3, u5]
      rcases hI with ⟨rfl, rfl⟩ | ⟨b0, m0, h1, h2, rfl, rfl, h3⟩
      · rw [if_pos rfl, if_pos (show iN m < 1000000 from (iN_lt (n := 1000000) (by omega) (by omega)).mpr (by omega))]
        exact step _ _ (Or.inr ⟨k, m, by omega, u1, rfl, rfl, u4⟩)
      · rw [if_neg (iN_m1 (by omega)), longer_eq x S k (by omega)]
        dsimp only
        rw [longer_eq x S b0 h1]
        dsimp only
        rw [u4, h3]
        by_cases e : m0 ≤ m
        · rw [if_pos ((iN_le (by omega) (by omega)).mpr e), if_neg (fun z => by have := (iN_lt (by omega) (by omega)).mp z; omega)]
          exact step _ _ (Or.inr ⟨b0, m0, h1, h2, rfl, rfl, h3⟩)
        · rw [if_neg (fun z => e ((iN_le (by omega) (by omega)).mp z)), if_pos ((iN_lt (by omega) (by omega)).mpr (by omega))]
          exact step _ _ (Or.inr ⟨k, m, by omega, u1, rfl, rfl, u4⟩)
theorem mu_of {S T : ST} {q : Nat} (h1 : (S.2.1 72 q = -1 ∧ T.2.1 148 q = 1000000) ∨ ∃ d, d < 120 ∧ S.2.1 72 q = iN d ∧ T.2.1 148 q = iN d) (h2 : (S.2.1 75 q = -1 ∧ T.2.1 153 q = 1000000) ∨ ∃ d, d < 120 ∧ S.2.1 75 q = iN d ∧ T.2.1 153 q = iN d) : MU S T q := by
  unfold MU lgC lgR
  rcases h1 with ⟨a1, a2⟩ | ⟨d, a0, a1, a2⟩
  · refine Or.inl ⟨Or.inl a1, ?_⟩
    rcases h2 with ⟨b1, b2⟩ | ⟨e, b0, b1, b2⟩
    · rw [a2, b2]; rfl
    · rw [a2, b2, if_pos (show iN e ≤ 1000000 from (iN_le (n := 1000000) (by omega) (by omega)).mpr (by omega))]
  · rcases h2 with ⟨b1, b2⟩ | ⟨e, b0, b1, b2⟩
    · refine Or.inl ⟨Or.inr b1, ?_⟩
      rw [a2, b2, if_neg (show ¬ (1000000 : Int32) ≤ iN d from fun z => by have := (iN_le (m := 1000000) (by omega) (by omega)).mp z; omega)]
    · refine Or.inr ⟨max d e, by omega, by rw [a1]; exact iN_m1 (by omega), by rw [b1]; exact iN_m1 (by omega), ?_, ?_⟩
      · rw [a1, b1]
        by_cases z : d < e
        · rw [if_pos ((iN_lt (by omega) (by omega)).mpr z), Nat.max_eq_right (by omega)]
        · rw [if_neg (fun q => z ((iN_lt (by omega) (by omega)).mp q)), Nat.max_eq_left (by omega)]
      · rw [a2, b2]
        by_cases z : e ≤ d
        · rw [if_pos ((iN_le (by omega) (by omega)).mpr z), Nat.max_eq_left (by omega)]
        · rw [if_neg (fun q => z ((iN_le (by omega) (by omega)).mp q)), Nat.max_eq_right (by omega)]
end MEET
