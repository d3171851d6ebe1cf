section SPLIT
def sC (b : Nat) : Nat := if 97 ≤ b ∧ b ≤ 122 then 1 else if 48 ≤ b ∧ b ≤ 57 then 2 else 3
theorem sort_eq (x : XT) (S : ST) (b : Nat) (hb : b < 256) : gfX4_sortOf x S (iN b) = some (iN (sC b), S) := by
  unfold gfX4_sortOf bfX4_sortOf_0 bfX4_sortOf_16 bfX4_sortOf_32 bfX4_sortOf_33 sC
  have lt : ∀ m : Nat, m < 300 → ((iN b < iN m) = (b < m)) := fun m hm => propext (iN_lt (by omega) (by omega))
  have gt : ∀ m : Nat, m < 300 → ((iN m < iN b) = (m < b)) := fun m hm => propext (iN_lt (by omega) (by omega))
  rw [show (97 : Int32) = iN 97 from rfl, show (122 : Int32) = iN 122 from rfl, show (48 : Int32) = iN 48 from rfl, show (57 : Int32) = iN 57 from rfl]
  simp only [lt 97 (by omega), gt 122 (by omega), lt 48 (by omega), gt 57 (by omega)]
  by_cases c1 : b < 97
  · rw [if_pos c1, if_neg (show ¬ (97 ≤ b ∧ b ≤ 122) by omega)]
    by_cases c2 : b < 48
    · rw [if_pos c2, if_neg (by omega)]; rfl
    · rw [if_neg c2]
      by_cases c3 : 57 < b
      · rw [if_pos c3, if_neg (by omega)]; rfl
      · rw [if_neg c3, if_pos (by omega)]; rfl
  · rw [if_neg c1]
    by_cases c2 : 122 < b
    · rw [if_pos c2, if_neg (show ¬ b < 48 by omega), if_pos (show 57 < b by omega), if_neg (show ¬ (97 ≤ b ∧ b ≤ 122) by omega), if_neg (show ¬ (48 ≤ b ∧ b ≤ 57) by omega)]; rfl
    · rw [if_neg c2, if_pos (by omega)]; rfl
theorem small_eq (x : XT) (T : ST) (b : Nat) (hb : b < 256) : gfX11_isSmall x T ((iN b).toInt8.toInt32) = some (bz (decide (sC b = 1)), T) := by
  have h := (sb_all ⟨b, hb⟩).1.2.1
  dsimp only at h
  unfold gfX11_isSmall bfX11_isSmall_0 bfX11_isSmall_16 bfX11_isSmall_17 sC
  by_cases c : 97 ≤ b ∧ b ≤ 122
  · obtain ⟨h1, h2⟩ := h.mpr c
    rw [if_neg h1, if_neg h2, if_pos c]; rfl
  · rw [if_neg c]
    have e : decide ((if 48 ≤ b ∧ b ≤ 57 then 2 else 3) = 1) = false := by
      by_cases z : 48 ≤ b ∧ b ≤ 57
      · rw [if_pos z]; rfl
      · rw [if_neg z]; rfl
    rw [e]
    by_cases h1 : (iN b).toInt8.toInt32 < 97
    · rw [if_pos h1]; rfl
    · rw [if_neg h1, if_pos (Classical.byContradiction (fun h2 => c (h.mp ⟨h1, h2⟩)))]; rfl
theorem digit_eq (x : XT) (T : ST) (b : Nat) (hb : b < 256) : gfX11_isDigit x T ((iN b).toInt8.toInt32) = some (bz (decide (sC b = 2)), T) := by
  have h := (sb_all ⟨b, hb⟩).1.2.2
  dsimp only at h
  unfold gfX11_isDigit bfX11_isDigit_0 bfX11_isDigit_16 bfX11_isDigit_17 sC
  by_cases c : 48 ≤ b ∧ b ≤ 57
  · obtain ⟨h1, h2⟩ := h.mpr c
    rw [if_neg h1, if_neg h2, if_neg (show ¬ (97 ≤ b ∧ b ≤ 122) by omega), if_pos c]; rfl
  · have e : decide ((if 97 ≤ b ∧ b ≤ 122 then 1 else if 48 ≤ b ∧ b ≤ 57 then 2 else 3) = 2) = false := by
      rw [if_neg c]
      by_cases z : 97 ≤ b ∧ b ≤ 122
      · rw [if_pos z]; rfl
      · rw [if_neg z]; rfl
    rw [e]
    by_cases h1 : (iN b).toInt8.toInt32 < 48
    · rw [if_pos h1]; rfl
    · rw [if_neg h1, if_pos (Classical.byContradiction (fun h2 => c (h.mp ⟨h1, h2⟩)))]; rfl
/-- where a run ends -/
def rE (q : Nat → Bool) : Nat → Nat → Nat
  | 0, t => t
  | d + 1, t => if q t = true then rE q d (t + 1) else t
theorem rE_le (q : Nat → Bool) : ∀ (d t : Nat), t ≤ rE q d t ∧ rE q d t ≤ t + d
  | 0, t => ⟨Nat.le_refl _, by rw [rE]; omega⟩
  | d + 1, t => by
    rw [rE]
    by_cases c : q t = true
    · rw [if_pos c]; have := rE_le q d (t + 1); omega
    · rw [if_neg c]; omega
theorem rE_all (q : Nat → Bool) : ∀ (d t z : Nat), t ≤ z → z < rE q d t → q z = true
  | 0, t, z, h1, h2 => by rw [rE] at h2; omega
  | d + 1, t, z, h1, h2 => by
    rw [rE] at h2
    by_cases c : q t = true
    · rw [if_pos c] at h2
      by_cases e : z = t
      · rw [e]; exact c
      · exact rE_all q d (t + 1) z (by omega) h2
    · rw [if_neg c] at h2; omega
/-- the tape on both sides -/
def Tp (S T : ST) (sz : Nat) (tb : Nat → Nat) : Prop := sz ≤ 400 ∧ S.1 18 1 = iN sz ∧ (∀ i, i < 400 → tb i < 256 ∧ S.2.1 19 i = iN (tb i)) ∧ (∀ i, i < 400 → tb i < 256 ∧ T.2.1 137 i = (iN (tb i)).toInt8.toInt32) ∧ ∀ k, k < 122 → T.2.1 136 k = rwB.getD k 0
def wSp : WS := ([(24, 5)], [30, 31, 32], [], [])
def wSq : WS := ([(130, 18)], [139, 140, 141], [], [])
theorem Tp.cg {S S' T T' : ST} {sz : Nat} {tb : Nat → Nat} (h : Tp S T sz tb) (a : Agr wSp S S') (b : Agr wSq T T') : Tp S' T' sz tb := by
  unfold Tp
  rw [a.1 18 1 (by decide), a.2.1 19 (by decide), b.2.1 137 (by decide), b.2.1 136 (by decide)]
  exact h
theorem beh_l (x : XT) {S T : ST} {sz : Nat} {tb : Nat → Nat} (h : Tp S T sz tb) (s : Nat) (hs : s = 1 ∨ s = 2) : ∀ (d t f : Nat), t + d = sz → d < f → lfX4_behindToken_24_18_15 x f S (iN s) (iN t) = some (iN (rE (fun z => decide (sC (tb z) = s)) d t), S)
  | 0, t, f, ht, hf => by
    obtain ⟨f, rfl⟩ : ∃ z, f = z + 1 := ⟨f - 1, by omega⟩
    have hz := h.1
    rw [lfX4_behindToken_24_18_15, bfX4_behindToken_24_18_15, if_neg (show ¬ iN s = 3 from fun z => by have := (iN_eq (n := 3) (by omega) (by omega)).mp z; omega), h.2.1, if_pos ((iN_le (by omega) (by omega)).mpr (by omega)), bfX4_behindToken_24_18_49, rE]
  | d + 1, t, f, ht, hf => by
    obtain ⟨f, rfl⟩ : ∃ z, f = z + 1 := ⟨f - 1, by omega⟩
    have hz := h.1
    obtain ⟨b1, b2⟩ := h.2.2.1 t (by omega)
    have sl : sC (tb t) < 4 := by
      unfold sC
      by_cases c : 97 ≤ tb t ∧ tb t ≤ 122
      · rw [if_pos c]; omega
      · rw [if_neg c]
        by_cases c : 48 ≤ tb t ∧ tb t ≤ 57
        · rw [if_pos c]; omega
        · rw [if_neg c]; omega
    rw [lfX4_behindToken_24_18_15, bfX4_behindToken_24_18_15, if_neg (show ¬ iN s = 3 from fun z => by have := (iN_eq (n := 3) (by omega) (by omega)).mp z; omega), h.2.1, if_neg (fun z => by have := (iN_le (by omega) (by omega)).mp z; omega), inb_t (show t < 400 by omega) (by omega), cond_true, iN_nat (by omega), b2, sort_eq x S (tb t) b1, rE]
    dsimp only
    by_cases c : sC (tb t) = s
    · rw [if_neg (fun z => z (by rw [c])), decide_eq_true c, if_pos rfl, iN_succ]
      exact beh_l x h s hs d (t + 1) f (by omega) (by omega)
    · rw [if_pos (show ¬ iN (sC (tb t)) = iN s from fun z => c ((iN_eq (by omega) (by omega)).mp z)), decide_eq_false c, if_neg (by decide), bfX4_behindToken_24_18_49]
/-- where the TOKEN that begins at i ends -/
def tE (tb : Nat → Nat) (sz i : Nat) : Nat := if sC (tb i) = 3 then i + 1 else rE (fun z => decide (sC (tb z) = sC (tb i))) (sz - (i + 1)) (i + 1)
theorem sC_3 (b : Nat) : sC b = 1 ∨ sC b = 2 ∨ sC b = 3 := by
  unfold sC
  by_cases c : 97 ≤ b ∧ b ≤ 122
  · rw [if_pos c]; omega
  · rw [if_neg c]
    by_cases c : 48 ≤ b ∧ b ≤ 57
    · rw [if_pos c]; omega
    · rw [if_neg c]; omega
theorem tE_le (tb : Nat → Nat) (sz i : Nat) (hi : i < sz) : i < tE tb sz i ∧ tE tb sz i ≤ sz := by
  unfold tE
  by_cases c : sC (tb i) = 3
  · rw [if_pos c]; omega
  · rw [if_neg c]; have := rE_le (fun z => decide (sC (tb z) = sC (tb i))) (sz - (i + 1)) (i + 1); omega
theorem tE_all (tb : Nat → Nat) (sz i z : Nat) (h1 : i ≤ z) (h2 : z < tE tb sz i) : sC (tb z) = sC (tb i) := by
  by_cases e : z = i
  · rw [e]
  · unfold tE at h2
    by_cases c : sC (tb i) = 3
    · rw [if_pos c] at h2; omega
    · rw [if_neg c] at h2
      exact of_decide_eq_true (rE_all (fun z => decide (sC (tb z) = sC (tb i))) (sz - (i + 1)) (i + 1) z (by omega) h2)
theorem behind_tok (x : XT) {S T : ST} {sz : Nat} {tb : Nat → Nat} (h : Tp S T sz tb) (i : Nat) (hi : i < sz) : gfX4_behindToken_24_18 x S (iN i) = some (iN (tE tb sz i), S) := by
  have hz := h.1
  obtain ⟨b1, b2⟩ := h.2.2.1 i (by omega)
  unfold gfX4_behindToken_24_18 bfX4_behindToken_24_18_0
  rw [inb_t (show i < 400 by omega) (by omega), cond_true, iN_nat (by omega), b2, sort_eq x S (tb i) b1]
  dsimp only
  rw [iN_succ]
  unfold tE
  by_cases c : sC (tb i) = 3
  · rw [if_pos c, c, show (20000 : Nat) = 19999 + 1 from rfl, lfX4_behindToken_24_18_15, bfX4_behindToken_24_18_15, if_pos (show iN 3 = 3 from rfl), bfX4_behindToken_24_18_49]
  · rw [if_neg c]
    exact beh_l x h (sC (tb i)) (by have := sC_3 (tb i); omega) (sz - (i + 1)) (i + 1) 20000 (by omega) (by omega)
theorem r43_l (x : XT) {S T : ST} {sz : Nat} {tb : Nat → Nat} (h : Tp S T sz tb) (k7 : ST → Int32 → Int32 → Option (Unit × ST)) (v2 v3 : Int32) : ∀ (d t f : Nat), t + d = sz → d < f → lfX11_splits_130_43 x k7 f T (iN sz) v2 v3 (iN t) = bfX11_splits_130_68 x k7 T (iN sz) v2 v3 (iN (rE (fun z => decide (sC (tb z) = 1)) d t))
  | 0, t, f, ht, hf => by
    obtain ⟨f, rfl⟩ : ∃ z, f = z + 1 := ⟨f - 1, by omega⟩
    have hz := h.1
    rw [lfX11_splits_130_43, bfX11_splits_130_43, if_pos ((iN_le (by omega) (by omega)).mpr (by omega)), rE]
  | d + 1, t, f, ht, hf => by
    obtain ⟨f, rfl⟩ : ∃ z, f = z + 1 := ⟨f - 1, by omega⟩
    have hz := h.1
    obtain ⟨b1, b2⟩ := h.2.2.2.1 t (by omega)
    rw [lfX11_splits_130_43, bfX11_splits_130_43, if_neg (fun z => by have := (iN_le (by omega) (by omega)).mp z; omega), inb_t (show t < 400 by omega) (by omega), cond_true, iN_nat (by omega), b2, small_eq x T (tb t) b1, rE]
    dsimp only
    by_cases c : sC (tb t) = 1
    · rw [decide_eq_true c, if_neg (by decide), if_pos rfl, iN_succ]
      exact r43_l x h k7 v2 v3 d (t + 1) f (by omega) (by omega)
    · rw [decide_eq_false c, if_pos (by decide), if_neg (by decide)]
theorem r75_l (x : XT) {S T : ST} {sz : Nat} {tb : Nat → Nat} (h : Tp S T sz tb) (k7 : ST → Int32 → Int32 → Option (Unit × ST)) (v2 v3 : Int32) : ∀ (d t f : Nat), t + d = sz → d < f → lfX11_splits_130_75 x k7 f T (iN sz) v2 v3 (iN t) = bfX11_splits_130_100 x k7 T (iN sz) v2 v3 (iN (rE (fun z => decide (sC (tb z) = 2)) d t))
  | 0, t, f, ht, hf => by
    obtain ⟨f, rfl⟩ : ∃ z, f = z + 1 := ⟨f - 1, by omega⟩
    have hz := h.1
    rw [lfX11_splits_130_75, bfX11_splits_130_75, if_pos ((iN_le (by omega) (by omega)).mpr (by omega)), rE]
  | d + 1, t, f, ht, hf => by
    obtain ⟨f, rfl⟩ : ∃ z, f = z + 1 := ⟨f - 1, by omega⟩
    have hz := h.1
    obtain ⟨b1, b2⟩ := h.2.2.2.1 t (by omega)
    rw [lfX11_splits_130_75, bfX11_splits_130_75, if_neg (fun z => by have := (iN_le (by omega) (by omega)).mp z; omega), inb_t (show t < 400 by omega) (by omega), cond_true, iN_nat (by omega), b2, digit_eq x T (tb t) b1, rE]
    dsimp only
    by_cases c : sC (tb t) = 2
    · rw [decide_eq_true c, if_neg (by decide), if_pos rfl, iN_succ]
      exact r75_l x h k7 v2 v3 d (t + 1) f (by omega) (by omega)
    · rw [decide_eq_false c, if_pos (by decide), if_neg (by decide)]
/-- the reference at a byte that is no blank -/
theorem r7_tok (x : XT) {S T : ST} {sz : Nat} {tb : Nat → Nat} (h : Tp S T sz tb) (i f : Nat) (hi : i < sz) (hb : tb i ≠ 32) : lfX11_splits_130_7 x (f + 1) T (iN sz) (iN i) = bfX11_splits_130_100 x (lfX11_splits_130_7 x f) T (iN sz) (iN i) ((iN (tb i)).toInt8.toInt32) (iN (tE tb sz i)) := by
  have hz := h.1
  obtain ⟨b1, b2⟩ := h.2.2.2.1 i (by omega)
  have s32 := (sb_all ⟨tb i, b1⟩).1.1
  dsimp only at s32
  rw [lfX11_splits_130_7, bfX11_splits_130_7, if_neg (fun z => by have := (iN_le (by omega) (by omega)).mp z; omega), inb_t (show i < 400 by omega) (by omega), cond_true, iN_nat (by omega), b2, if_pos (fun z => hb (s32.mp z)), small_eq x T (tb i) b1]
  dsimp only
  rw [iN_succ]
  unfold tE
  rcases sC_3 (tb i) with c | c | c
  · rw [c, show decide ((1 : Nat) = 1) = true from rfl, if_neg (show ¬ bz true = 0 by decide), if_neg (show ¬ (1 : Nat) = 3 by decide), r43_l x h _ _ _ (sz - (i + 1)) (i + 1) 20000 (by omega) (by omega)]
    unfold bfX11_splits_130_68
    rw [digit_eq x T (tb i) b1, c]
    rfl
  · rw [c, show decide ((2 : Nat) = 1) = false from rfl, if_pos (show bz false = 0 from rfl), if_neg (show ¬ (2 : Nat) = 3 by decide)]
    unfold bfX11_splits_130_68
    rw [digit_eq x T (tb i) b1, c]
    dsimp only
    rw [if_neg (show ¬ bz (decide ((2 : Nat) = 2)) = 0 by decide), r75_l x h _ _ _ (sz - (i + 1)) (i + 1) 20000 (by omega) (by omega)]
  · rw [c, show decide ((3 : Nat) = 1) = false from rfl, if_pos (show bz false = 0 from rfl), if_pos (show (3 : Nat) = 3 from rfl)]
    unfold bfX11_splits_130_68
    rw [digit_eq x T (tb i) b1, c]
    rfl
end SPLIT
