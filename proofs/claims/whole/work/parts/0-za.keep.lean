section KEEP
theorem cpy_0 {α : Type} (f g : Nat → α) (sp dp : Nat) : va_cpy f g sp dp 0 = g := by
  funext k; unfold va_cpy; rw [if_neg (by omega)]
theorem cpy_s {α : Type} (f g : Nat → α) (sp dp n : Nat) : u1 (va_cpy f g sp dp n) (dp + n) (f (sp + n)) = va_cpy f g sp dp (n + 1) := by
  funext k
  rw [u1_if]
  unfold va_cpy
  by_cases h : k = dp + n
  · subst h; rw [if_pos rfl, if_pos (by omega), show sp + (dp + n - dp) = sp + n by omega]
  · rw [if_neg h]
    by_cases h2 : dp ≤ k ∧ k < dp + n
    · rw [if_pos h2, if_pos (by omega)]
    · rw [if_neg h2, if_neg (by omega)]
theorem cpy_in {α : Type} (f g : Nat → α) {sp dp n k : Nat} (h1 : dp ≤ k) (h2 : k < dp + n) : va_cpy f g sp dp n k = f (sp + (k - dp)) := by
  unfold va_cpy; rw [if_pos ⟨h1, h2⟩]
theorem cpy_out {α : Type} (f g : Nat → α) {sp dp n k : Nat} (h : k < dp ∨ dp + n ≤ k) : va_cpy f g sp dp n k = g k := by
  unfold va_cpy; rw [if_neg (by omega)]
theorem u1_u1 {α : Type} (f : Nat → α) (a : Nat) (v w : α) : u1 (u1 f a v) a w = u1 f a w := by
  funext k
  by_cases h : k = a
  · subst h; rw [u1_s, u1_s]
  · rw [u1_n _ _ h, u1_n _ _ h, u1_n _ _ h]
theorem u1_self {α : Type} (f : Nat → α) (a : Nat) : u1 f a (f a) = f := by
  funext k
  by_cases h : k = a
  · subst h; rw [u1_s]
  · rw [u1_n _ _ h]
/-- a state with another row of ints at c -/
def wA (S : ST) (c : Nat) (g : Nat → Int32) : ST := (S.1, u1 S.2.1 c g, S.2.2.1, S.2.2.2)
theorem wA_s (S : ST) (c : Nat) (g : Nat → Int32) : (wA S c g).2.1 c = g := u1_s _ _ _
theorem wA_n (S : ST) (g : Nat → Int32) {c a : Nat} (h : a ≠ c) : (wA S c g).2.1 a = S.2.1 a := u1_n _ _ h
theorem wA_self (S : ST) (c : Nat) : wA S c (S.2.1 c) = S := by unfold wA; rw [u1_self]
theorem wA_u2 (S : ST) (c : Nat) (g : Nat → Int32) (k : Nat) (v : Int32) : ((wA S c g).1, u2 (wA S c g).2.1 c k v, (wA S c g).2.2.1, (wA S c g).2.2.2) = wA S c (u1 g k v) := by
  unfold wA; dsimp only; rw [u2_u1]
theorem wA_wA (S : ST) (c : Nat) (g h : Nat → Int32) : wA (wA S c g) c h = wA S c h := by unfold wA; dsimp only; rw [u1_u1]
theorem keepC (x : XT) (S : ST) (n : Nat) (hn : n ≤ 16) (h : S.1 33 0 = iN n) (w a b c d : Int32) : ∃ u' m, m ≤ 15 ∧ (n < 16 → m = n) ∧ (n = 16 → m = 15) ∧ gfX1_keep_33 x S w a b c d = some ((), (u2 S.1 33 0 (iN (m + 1)), u1 S.2.1 34 u', S.2.2.1, S.2.2.2)) ∧ (∀ k i, k < m → i < 5 → u' (5 * k + i) = S.2.1 34 (5 * (k + (n - m)) + i)) ∧ u' (5 * m) = w ∧ u' (5 * m + 1) = a ∧ u' (5 * m + 2) = b ∧ u' (5 * m + 3) = c ∧ u' (5 * m + 4) = d := by
  have main : ∀ (S : ST) (m : Nat), m ≤ 15 → S.1 33 0 = iN m → bfX1_keep_33_30 x S w a b c d = some ((), (u2 S.1 33 0 (iN (m + 1)), u1 S.2.1 34 (u1 (u1 (u1 (u1 (u1 (S.2.1 34) (5 * m) w) (5 * m + 1) a) (5 * m + 2) b) (5 * m + 3) c) (5 * m + 4) d), S.2.2.1, S.2.2.2)) := by
    intro S m hm h
    have e0 : iN m * 5 = iN (5 * m) := by rw [show (5 : Int32) = iN 5 from rfl, iN_mul, Nat.mul_comm]
    unfold bfX1_keep_33_30
    rw [h, e0, show iN (5 * m) + 1 = iN (5 * m + 1) from iN_add _ 1, show iN (5 * m) + 2 = iN (5 * m + 2) from iN_add _ 2, show iN (5 * m) + 3 = iN (5 * m + 3) from iN_add _ 3, show iN (5 * m) + 4 = iN (5 * m + 4) from iN_add _ 4, inb_t (show 5 * m < 80 by omega) (by omega), inb_t (show 5 * m + 1 < 80 by omega) (by omega), inb_t (show 5 * m + 2 < 80 by omega) (by omega), inb_t (show 5 * m + 3 < 80 by omega) (by omega), inb_t (show 5 * m + 4 < 80 by omega) (by omega), iN_nat (by omega), iN_nat (by omega), iN_nat (by omega), iN_nat (by omega), iN_nat (by omega), iN_succ]
    simp only [cond_true]
    rw [show u2 S.2.1 34 (5 * m) w = u1 S.2.1 34 (u1 (S.2.1 34) (5 * m) w) from rfl, u2_u1, u2_u1, u2_u1, u2_u1]
  have rows : ∀ (g : Nat → Int32) (m : Nat), (∀ k i, k < m → i < 5 → u1 (u1 (u1 (u1 (u1 g (5 * m) w) (5 * m + 1) a) (5 * m + 2) b) (5 * m + 3) c) (5 * m + 4) d (5 * k + i) = g (5 * k + i)) ∧ u1 (u1 (u1 (u1 (u1 g (5 * m) w) (5 * m + 1) a) (5 * m + 2) b) (5 * m + 3) c) (5 * m + 4) d (5 * m) = w ∧ u1 (u1 (u1 (u1 (u1 g (5 * m) w) (5 * m + 1) a) (5 * m + 2) b) (5 * m + 3) c) (5 * m + 4) d (5 * m + 1) = a ∧ u1 (u1 (u1 (u1 (u1 g (5 * m) w) (5 * m + 1) a) (5 * m + 2) b) (5 * m + 3) c) (5 * m + 4) d (5 * m + 2) = b ∧ u1 (u1 (u1 (u1 (u1 g (5 * m) w) (5 * m + 1) a) (5 * m + 2) b) (5 * m + 3) c) (5 * m + 4) d (5 * m + 3) = c ∧ u1 (u1 (u1 (u1 (u1 g (5 * m) w) (5 * m + 1) a) (5 * m + 2) b) (5 * m + 3) c) (5 * m + 4) d (5 * m + 4) = d := by
    intro g m
    refine ⟨fun k i hk hi => ?_, ?_, ?_, ?_, ?_, ?_⟩
    · rw [u1_n _ _ (by omega), u1_n _ _ (by omega), u1_n _ _ (by omega), u1_n _ _ (by omega), u1_n _ _ (by omega)]
    · rw [u1_n _ _ (by omega), u1_n _ _ (by omega), u1_n _ _ (by omega), u1_n _ _ (by omega), u1_s]
    · rw [u1_n _ _ (by omega), u1_n _ _ (by omega), u1_n _ _ (by omega), u1_s]
    · rw [u1_n _ _ (by omega), u1_n _ _ (by omega), u1_s]
    · rw [u1_n _ _ (by omega), u1_s]
    · rw [u1_s]
  unfold gfX1_keep_33 bfX1_keep_33_0
  rw [h]
  by_cases hc : n < 16
  · obtain ⟨r0, r1⟩ := rows (S.2.1 34) n
    refine ⟨_, n, by omega, fun _ => rfl, fun e => by omega, ?_, fun k i hk hi => ?_, r1⟩
    · rw [if_pos (show iN n < 16 from (iN_lt (n := 16) (by omega) (by omega)).mpr hc)]
      exact main S n (by omega) h
    · rw [show k + (n - n) = k by omega]; exact r0 k i hk hi
  · have hn16 : n = 16 := by omega
    subst hn16
    obtain ⟨r0, r1⟩ := rows (va_cpy (S.2.1 34) (S.2.1 34) 5 0 75) 15
    refine ⟨_, 15, by omega, fun e => by omega, fun _ => rfl, ?_, fun k i hk hi => ?_, r1⟩
    · rw [if_neg (show ¬ iN 16 < 16 by decide)]
      have := main (u2 S.1 33 0 15, u1 S.2.1 34 (va_cpy (S.2.1 34) (S.2.1 34) 5 0 75), S.2.2.1, S.2.2.2) 15 (by omega) (show u2 S.1 33 0 15 33 0 = iN 15 by rw [u2_s]; rfl)
      rw [this]
      dsimp only
      rw [u2_u2, u1_u1, u1_s]
    · rw [r0 k i hk hi, cpy_in _ _ (by omega) (by omega), show 5 + (5 * k + i - 0) = 5 * (k + (16 - 15)) + i by omega]
set_option maxRecDepth 4000 in
theorem keeps_in (x : XT) (w : Int32) (m : Nat) (hm : m ≤ 15) : ∀ (q k fuel : Nat) (T : ST), T.1 130 31 = iN m → k + q = 36 → q < fuel → lfX11_keeps_130_54 x fuel T w 37 (iN k) = some ((), (u2 T.1 130 31 (iN (m + 1)), u1 T.2.1 143 (u1 (va_cpy (T.2.1 132) (T.2.1 143) k (37 * m + k) q) (37 * m + 36) w), T.2.2.1, T.2.2.2))
  | 0, k, fuel, T, h, hk, hf => by
    obtain ⟨fuel, rfl⟩ : ∃ z, fuel = z + 1 := ⟨fuel - 1, by omega⟩
    have : k = 36 := by omega
    subst this
    show bfX11_keeps_130_54 x (lfX11_keeps_130_54 x fuel) T w 37 (iN 36) = _
    unfold bfX11_keeps_130_54
    have e0 : (37 : Int32) * iN m + 36 = iN (37 * m + 36) := by rw [show (37 : Int32) * iN m = iN (37 * m) from iN_mul 37 m]; exact iN_add _ 36
    rw [if_pos (show (36 : Int32) ≤ iN 36 by decide), h, e0, inb_t (show 37 * m + 36 < 592 by omega) (by omega), cond_true, iN_nat (by omega), iN_succ, cpy_0, show u2 T.2.1 143 (37 * m + 36) w = u1 T.2.1 143 (u1 (T.2.1 143) (37 * m + 36) w) from rfl]
  | q + 1, k, fuel, T, h, hk, hf => by
    obtain ⟨fuel, rfl⟩ : ∃ z, fuel = z + 1 := ⟨fuel - 1, by omega⟩
    show bfX11_keeps_130_54 x (lfX11_keeps_130_54 x fuel) T w 37 (iN k) = _
    unfold bfX11_keeps_130_54
    have e0 : (37 : Int32) * iN m + iN k = iN (37 * m + k) := by rw [show (37 : Int32) * iN m = iN (37 * m) from iN_mul 37 m]; exact iN_add _ k
    rw [if_neg (fun hh => by have := (iN_le (m := 36) (by omega) (by omega)).mp hh; omega), h, e0, inb_t (show k < 5703 by omega) (by omega), cond_true, inb_t (show 37 * m + k < 592 by omega) (by omega), cond_true, iN_nat (by omega), iN_nat (by omega), iN_succ]
    rw [keeps_in x w m hm q (k + 1) fuel (T.1, u2 T.2.1 143 (37 * m + k) (T.2.1 132 k), T.2.2.1, T.2.2.2) h (by omega) (by omega)]
    dsimp only
    have e1 : u1 (u2 T.2.1 143 (37 * m + k) (T.2.1 132 k)) 143 = u1 T.2.1 143 := by
      funext v; rw [u2, u1_u1]
    rw [e1, u2_row, u2_ro _ _ _ (by decide)]
    congr 6
    funext z
    unfold va_cpy
    rw [u1_if]
    by_cases h1 : z = 37 * m + k
    · subst h1
      rw [if_neg (by omega), if_pos rfl, if_pos (by omega), show k + (37 * m + k - (37 * m + k)) = k by omega]
    · rw [if_neg h1]
      by_cases h2 : 37 * m + (k + 1) ≤ z ∧ z < 37 * m + (k + 1) + q
      · rw [if_pos h2, if_pos (by omega), show k + 1 + (z - (37 * m + (k + 1))) = k + (z - (37 * m + k)) by omega]
      · rw [if_neg h2, if_neg (by omega)]
set_option maxRecDepth 4000 in
theorem keeps_sh (x : XT) (w : Int32) (T : ST) (h : T.1 130 31 = iN 16) : ∀ (q k fuel : Nat), k + q = 555 → q < fuel → lfX11_keeps_130_14 x fuel (wA T 143 (va_cpy (T.2.1 143) (T.2.1 143) 37 0 k)) w 37 (iN k) = bfX11_keeps_130_52 x (u2 T.1 130 31 (iN 15), u1 T.2.1 143 (va_cpy (T.2.1 143) (T.2.1 143) 37 0 555), T.2.2.1, T.2.2.2) w 37
  | 0, k, fuel, hk, hf => by
    obtain ⟨fuel, rfl⟩ : ∃ z, fuel = z + 1 := ⟨fuel - 1, by omega⟩
    have : k = 555 := by omega
    subst this
    rw [lfX11_keeps_130_14, bfX11_keeps_130_14, if_pos (show (15 : Int32) * 37 ≤ iN 555 by decide)]
    unfold wA
    dsimp only
    rw [h, show iN 16 - 1 = iN 15 from rfl]
  | q + 1, k, fuel, hk, hf => by
    obtain ⟨fuel, rfl⟩ : ∃ z, fuel = z + 1 := ⟨fuel - 1, by omega⟩
    rw [lfX11_keeps_130_14, bfX11_keeps_130_14, if_neg (show ¬ (15 : Int32) * 37 ≤ iN k from fun hh => by have := (iN_le (m := 555) (by omega) (by omega)).mp hh; omega), show iN k + 37 = iN (k + 37) from iN_add k 37, inb_t (show k + 37 < 592 by omega) (by omega), cond_true, inb_t (show k < 592 by omega) (by omega), cond_true, iN_nat (by omega), iN_nat (by omega), iN_succ, wA_s, wA_u2, cpy_out _ _ (by omega)]
    have := cpy_s (T.2.1 143) (T.2.1 143) 37 0 k
    rw [Nat.zero_add, Nat.add_comm 37 k] at this
    rw [this]
    exact keeps_sh x w T h q (k + 1) fuel (by omega) (by omega)
theorem keepR (x : XT) (T : ST) (n : Nat) (hn : n ≤ 16) (h : T.1 130 31 = iN n) (w : Int32) : ∃ v' m, m ≤ 15 ∧ (n < 16 → m = n) ∧ (n = 16 → m = 15) ∧ gfX11_keeps_130 x T w = some ((), (u2 T.1 130 31 (iN (m + 1)), u1 T.2.1 143 v', T.2.2.1, T.2.2.2)) ∧ (∀ k i, k < m → i < 37 → v' (37 * k + i) = T.2.1 143 (37 * (k + (n - m)) + i)) ∧ (∀ i, i < 36 → v' (37 * m + i) = T.2.1 132 i) ∧ v' (37 * m + 36) = w := by
  unfold gfX11_keeps_130 bfX11_keeps_130_0
  rw [h]
  by_cases hc : n < 16
  · have e := keeps_in x w n (by omega) 36 0 20000 T h (by omega) (by omega)
    refine ⟨u1 (va_cpy (T.2.1 132) (T.2.1 143) 0 (37 * n + 0) 36) (37 * n + 36) w, n, by omega, fun _ => rfl, fun e => by omega, ?_, fun k i hk hi => ?_, fun i hi => ?_, u1_s _ _ _⟩
    · rw [if_pos (show ¬ iN n = 16 from fun e => by have := (iN_eq (n := 16) (by omega) (by omega)).mp e; omega)]
      rw [bfX11_keeps_130_52, show (0 : Int32) = iN 0 from rfl]
      exact e
    · rw [u1_n _ _ (by omega), cpy_out _ _ (by omega), show k + (n - n) = k by omega]
    · rw [u1_n _ _ (by omega), cpy_in _ _ (by omega) (by omega), show 0 + (37 * n + i - (37 * n + 0)) = i by omega]
  · have hn16 : n = 16 := by omega
    subst hn16
    have e := keeps_sh x w T h 555 0 20000 (by omega) (by omega)
    rw [cpy_0, wA_self] at e
    have e2 := keeps_in x w 15 (by omega) 36 0 20000 (u2 T.1 130 31 (iN 15), u1 T.2.1 143 (va_cpy (T.2.1 143) (T.2.1 143) 37 0 555), T.2.2.1, T.2.2.2) (show u2 T.1 130 31 (iN 15) 130 31 = iN 15 from u2_s _ _ _ _) (by omega) (by omega)
    dsimp only at e2
    rw [u2_u2, u1_u1, u1_s, u1_n _ _ (show 132 ≠ 143 by decide)] at e2
    refine ⟨u1 (va_cpy (T.2.1 132) (va_cpy (T.2.1 143) (T.2.1 143) 37 0 555) 0 (37 * 15 + 0) 36) (37 * 15 + 36) w, 15, by omega, fun e => by omega, fun _ => rfl, ?_, fun k i hk hi => ?_, fun i hi => ?_, u1_s _ _ _⟩
    · rw [if_neg (fun e => e (show iN 16 = 16 from rfl)), show (0 : Int32) = iN 0 from rfl, e, bfX11_keeps_130_52]
      exact e2
    · rw [u1_n _ _ (by omega), cpy_out _ _ (by omega), cpy_in _ _ (by omega) (by omega), show 37 + (37 * k + i - 0) = 37 * (k + (16 - 15)) + i by omega]
    · rw [u1_n _ _ (by omega), cpy_in _ _ (by omega) (by omega), show 0 + (37 * 15 + i - (37 * 15 + 0)) = i by omega]
/-- one more step that can be undone -/
theorem UR.push {u v f u' v' f' : Nat → Int32} {n m : Nat} (hU : UR u v f n) (hm : m ≤ n) (hmn : n = m ∨ n = m + 1) (hMW : MW f) (hu : ∀ k i, k < m → i < 5 → u' (5 * k + i) = u (5 * (k + (n - m)) + i)) (hv : ∀ k i, k < m → i < 37 → v' (37 * k + i) = v (37 * (k + (n - m)) + i)) (hv2 : ∀ i, i < 36 → v' (37 * m + i) = f i) (h91 : f' 91 = f 91) (h92 : f' 92 = f 92) (hs : ∀ G P, f 91 = iN G → G ≤ 10 → f 92 = iN P → P ≤ 5 → UStep (fun i => u' (5 * m + i)) (v' (37 * m + 36)) G P f f') : UR u' v' f' (m + 1) := by
  intro k hk
  by_cases hkm : k = m
  · subst hkm
    refine ⟨hMW.cg (fun i hi => hv2 i hi), fun G P a b c d => ?_⟩
    have := hs G P (h91 ▸ a) b (h92 ▸ c) d
    rw [show (fun i => if k + 1 < k + 1 then v' (37 * (k + 1) + i) else f' i) = f' by funext i; rw [if_neg (by omega)]]
    rcases this with ⟨p, p1, p2, p3, p4, p5, p6, p7, p8⟩ | ⟨p, p1, p2, p3, p4, p5, p6⟩ | ⟨p, p1, p2, p3, p4, p5, p6⟩ | ⟨p2, p3, p4, p5⟩
    · exact Or.inl ⟨p, p1, p2, p3, p4, (hv2 _ (by omega)).trans p5, (hv2 _ (by omega)).trans p6, (hv2 _ (by omega)).trans p7, fun i hi a1 a2 a3 => (hv2 i hi).trans (p8 i hi a1 a2 a3)⟩
    · exact Or.inr (Or.inl ⟨p, p1, p2, p3, p4, (hv2 _ (by omega)).trans p5, fun i hi a1 => (hv2 i hi).trans (p6 i hi a1)⟩)
    · exact Or.inr (Or.inr (Or.inl ⟨p, p1, p2, p3, p4, (hv2 _ (by omega)).trans p5, fun i hi a1 => (hv2 i hi).trans (p6 i hi a1)⟩))
    · exact Or.inr (Or.inr (Or.inr ⟨p2, p3, (hv2 _ (by omega)).trans p4, fun i hi a1 => (hv2 i hi).trans (p5 i hi a1)⟩))
  · obtain ⟨q1, q2⟩ := hU (k + (n - m)) (by omega)
    refine ⟨q1.cg (fun i hi => hv k i (by omega) (by omega)), fun G P a b c d => ?_⟩
    have := q2 G P (h91 ▸ a) b (h92 ▸ c) d
    have hB : ∀ i, i < 36 → (if k + 1 < m + 1 then v' (37 * (k + 1) + i) else f' i) = (if k + (n - m) + 1 < n then v (37 * (k + (n - m) + 1) + i) else f i) := by
      intro i hi
      rw [if_pos (by omega)]
      by_cases h2 : k + 1 < m
      · rw [if_pos (by omega), hv (k + 1) i h2 (by omega), show k + 1 + (n - m) = k + (n - m) + 1 by omega]
      · rw [if_neg (by omega), show k + 1 = m by omega, hv2 i hi]
    have A : ∀ i, i < 37 → v' (37 * k + i) = v (37 * (k + (n - m)) + i) := fun i hi => hv k i (by omega) hi
    have U : ∀ i, i < 5 → u' (5 * k + i) = u (5 * (k + (n - m)) + i) := fun i hi => hu k i (by omega) hi
    rcases this with ⟨p, p1, p2, p3, p4, p5, p6, p7, p8⟩ | ⟨p, p1, p2, p3, p4, p5, p6⟩ | ⟨p, p1, p2, p3, p4, p5, p6⟩ | ⟨p2, p3, p4, p5⟩
    · exact Or.inl ⟨p, p1, (A _ (by omega)).trans p2, (U _ (by omega)).trans p3, (U _ (by omega)).trans p4, (A _ (by omega)).trans (p5.trans (U _ (by omega)).symm), (A _ (by omega)).trans (p6.trans (U _ (by omega)).symm), (A _ (by omega)).trans (p7.trans (U _ (by omega)).symm), fun i hi a1 a2 a3 => (A i (by omega)).trans ((p8 i hi a1 a2 a3).trans (hB i hi).symm)⟩
    · exact Or.inr (Or.inl ⟨p, p1, (A _ (by omega)).trans p2, (U _ (by omega)).trans p3, (U _ (by omega)).trans p4, (A _ (by omega)).trans (p5.trans (congrArg (fun z => 1 - z) (hB _ (by omega)).symm)), fun i hi a1 => (A i (by omega)).trans ((p6 i hi a1).trans (hB i hi).symm)⟩)
    · exact Or.inr (Or.inr (Or.inl ⟨p, p1, (A _ (by omega)).trans p2, (U _ (by omega)).trans p3, (U _ (by omega)).trans p4, (A _ (by omega)).trans (p5.trans (U _ (by omega)).symm), fun i hi a1 => (A i (by omega)).trans ((p6 i hi a1).trans (hB i hi).symm)⟩))
    · exact Or.inr (Or.inr (Or.inr ⟨(A _ (by omega)).trans p2, (U _ (by omega)).trans p3, (A _ (by omega)).trans (p4.trans (congrArg (fun z => z - 1) (hB _ (by omega)).symm)), fun i hi a1 => (A i (by omega)).trans ((p5 i hi a1).trans (hB i hi).symm)⟩))
end KEEP
