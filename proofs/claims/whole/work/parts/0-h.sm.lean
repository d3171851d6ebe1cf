section SM
def tI (q : Nat) : Int32 := iN q + (-1)
theorem tI_s (q : Nat) : tI q + 1 = iN q := by
  unfold tI
  rw [Int32.add_assoc, show (-1 : Int32) + 1 = 0 from rfl, Int32.add_zero]
theorem tI_p (q : Nat) : tI (q + 1) = iN q := by
  unfold tI
  rw [iN_pred (by omega), Nat.add_sub_cancel]
theorem tI_0 : tI 0 = -1 := rfl
theorem u2_u1 {α : Type} (f : Nat → Nat → α) (a k : Nat) (g : Nat → α) (v : α) : u2 (u1 f a g) a k v = u1 f a (u1 g k v) := by
  funext b
  by_cases h : b = a
  · subst h
    rw [u2, u1_s, u1_s, u1_s]
  · rw [u2, u1_n _ _ h, u1_n _ _ h, u1_n _ _ h]
/-- the steps of a machine with a stack: n more steps, the stack, how many lie on it, the place -/
def SM (L : Nat → (Nat → Int32) → Nat → Nat → Option (Int32 × ST)) (Fb : (Nat → Int32) → Option (Int32 × ST)) (cs W : Nat → Int32) (wn stop : Nat) : Prop :=
  (∀ n st q i v, i < stop → q < 50 → v ≤ 1000 → cs i = iN (256 + 512 * v) → L (n + 1) st q i = L n (u1 st q (iN v)) (q + 1) (i + 1)) ∧
  (∀ n st q i w, i < stop → q < 50 → w < wn → cs i = iN (259 + 512 * w) → L (n + 1) st q i = L n (u1 st q (W w)) (q + 1) (i + 1)) ∧
  (∀ n st q i op, i < stop → q + 2 ≤ 50 → op < 256 → cs i = iN op → L (n + 1) st (q + 2) i = match jn op (st q) (st (q + 1)) with
    | none => Fb st
    | some c => L n (u1 st q c) (q + 1) (i + 1)) ∧
  (∀ n st q i, i < stop → q + 1 ≤ 50 → cs i = iN 273 → L (n + 1) st (q + 1) i = L n (u1 st q (1 - st q)) (q + 1) (i + 1)) ∧
  (∀ n st q i b w, i < stop → q + 1 ≤ 50 → i < b → b ≤ 400 → w ≤ 1 → cs i = iN (271 + w + 512 * b) → L (n + 1) st (q + 1) i = if st q = iN (1 - w) then L n st (q + 1) b else L n st q (i + 1))

def wkT (S : ST) (st : Nat → Int32) : ST := (S.1, u1 S.2.1 22 st, S.2.2.1, S.2.2.2)
theorem wkT_u (S : ST) (st : Nat → Int32) (k : Nat) (v : Int32) : ((wkT S st).1, u2 (wkT S st).2.1 22 k v, (wkT S st).2.2.1, (wkT S st).2.2.2) = wkT S (u1 st k v) := by
  unfold wkT
  dsimp only
  rw [u2_u1]
set_option maxRecDepth 4000 in
theorem smT (x : XT) (S : ST) (t : Nat) (hx : tx x t = true) (ht : 158 ≤ t) (Z : Nat) (hZ : mL x (t + 4) = Z) (stop : Nat) (hs : stop ≤ Z) (hZ2 : Z ≤ 400) : SM (fun n st q i => lfX9_reckon_T_21_22_36 x n (wkT S st) t (iN stop) (tI q) (iN i)) (fun st => some (-2000000000, wkT S st)) (S.2.1 (t + 4)) (S.2.1 21) 8 stop := by
  have stk : ∀ st k, (wkT S st).2.1 22 k = st k := fun st k => by unfold wkT; dsimp only; rw [u1_s]
  have wrd : ∀ st k, (wkT S st).2.1 21 k = S.2.1 21 k := fun st k => by unfold wkT; dsimp only; rw [u1_n _ _ (by decide)]
  have cod : ∀ st k, (wkT S st).2.1 (t + 4) k = S.2.1 (t + 4) k := fun st k => by unfold wkT; dsimp only; rw [u1_n _ _ (by omega)]
  have hin : ∀ i, i < stop → inb (iN i) (mL x (t + 4)) = true := fun i hi => by rw [hZ]; exact inb_t (by omega) (by omega)
  have hst : ∀ i, i < stop → ¬ (iN stop ≤ iN i) := fun i hi h => by have := (iN_le (by omega) (by omega)).mp h; omega
  have hnat : ∀ i, i < stop → (iN i).toNatClampNeg = i := fun i hi => iN_nat (by omega)
  have lit : ∀ m n : Nat, m < 1000 → n < 1000 → ((iN m = iN n) = (m = n)) := fun m n hm hn => propext (iN_eq (by omega) (by omega))
  have qin : ∀ q, q < 50 → inb (iN q) 50 = true := fun q hq => inb_t hq (by omega)
  have qnat : ∀ q, q < 50 → (iN q).toNatClampNeg = q := fun q hq => iN_nat (by omega)
  have q50 : ∀ q, q < 50 → ¬ ((50 : Int32) ≤ iN q) := fun q hq h => by have := (iN_le (m := 50) (by omega) (by omega)).mp h; omega
  have qge : ∀ q, q < 50 → (0 : Int32) ≤ iN q := fun q hq => (iN_le (m := 0) (by omega) (by omega)).mpr (by omega)
  have dv : ∀ r w : Nat, r < 512 → w ≤ 1000 → iN (r + 512 * w) / 512 = iN w := fun r w hr hw => by
    have := iN_div (m := r + 512 * w) (n := 512) (by omega) (by omega)
    rw [Nat.add_mul_div_left _ _ (by omega), Nat.div_eq_of_lt hr, Nat.zero_add] at this
    exact this
  have md : ∀ r w : Nat, r < 512 → w ≤ 1000 → iN (r + 512 * w) - iN w * 512 = iN r := fun r w hr hw => by
    have := iN_mod (m := r + 512 * w) (n := 512) (by omega) (by omega)
    rw [Nat.add_mul_mod_self_left, Nat.mod_eq_of_lt hr, show iN 512 = 512 from rfl, dv r w hr hw] at this
    exact this
  have ne : ∀ r m : Nat, r < 512 → m < 512 → r ≠ m → ((iN r = iN m) = False) := fun r m hr hm h => eq_false (fun e => h ((lit r m (by omega) (by omega)).mp e))
  refine ⟨?_, ?_, ?_, ?_, ?_⟩
  · intro n st q i v hi hq hv hc
    show bfX9_reckon_T_21_22_36 x (lfX9_reckon_T_21_22_36 x n) (wkT S st) t (iN stop) (tI q) (iN i) = _
    have k1 : (iN 256 = (256 : Int32)) = True := eq_true rfl
    have k2 : (iN 256 = (259 : Int32)) = False := ne 256 259 (by omega) (by omega) (by omega)
    unfold bfX9_reckon_T_21_22_36 bfX9_reckon_T_21_22_85 bfX9_reckon_T_21_22_114 bfX9_reckon_T_21_22_135 bfX9_reckon_T_21_22_278
    simp only [hx, cond_true, if_neg (hst i hi), hin i hi, hnat i hi, cod, hc, md 256 v (by omega) hv, dv 256 v (by omega) hv, tI_s, if_neg (q50 q hq), k1, k2, not_true, not_false_eq_true, if_true, if_false, ite_self, qin q hq, qnat q hq, wkT_u, iN_succ, tI_p]
  · intro n st q i w hi hq hw hc
    show bfX9_reckon_T_21_22_36 x (lfX9_reckon_T_21_22_36 x n) (wkT S st) t (iN stop) (tI q) (iN i) = _
    have k1 : (iN 259 = (256 : Int32)) = False := ne 259 256 (by omega) (by omega) (by omega)
    have k2 : (iN 259 = (259 : Int32)) = True := eq_true rfl
    have k3 : (iN w < (8 : Int32)) = True := eq_true ((iN_lt (n := 8) (by omega) (by omega)).mpr hw)
    unfold bfX9_reckon_T_21_22_36 bfX9_reckon_T_21_22_85 bfX9_reckon_T_21_22_114 bfX9_reckon_T_21_22_135 bfX9_reckon_T_21_22_278
    simp only [hx, cond_true, if_neg (hst i hi), hin i hi, hnat i hi, cod, hc, md 259 w (by omega) (by omega), dv 259 w (by omega) (by omega), tI_s, if_neg (q50 q hq), k1, k2, k3, not_true, not_false_eq_true, if_true, if_false, ite_self, qin q hq, qnat q hq, inb_t hw (show 8 < 2147483648 by omega), iN_nat (show w < 2147483648 by omega), wrd, wkT_u, iN_succ, tI_p]
  · intro n st q i op hi hq hop hc
    show bfX9_reckon_T_21_22_36 x (lfX9_reckon_T_21_22_36 x n) (wkT S st) t (iN stop) (tI (q + 2)) (iN i) = _
    have hc' : S.2.1 (t + 4) i = iN (op + 512 * 0) := hc
    have k1 : (iN op = (256 : Int32)) = False := ne op 256 (by omega) (by omega) (by omega)
    have k2 : (iN op = (259 : Int32)) = False := ne op 259 (by omega) (by omega) (by omega)
    have k3 : (iN op = (273 : Int32)) = False := ne op 273 (by omega) (by omega) (by omega)
    have k4 : (iN op = (271 : Int32)) = False := ne op 271 (by omega) (by omega) (by omega)
    have k5 : (iN op = (272 : Int32)) = False := ne op 272 (by omega) (by omega) (by omega)
    have g1 : ((0 : Int32) ≤ iN (q + 1)) = True := eq_true (qge _ (by omega))
    have g0 : ((0 : Int32) ≤ iN q) = True := eq_true (qge _ (by omega))
    have p1 : iN (q + 1) + (-1) = iN q := by rw [iN_pred (by omega), Nat.add_sub_cancel]
    unfold bfX9_reckon_T_21_22_36
    simp only [hx, cond_true, if_neg (hst i hi), hin i hi, hnat i hi, cod, hc', md op 0 (by omega) (by omega), dv op 0 (by omega) (by omega), k1, k2, k3, k4, k5, not_true, not_false_eq_true, if_true, if_false, tI_p (q + 1), g1, g0, p1, iN_succ, qin q (by omega), qin (q + 1) (by omega), qnat q (by omega), qnat (q + 1) (by omega), stk, join_eq x (wkT S st) op (show op < 1000 by omega)]
    unfold bfX9_reckon_T_21_22_259 bfX9_reckon_T_21_22_278
    cases hj : jn op (st q) (st (q + 1)) with
    | none => simp only [hx, cond_true, Option.getD_none, not_true, if_false]
    | some c => simp only [hx, cond_true, Option.getD_some, jn_nb hj, not_false_eq_true, if_true, qin q (by omega), qnat q (by omega), wkT_u, iN_succ, tI_p]
  · intro n st q i hi hq hc
    show bfX9_reckon_T_21_22_36 x (lfX9_reckon_T_21_22_36 x n) (wkT S st) t (iN stop) (tI (q + 1)) (iN i) = _
    have hc' : S.2.1 (t + 4) i = iN (273 + 512 * 0) := hc
    have k1 : (iN 273 = (256 : Int32)) = False := ne 273 256 (by omega) (by omega) (by omega)
    have k2 : (iN 273 = (259 : Int32)) = False := ne 273 259 (by omega) (by omega) (by omega)
    have k3 : (iN 273 = (273 : Int32)) = True := eq_true rfl
    have g0 : ((0 : Int32) ≤ iN q) = True := eq_true (qge _ (by omega))
    unfold bfX9_reckon_T_21_22_36 bfX9_reckon_T_21_22_278
    simp only [hx, cond_true, if_neg (hst i hi), hin i hi, hnat i hi, cod, hc', md 273 0 (by omega) (by omega), dv 273 0 (by omega) (by omega), k1, k2, k3, not_true, not_false_eq_true, if_true, if_false, tI_p q, g0, qin q (by omega), qnat q (by omega), stk, wkT_u, iN_succ]
  · intro n st q i b w hi hq hib hb hw hc
    show bfX9_reckon_T_21_22_36 x (lfX9_reckon_T_21_22_36 x n) (wkT S st) t (iN stop) (tI (q + 1)) (iN i) = _
    have k1 : (iN (271 + w) = (256 : Int32)) = False := ne (271 + w) 256 (by omega) (by omega) (by omega)
    have k2 : (iN (271 + w) = (259 : Int32)) = False := ne (271 + w) 259 (by omega) (by omega) (by omega)
    have k3 : (iN (271 + w) = (273 : Int32)) = False := ne (271 + w) 273 (by omega) (by omega) (by omega)
    have g0 : ((0 : Int32) ≤ iN q) = True := eq_true (qge _ (by omega))
    have hj : (if iN i < iN b - 1 then iN b - 1 else iN i) + 1 = iN b := by
      have e : iN b - 1 = iN (b - 1) := iN_sub (n := 1) (by omega)
      rw [e]
      by_cases h : i < b - 1
      · rw [if_pos ((iN_lt (by omega) (by omega)).mpr h), iN_succ, Nat.sub_add_cancel (by omega)]
      · rw [if_neg (fun h' => h ((iN_lt (by omega) (by omega)).mp h')), iN_succ]
        congr 1
        omega
    unfold bfX9_reckon_T_21_22_36 bfX9_reckon_T_21_22_186 bfX9_reckon_T_21_22_204 bfX9_reckon_T_21_22_278
    simp only [hx, cond_true, if_neg (hst i hi), hin i hi, hnat i hi, cod, hc, md (271 + w) b (by omega) (by omega), dv (271 + w) b (by omega) (by omega), k1, k2, k3, not_true, not_false_eq_true, if_true, if_false, tI_p q, g0, qin q (by omega), qnat q (by omega), stk, iN_succ, hj]
    rcases (show w = 0 ∨ w = 1 by omega) with rfl | rfl
    · have k4 : (iN (271 + 0) = (271 : Int32)) = True := eq_true rfl
      by_cases h : st q = 1
      · have h' : st q = iN (1 - 0) := h
        simp only [k4, if_true, h, not_true, if_false, h']
        rfl
      · have h' : ¬ st q = iN (1 - 0) := h
        simp only [k4, if_true, h, not_true, not_false_eq_true, if_false, h']
        rfl
    · have k4 : (iN (271 + 1) = (271 : Int32)) = False := ne 272 271 (by omega) (by omega) (by omega)
      have k5 : (iN (271 + 1) = (272 : Int32)) = True := eq_true rfl
      by_cases h : st q = 0
      · have h' : st q = iN (1 - 1) := h
        simp only [k4, k5, if_true, h, not_true, not_false_eq_true, if_false, h']
        rfl
      · have h' : ¬ st q = iN (1 - 1) := h
        simp only [k4, k5, if_true, h, not_true, not_false_eq_true, if_false, h']
        rfl

def wkO (S : ST) (st : Nat → Int32) : ST := (S.1, u1 S.2.1 53 st, S.2.2.1, S.2.2.2)
theorem wkO_u (S : ST) (st : Nat → Int32) (k : Nat) (v : Int32) : ((wkO S st).1, u2 (wkO S st).2.1 53 k v, (wkO S st).2.2.1, (wkO S st).2.2.2) = wkO S (u1 st k v) := by
  unfold wkO
  dsimp only
  rw [u2_u1]
set_option maxRecDepth 4000 in
theorem smO (x : XT) (S : ST)  (stop : Nat) (hs : stop ≤ 400) (hZ2 : 400 ≤ 400) : SM (fun n st q i => lfX9_reckon_25_52_53_36 x n (wkO S st)  (iN stop) (tI q) (iN i)) (fun st => some (-2000000000, wkO S st)) (S.2.1 29) (S.2.1 52) 24 stop := by
  have stk : ∀ st k, (wkO S st).2.1 53 k = st k := fun st k => by unfold wkO; dsimp only; rw [u1_s]
  have wrd : ∀ st k, (wkO S st).2.1 52 k = S.2.1 52 k := fun st k => by unfold wkO; dsimp only; rw [u1_n _ _ (by decide)]
  have cod : ∀ st k, (wkO S st).2.1 29 k = S.2.1 29 k := fun st k => by unfold wkO; dsimp only; rw [u1_n _ _ (by omega)]
  have hin : ∀ i, i < stop → inb (iN i) 400 = true := fun i hi => by exact inb_t (by omega) (by omega)
  have hst : ∀ i, i < stop → ¬ (iN stop ≤ iN i) := fun i hi h => by have := (iN_le (by omega) (by omega)).mp h; omega
  have hnat : ∀ i, i < stop → (iN i).toNatClampNeg = i := fun i hi => iN_nat (by omega)
  have lit : ∀ m n : Nat, m < 1000 → n < 1000 → ((iN m = iN n) = (m = n)) := fun m n hm hn => propext (iN_eq (by omega) (by omega))
  have qin : ∀ q, q < 50 → inb (iN q) 50 = true := fun q hq => inb_t hq (by omega)
  have qnat : ∀ q, q < 50 → (iN q).toNatClampNeg = q := fun q hq => iN_nat (by omega)
  have q50 : ∀ q, q < 50 → ¬ ((50 : Int32) ≤ iN q) := fun q hq h => by have := (iN_le (m := 50) (by omega) (by omega)).mp h; omega
  have qge : ∀ q, q < 50 → (0 : Int32) ≤ iN q := fun q hq => (iN_le (m := 0) (by omega) (by omega)).mpr (by omega)
  have dv : ∀ r w : Nat, r < 512 → w ≤ 1000 → iN (r + 512 * w) / 512 = iN w := fun r w hr hw => by
    have := iN_div (m := r + 512 * w) (n := 512) (by omega) (by omega)
    rw [Nat.add_mul_div_left _ _ (by omega), Nat.div_eq_of_lt hr, Nat.zero_add] at this
    exact this
  have md : ∀ r w : Nat, r < 512 → w ≤ 1000 → iN (r + 512 * w) - iN w * 512 = iN r := fun r w hr hw => by
    have := iN_mod (m := r + 512 * w) (n := 512) (by omega) (by omega)
    rw [Nat.add_mul_mod_self_left, Nat.mod_eq_of_lt hr, show iN 512 = 512 from rfl, dv r w hr hw] at this
    exact this
  have ne : ∀ r m : Nat, r < 512 → m < 512 → r ≠ m → ((iN r = iN m) = False) := fun r m hr hm h => eq_false (fun e => h ((lit r m (by omega) (by omega)).mp e))
  refine ⟨?_, ?_, ?_, ?_, ?_⟩
  · intro n st q i v hi hq hv hc
    show bfX9_reckon_25_52_53_36 x (lfX9_reckon_25_52_53_36 x n) (wkO S st)  (iN stop) (tI q) (iN i) = _
    have k1 : (iN 256 = (256 : Int32)) = True := eq_true rfl
    have k2 : (iN 256 = (259 : Int32)) = False := ne 256 259 (by omega) (by omega) (by omega)
    unfold bfX9_reckon_25_52_53_36 bfX9_reckon_25_52_53_85 bfX9_reckon_25_52_53_114 bfX9_reckon_25_52_53_135 bfX9_reckon_25_52_53_278
    simp only [cond_true, if_neg (hst i hi), hin i hi, hnat i hi, cod, hc, md 256 v (by omega) hv, dv 256 v (by omega) hv, tI_s, if_neg (q50 q hq), k1, k2, not_true, not_false_eq_true, if_true, if_false, ite_self, qin q hq, qnat q hq, wkO_u, iN_succ, tI_p]
  · intro n st q i w hi hq hw hc
    show bfX9_reckon_25_52_53_36 x (lfX9_reckon_25_52_53_36 x n) (wkO S st)  (iN stop) (tI q) (iN i) = _
    have k1 : (iN 259 = (256 : Int32)) = False := ne 259 256 (by omega) (by omega) (by omega)
    have k2 : (iN 259 = (259 : Int32)) = True := eq_true rfl
    have k3 : (iN w < (24 : Int32)) = True := eq_true ((iN_lt (n := 24) (by omega) (by omega)).mpr hw)
    unfold bfX9_reckon_25_52_53_36 bfX9_reckon_25_52_53_85 bfX9_reckon_25_52_53_114 bfX9_reckon_25_52_53_135 bfX9_reckon_25_52_53_278
    simp only [cond_true, if_neg (hst i hi), hin i hi, hnat i hi, cod, hc, md 259 w (by omega) (by omega), dv 259 w (by omega) (by omega), tI_s, if_neg (q50 q hq), k1, k2, k3, not_true, not_false_eq_true, if_true, if_false, ite_self, qin q hq, qnat q hq, inb_t hw (show 24 < 2147483648 by omega), iN_nat (show w < 2147483648 by omega), wrd, wkO_u, iN_succ, tI_p]
  · intro n st q i op hi hq hop hc
    show bfX9_reckon_25_52_53_36 x (lfX9_reckon_25_52_53_36 x n) (wkO S st)  (iN stop) (tI (q + 2)) (iN i) = _
    have hc' : S.2.1 29 i = iN (op + 512 * 0) := hc
    have k1 : (iN op = (256 : Int32)) = False := ne op 256 (by omega) (by omega) (by omega)
    have k2 : (iN op = (259 : Int32)) = False := ne op 259 (by omega) (by omega) (by omega)
    have k3 : (iN op = (273 : Int32)) = False := ne op 273 (by omega) (by omega) (by omega)
    have k4 : (iN op = (271 : Int32)) = False := ne op 271 (by omega) (by omega) (by omega)
    have k5 : (iN op = (272 : Int32)) = False := ne op 272 (by omega) (by omega) (by omega)
    have g1 : ((0 : Int32) ≤ iN (q + 1)) = True := eq_true (qge _ (by omega))
    have g0 : ((0 : Int32) ≤ iN q) = True := eq_true (qge _ (by omega))
    have p1 : iN (q + 1) + (-1) = iN q := by rw [iN_pred (by omega), Nat.add_sub_cancel]
    unfold bfX9_reckon_25_52_53_36
    simp only [cond_true, if_neg (hst i hi), hin i hi, hnat i hi, cod, hc', md op 0 (by omega) (by omega), dv op 0 (by omega) (by omega), k1, k2, k3, k4, k5, not_true, not_false_eq_true, if_true, if_false, tI_p (q + 1), g1, g0, p1, iN_succ, qin q (by omega), qin (q + 1) (by omega), qnat q (by omega), qnat (q + 1) (by omega), stk, join_eq x (wkO S st) op (show op < 1000 by omega)]
    unfold bfX9_reckon_25_52_53_259 bfX9_reckon_25_52_53_278
    cases hj : jn op (st q) (st (q + 1)) with
    | none => simp only [cond_true, Option.getD_none, not_true, if_false]
    | some c => simp only [cond_true, Option.getD_some, jn_nb hj, not_false_eq_true, if_true, qin q (by omega), qnat q (by omega), wkO_u, iN_succ, tI_p]
  · intro n st q i hi hq hc
    show bfX9_reckon_25_52_53_36 x (lfX9_reckon_25_52_53_36 x n) (wkO S st)  (iN stop) (tI (q + 1)) (iN i) = _
    have hc' : S.2.1 29 i = iN (273 + 512 * 0) := hc
    have k1 : (iN 273 = (256 : Int32)) = False := ne 273 256 (by omega) (by omega) (by omega)
    have k2 : (iN 273 = (259 : Int32)) = False := ne 273 259 (by omega) (by omega) (by omega)
    have k3 : (iN 273 = (273 : Int32)) = True := eq_true rfl
    have g0 : ((0 : Int32) ≤ iN q) = True := eq_true (qge _ (by omega))
    unfold bfX9_reckon_25_52_53_36 bfX9_reckon_25_52_53_278
    simp only [cond_true, if_neg (hst i hi), hin i hi, hnat i hi, cod, hc', md 273 0 (by omega) (by omega), dv 273 0 (by omega) (by omega), k1, k2, k3, not_true, not_false_eq_true, if_true, if_false, tI_p q, g0, qin q (by omega), qnat q (by omega), stk, wkO_u, iN_succ]
  · intro n st q i b w hi hq hib hb hw hc
    show bfX9_reckon_25_52_53_36 x (lfX9_reckon_25_52_53_36 x n) (wkO S st)  (iN stop) (tI (q + 1)) (iN i) = _
    have k1 : (iN (271 + w) = (256 : Int32)) = False := ne (271 + w) 256 (by omega) (by omega) (by omega)
    have k2 : (iN (271 + w) = (259 : Int32)) = False := ne (271 + w) 259 (by omega) (by omega) (by omega)
    have k3 : (iN (271 + w) = (273 : Int32)) = False := ne (271 + w) 273 (by omega) (by omega) (by omega)
    have g0 : ((0 : Int32) ≤ iN q) = True := eq_true (qge _ (by omega))
    have hj : (if iN i < iN b - 1 then iN b - 1 else iN i) + 1 = iN b := by
      have e : iN b - 1 = iN (b - 1) := iN_sub (n := 1) (by omega)
      rw [e]
      by_cases h : i < b - 1
      · rw [if_pos ((iN_lt (by omega) (by omega)).mpr h), iN_succ, Nat.sub_add_cancel (by omega)]
      · rw [if_neg (fun h' => h ((iN_lt (by omega) (by omega)).mp h')), iN_succ]
        congr 1
        omega
    unfold bfX9_reckon_25_52_53_36 bfX9_reckon_25_52_53_186 bfX9_reckon_25_52_53_204 bfX9_reckon_25_52_53_278
    simp only [cond_true, if_neg (hst i hi), hin i hi, hnat i hi, cod, hc, md (271 + w) b (by omega) (by omega), dv (271 + w) b (by omega) (by omega), k1, k2, k3, not_true, not_false_eq_true, if_true, if_false, tI_p q, g0, qin q (by omega), qnat q (by omega), stk, iN_succ, hj]
    rcases (show w = 0 ∨ w = 1 by omega) with rfl | rfl
    · have k4 : (iN (271 + 0) = (271 : Int32)) = True := eq_true rfl
      by_cases h : st q = 1
      · have h' : st q = iN (1 - 0) := h
        simp only [k4, if_true, h, not_true, if_false, h']
        rfl
      · have h' : ¬ st q = iN (1 - 0) := h
        simp only [k4, if_true, h, not_true, not_false_eq_true, if_false, h']
        rfl
    · have k4 : (iN (271 + 1) = (271 : Int32)) = False := ne 272 271 (by omega) (by omega) (by omega)
      have k5 : (iN (271 + 1) = (272 : Int32)) = True := eq_true rfl
      by_cases h : st q = 0
      · have h' : st q = iN (1 - 1) := h
        simp only [k4, k5, if_true, h, not_true, not_false_eq_true, if_false, h']
        rfl
      · have h' : ¬ st q = iN (1 - 1) := h
        simp only [k4, k5, if_true, h, not_true, not_false_eq_true, if_false, h']
        rfl
end SM
