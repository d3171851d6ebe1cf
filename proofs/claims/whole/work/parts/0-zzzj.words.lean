section WORDS
def allE (tb : Nat → Nat) (st : Nat) : List Nat → Bool
  | [] => true
  | c :: w => decide (tb st = c) && allE tb (st + 1) w
/-- the bytes from st to sp spell w -/
def eqS (tb : Nat → Nat) (st sp : Nat) (w : List Nat) : Bool := decide (sp = st + w.length) && allE tb st w
def ltE (tb : Nat → Nat) (sp i : Nat) : List Nat → Bool
  | [] => true
  | c :: w => (decide (i < sp) && decide (tb i = c)) && ltE tb sp (i + 1) w
theorem ltE_eq (tb : Nat → Nat) (sp : Nat) : ∀ (w : List Nat) (i : Nat), i + w.length = sp → ltE tb sp i w = allE tb i w
  | [], i, h => rfl
  | c :: w, i, h => by
    rw [List.length_cons] at h
    rw [ltE, allE, ltE_eq tb sp w (i + 1) (by omega), decide_eq_true (show i < sp by omega), Bool.true_and]
def mC (s : Nat) : List Nat → Bool
  | [] => decide (s < 122) && decide (sTB.getD s 0 = 32)
  | c :: w => decide (s < 122) && (decide (sTB.getD s 0 = iN c) && (decide (¬ iN c = 32) && (decide (c < 256) && mC (s + 1) w)))
def mRw (s : Nat) : List Nat → Bool
  | [] => decide (s < 122) && decide (rwB.getD s 0 = 32)
  | c :: w => decide (s < 122) && (decide (rwB.getD s 0 = iN c) && (decide (¬ iN c = 32) && (decide (c < 128) && mRw (s + 1) w)))
theorem inc_t {s : Nat} (h : s < 122) : inc (iN s) = true := by
  unfold inc
  rw [Bool.and_eq_true, decide_eq_true_eq, decide_eq_true_eq]
  exact ⟨(iN_le (m := 0) (by omega) (by omega)).mpr (by omega), (iN_lt (n := 122) (by omega) (by omega)).mpr h⟩
theorem chA_eq {s : Nat} (h : s < 122) : chA (iN s) = sTB.getD s 0 := by
  unfold chA
  rw [iN_nat (by omega)]
/-- the letters of a word, as the class compares them -/
theorem cw_l (x : XT) (S : ST) (tb : Nat → Nat) (htb : ∀ i, i < 400 → tb i < 256 ∧ S.2.1 19 i = iN (tb i)) (st sp m : Nat) (hsp : sp ≤ 400) : ∀ (w : List Nat) (s i f : Nat) (o : Bool), mC s w = true → i + w.length < 1000000 → lfX4_wordOf_18_13 x (f + w.length) S (iN st) (iN sp) (iN m) (iN i) (bz o) (iN s) = lfX4_wordOf_18_13 x f S (iN st) (iN sp) (iN m) (iN (i + w.length)) (bz (o && ltE tb sp i w)) (iN (s + w.length)) ∧ mC (s + w.length) [] = true
  | [], s, i, f, o, h, hi => by
    rw [ltE, Bool.and_true]
    exact ⟨rfl, h⟩
  | c :: w, s, i, f, o, h, hi => by
    rw [mC] at h
    simp only [Bool.and_eq_true, decide_eq_true_eq] at h
    obtain ⟨h1, h2, h3, h4, h5⟩ := h
    rw [List.length_cons] at hi
    obtain ⟨r1, r2⟩ := cw_l x S tb htb st sp m hsp w (s + 1) (i + 1) f (o && (decide (i < sp) && decide (tb i = c))) h5 (by omega)
    rw [List.length_cons, ← Nat.add_assoc f, show s + (w.length + 1) = s + 1 + w.length by omega, show i + (w.length + 1) = i + 1 + w.length by omega, ltE, ← Bool.and_assoc]
    refine ⟨?_, r2⟩
    rw [← r1, lfX4_wordOf_18_13, bfX4_wordOf_18_13, if_neg (show ¬ (122 : Int32) ≤ iN s from fun z => by have := (iN_le (m := 122) (by omega) (by omega)).mp z; omega), inc_t h1, cond_true, chA_eq h1, h2, if_pos h3]
    unfold bfX4_wordOf_18_91 bfX4_wordOf_18_92 bfX4_wordOf_18_97
    rw [iN_succ, iN_succ]
    cases o with
    | false => rw [if_pos (show bz false = 0 from rfl), Bool.false_and]; rfl
    | true =>
      rw [if_neg (show ¬ bz true = 0 by decide), Bool.true_and]
      by_cases c1 : i < sp
      · obtain ⟨b1, b2⟩ := htb i (by omega)
        rw [if_neg (fun z => by have := (iN_le (by omega) (by omega)).mp z; omega), inb_t (show i < 400 by omega) (by omega), cond_true, iN_nat (by omega), b2, decide_eq_true c1, Bool.true_and]
        by_cases c2 : tb i = c
        · rw [if_neg (fun z => z (by rw [c2])), decide_eq_true c2]; rfl
        · rw [if_pos (show ¬ iN (tb i) = iN c from fun z => c2 ((iN_eq (by omega) (by omega)).mp z)), decide_eq_false c2]; rfl
      · rw [if_pos ((iN_le (by omega) (by omega)).mpr (by omega)), decide_eq_false c1, Bool.false_and]; rfl
theorem cw_w (x : XT) (S : ST) (tb : Nat → Nat) (htb : ∀ i, i < 400 → tb i < 256 ∧ S.2.1 19 i = iN (tb i)) (st sp : Nat) (hst : st < sp) (hsp : sp ≤ 400) (w : List Nat) (hw : w.length < 100) (m s f f' : Nat) (hf : f = f' + 1 + w.length) (h : mC s w = true) : lfX4_wordOf_18_13 x f S (iN st) (iN sp) (iN m) (iN st) 1 (iN s) = if eqS tb st sp w = true then some (iN m, S) else lfX4_wordOf_18_13 x f' S (iN st) (iN sp) (iN (m + 1)) (iN st) 1 (iN (s + w.length + 1)) := by
  subst hf
  obtain ⟨r1, r2⟩ := cw_l x S tb htb st sp m hsp w s st (f' + 1) true h (by omega)
  rw [mC] at r2
  simp only [Bool.and_eq_true, decide_eq_true_eq] at r2
  rw [show (1 : Int32) = bz true from rfl, r1, lfX4_wordOf_18_13, bfX4_wordOf_18_13, if_neg (show ¬ (122 : Int32) ≤ iN (s + w.length) from fun z => by have := (iN_le (m := 122) (by omega) (by omega)).mp z; omega), inc_t r2.1, cond_true, chA_eq r2.1, r2.2, if_neg (fun z => z rfl), Bool.true_and]
  unfold bfX4_wordOf_18_52 bfX4_wordOf_18_97 eqS
  rw [iN_succ, iN_succ]
  by_cases c1 : sp = st + w.length
  · rw [decide_eq_true c1, Bool.true_and, ltE_eq tb sp w st c1.symm, ← c1]
    cases allE tb st w with
    | true => rw [if_neg (show ¬ bz true = 0 by decide), if_neg (fun z => z rfl), if_pos rfl]
    | false => rw [if_pos (show bz false = 0 from rfl), if_neg (by decide)]; rfl
  · rw [decide_eq_false c1, Bool.false_and, if_neg (show ¬ false = true by decide)]
    have ne : ¬ iN (st + w.length) = iN sp := fun z => c1 ((iN_eq (by omega) (by omega)).mp z).symm
    rw [if_pos ne, ite_self]
    rfl
set_option maxRecDepth 20000 in
theorem sb_all : ∀ b : Fin 256, (((iN b.1).toInt8.toInt32 = 32 ↔ b.1 = 32) ∧ ((¬ (iN b.1).toInt8.toInt32 < 97 ∧ ¬ 122 < (iN b.1).toInt8.toInt32) ↔ (97 ≤ b.1 ∧ b.1 ≤ 122)) ∧ ((¬ (iN b.1).toInt8.toInt32 < 48 ∧ ¬ 57 < (iN b.1).toInt8.toInt32) ↔ (48 ≤ b.1 ∧ b.1 ≤ 57))) ∧ ((iN b.1).toInt8.toInt32 &&& 255) = iN b.1 ∧ (if b.1 < 128 then (iN b.1).toInt8.toInt32 = iN b.1 else (iN b.1).toInt8.toInt32 < 0) := by decide +kernel
theorem sb_eq (b c : Nat) (hb : b < 256) (hc : c < 128) : iN c = (iN b).toInt8.toInt32 ↔ b = c := by
  have h := (sb_all ⟨b, hb⟩).2.2
  dsimp only at h
  by_cases e : b < 128
  · rw [if_pos e] at h
    rw [h, iN_eq (by omega) (by omega)]
    exact ⟨fun z => z.symm, fun z => z.symm⟩
  · rw [if_neg e] at h
    exact ⟨fun z => by rw [← z] at h; exact absurd h (iN_nn (by omega)), fun z => by omega⟩
/-- the letters of a word, as the reference compares them -/
theorem rw_l (x : XT) (T : ST) (tb : Nat → Nat) (htb : ∀ i, i < 400 → tb i < 256 ∧ T.2.1 137 i = (iN (tb i)).toInt8.toInt32) (hC : ∀ k, k < 122 → T.2.1 136 k = rwB.getD k 0) (k5 : ST → Int32 → Int32 → Int32 → Int32 → Option (Int32 × ST)) (st sp m s n : Nat) (hsp : sp ≤ 400) (hn : st + n = sp) : ∀ (w : List Nat) (i f : Nat) (o : Bool), mRw (s + i) w = true → i + w.length = n → lfX11_wordOf_130_57 x k5 (f + w.length + 1) T (iN st) (iN sp) (iN m) (iN s) (iN n) (bz o) (iN i) = bfX11_wordOf_130_104 x k5 T (iN st) (iN sp) (iN m) (iN s) (iN n) (bz (o && allE tb (st + i) w))
  | [], i, f, o, h, hi => by
    rw [List.length_nil] at hi
    rw [allE, Bool.and_true, lfX11_wordOf_130_57, bfX11_wordOf_130_57, if_pos ((iN_le (by omega) (by omega)).mpr (by omega))]
  | c :: w, i, f, o, h, hi => by
    rw [mRw] at h
    simp only [Bool.and_eq_true, decide_eq_true_eq] at h
    obtain ⟨h1, h2, h3, h4, h5⟩ := h
    rw [List.length_cons] at hi
    have r := rw_l x T tb htb hC k5 st sp m s n hsp hn w (i + 1) f (o && decide (tb (st + i) = c)) (by rw [show s + (i + 1) = s + i + 1 by omega]; exact h5) (by omega)
    rw [List.length_cons, show f + (w.length + 1) + 1 = f + w.length + 1 + 1 by omega, allE, ← Bool.and_assoc, show st + i + 1 = st + (i + 1) by omega, ← r, lfX11_wordOf_130_57, bfX11_wordOf_130_57, if_neg (fun z => by have := (iN_le (by omega) (by omega)).mp z; omega)]
    unfold bfX11_wordOf_130_96
    rw [iN_add, iN_add, iN_succ]
    cases o with
    | false =>
      rw [if_pos (show bz false = 0 from rfl), Bool.false_and]
      rw [show f + w.length + 1 = (f + w.length) + 1 from rfl, lfX11_wordOf_130_57, bfX11_wordOf_130_57, if_pos (show bz false = 0 from rfl), ite_self]
    | true =>
      obtain ⟨b1, b2⟩ := htb (st + i) (by omega)
      rw [if_neg (show ¬ bz true = 0 by decide), inb_t (show s + i < 122 by omega) (by omega), cond_true, inb_t (show st + i < 400 by omega) (by omega), cond_true, iN_nat (by omega), iN_nat (by omega), hC _ h1, h2, b2, Bool.true_and]
      by_cases c2 : tb (st + i) = c
      · rw [if_neg (show ¬ ¬ iN c = (iN (tb (st + i))).toInt8.toInt32 from fun z => z ((sb_eq _ _ b1 h4).mpr c2)), decide_eq_true c2]; rfl
      · rw [if_pos (show ¬ iN c = (iN (tb (st + i))).toInt8.toInt32 from fun z => c2 ((sb_eq _ _ b1 h4).mp z)), decide_eq_false c2]; rfl
theorem rw_n (x : XT) (T : ST) (hC : ∀ k, k < 122 → T.2.1 136 k = rwB.getD k 0) (k5 : ST → Int32 → Int32 → Int32 → Int32 → Option (Int32 × ST)) (v1 v2 v3 : Int32) (s : Nat) : ∀ (w : List Nat) (i f : Nat), mRw (s + i) w = true → i < 200 → w.length < 100 → lfX11_wordOf_130_18 x k5 (f + w.length + 1) T v1 v2 v3 (iN s) (iN i) = (if ¬ iN (i + w.length) = (v2 - v1) then (bfX11_wordOf_130_52 x k5 T v1 v2 v3 (iN s) (iN (i + w.length)) 0) else (bfX11_wordOf_130_52 x k5 T v1 v2 v3 (iN s) (iN (i + w.length)) 1))
  | [], i, f, h, hi, hw => by
    rw [mRw] at h
    simp only [Bool.and_eq_true, decide_eq_true_eq] at h
    rw [List.length_nil, Nat.add_zero i, lfX11_wordOf_130_18, bfX11_wordOf_130_18, iN_add, inb_t h.1 (by omega), cond_true, iN_nat (by omega), hC _ h.1, h.2, if_pos rfl]
  | c :: w, i, f, h, hi, hw => by
    rw [mRw] at h
    simp only [Bool.and_eq_true, decide_eq_true_eq] at h
    obtain ⟨h1, h2, h3, h4, h5⟩ := h
    rw [List.length_cons] at hw
    have r := rw_n x T hC k5 v1 v2 v3 s w (i + 1) f (by rw [show s + (i + 1) = s + i + 1 by omega]; exact h5) (by omega) (by omega)
    rw [List.length_cons, show f + (w.length + 1) + 1 = f + w.length + 1 + 1 by omega, lfX11_wordOf_130_18, bfX11_wordOf_130_18, iN_add, inb_t h1 (by omega), cond_true, iN_nat (by omega), hC _ h1, h2, if_neg h3, iN_succ, r, show i + 1 + w.length = i + (w.length + 1) by omega]
theorem rw_w (x : XT) (T : ST) (tb : Nat → Nat) (htb : ∀ i, i < 400 → tb i < 256 ∧ T.2.1 137 i = (iN (tb i)).toInt8.toInt32) (hC : ∀ k, k < 122 → T.2.1 136 k = rwB.getD k 0) (st sp : Nat) (hst : st < sp) (hsp : sp ≤ 400) (w : List Nat) (hw : w.length < 100) (m s f : Nat) (hs : s < 122) (h : mRw s w = true) : lfX11_wordOf_130_5 x (f + 1) T (iN st) (iN sp) (iN m) (iN s) = if eqS tb st sp w = true then some (iN m, T) else lfX11_wordOf_130_5 x f T (iN st) (iN sp) (iN (m + 1)) (iN (s + w.length + 1)) := by
  have r := rw_n x T hC (lfX11_wordOf_130_5 x f) (iN st) (iN sp) (iN m) s w 0 (19999 - w.length) h (by omega) hw
  rw [show 19999 - w.length + w.length + 1 = 20000 by omega, show iN 0 = 0 from rfl, Nat.zero_add] at r
  rw [lfX11_wordOf_130_5, bfX11_wordOf_130_5, if_neg (show ¬ (122 : Int32) ≤ iN s from fun z => by have := (iN_le (m := 122) (by omega) (by omega)).mp z; omega), r, iN_sub (by omega)]
  unfold bfX11_wordOf_130_52 eqS
  by_cases c1 : sp = st + w.length
  · have l := rw_l x T tb htb hC (lfX11_wordOf_130_5 x f) st sp m s w.length hsp c1.symm w 0 (19999 - w.length) true h (by omega)
    rw [show 19999 - w.length + w.length + 1 = 20000 by omega, show iN 0 = 0 from rfl, Nat.add_zero st, Bool.true_and, show bz true = 1 from rfl] at l
    rw [if_neg (show ¬ ¬ iN w.length = iN (sp - st) from fun z => z (by rw [show sp - st = w.length by omega])), l, decide_eq_true c1, Bool.true_and]
    unfold bfX11_wordOf_130_104
    rw [iN_succ, iN_succ, iN_add, show s + (w.length + 1) = s + w.length + 1 by omega]
    cases allE tb st w with
    | true => rw [if_neg (show ¬ bz true = 0 by decide), if_pos rfl]
    | false => rw [if_pos (show bz false = 0 from rfl), if_neg (by decide)]
  · rw [if_pos (show ¬ iN w.length = iN (sp - st) from fun z => c1 (by have := (iN_eq (by omega) (by omega)).mp z; omega)), decide_eq_false c1, Bool.false_and, if_neg (show ¬ false = true by decide), lfX11_wordOf_130_57, bfX11_wordOf_130_57, if_pos (show (0 : Int32) = 0 from rfl), ite_self]
    unfold bfX11_wordOf_130_104
    rw [if_pos (show (0 : Int32) = 0 from rfl), iN_succ, iN_succ, iN_add, show s + (w.length + 1) = s + w.length + 1 by omega]
def cF (tb : Nat → Nat) (st sp : Nat) : Nat := if eqS tb st sp [116, 117, 114, 110, 115] = true then 260 else (if eqS tb st sp [112, 97, 121, 115] = true then 261 else (if eqS tb st sp [98, 97, 114, 115] = true then 262 else (if eqS tb st sp [103, 111] = true then 263 else (if eqS tb st sp [108, 97, 116, 99, 104] = true then 264 else (if eqS tb st sp [115, 101, 116] = true then 265 else (if eqS tb st sp [112, 97, 115, 115] = true then 266 else (if eqS tb st sp [105, 102] = true then 267 else (if eqS tb st sp [98, 121] = true then 268 else (if eqS tb st sp [97, 115] = true then 269 else (if eqS tb st sp [116, 105, 109, 101, 115] = true then 270 else (if eqS tb st sp [111, 114] = true then 271 else (if eqS tb st sp [97, 110, 100] = true then 272 else (if eqS tb st sp [110, 111, 116] = true then 273 else (if eqS tb st sp [107, 105, 110, 100] = true then 274 else (if eqS tb st sp [97, 114, 109] = true then 275 else (if eqS tb st sp [109, 97, 110, 121] = true then 276 else (if eqS tb st sp [104, 117, 114, 114, 121] = true then 277 else (if eqS tb st sp [103, 97, 116, 101] = true then 278 else (if eqS tb st sp [103, 111, 101, 114] = true then 279 else (if eqS tb st sp [100, 97, 121] = true then 280 else (if eqS tb st sp [109, 111, 111, 100] = true then 281 else (if eqS tb st sp [100, 111, 110, 101] = true then 282 else (if eqS tb st sp [108, 97, 116, 101, 115, 116] = true then 283 else (if eqS tb st sp [119, 104, 111, 108, 101] = true then 284 else (if eqS tb st sp [112, 97, 114, 107] = true then 285 else (258))))))))))))))))))))))))))
def rF (tb : Nat → Nat) (st sp : Nat) : Nat := if eqS tb st sp [116, 117, 114, 110, 115] = true then 1 else (if eqS tb st sp [112, 97, 121, 115] = true then 2 else (if eqS tb st sp [98, 97, 114, 115] = true then 3 else (if eqS tb st sp [105, 102] = true then 4 else (if eqS tb st sp [111, 114] = true then 5 else (if eqS tb st sp [97, 110, 100] = true then 6 else (if eqS tb st sp [110, 111, 116] = true then 7 else (if eqS tb st sp [107, 105, 110, 100] = true then 8 else (if eqS tb st sp [104, 117, 114, 114, 121] = true then 9 else (if eqS tb st sp [103, 97, 116, 101] = true then 10 else (if eqS tb st sp [103, 111, 101, 114] = true then 11 else (if eqS tb st sp [109, 111, 111, 100] = true then 12 else (if eqS tb st sp [97, 114, 109] = true then 13 else (if eqS tb st sp [109, 97, 110, 121] = true then 14 else (if eqS tb st sp [100, 97, 121] = true then 15 else (if eqS tb st sp [100, 111, 110, 101] = true then 16 else (if eqS tb st sp [108, 97, 116, 101, 115, 116] = true then 17 else (if eqS tb st sp [119, 104, 111, 108, 101] = true then 18 else (if eqS tb st sp [112, 97, 114, 107] = true then 19 else (if eqS tb st sp [103, 111] = true then 20 else (if eqS tb st sp [98, 121] = true then 21 else (if eqS tb st sp [108, 97, 116, 99, 104] = true then 22 else (if eqS tb st sp [115, 101, 116] = true then 23 else (if eqS tb st sp [97, 115] = true then 24 else (if eqS tb st sp [112, 97, 115, 115] = true then 25 else (if eqS tb st sp [116, 105, 109, 101, 115] = true then 26 else (0))))))))))))))))))))))))))
theorem wordC (x : XT) (S : ST) (tb : Nat → Nat) (htb : ∀ i, i < 400 → tb i < 256 ∧ S.2.1 19 i = iN (tb i)) (st sp : Nat) (hst : st < sp) (hsp : sp ≤ 400) : gfX4_wordOf_18 x S (iN st) (iN sp) = some (iN (cF tb st sp), S) := by
  show lfX4_wordOf_18_13 x 20000 S (iN st) (iN sp) (iN 260) (iN st) 1 (iN 0) = _
  unfold cF
  rw [cw_w x S tb htb st sp hst hsp [116, 117, 114, 110, 115] (by decide) 260 0 20000 19994 rfl (by decide)]
  by_cases h0 : eqS tb st sp [116, 117, 114, 110, 115] = true
  · rw [if_pos h0, if_pos h0]
  rw [if_neg h0, if_neg h0, show 0 + List.length [116, 117, 114, 110, 115] + 1 = 6 from rfl, show 260 + 1 = 261 from rfl]
  rw [cw_w x S tb htb st sp hst hsp [112, 97, 121, 115] (by decide) 261 6 19994 19989 rfl (by decide)]
  by_cases h1 : eqS tb st sp [112, 97, 121, 115] = true
  · rw [if_pos h1, if_pos h1]
  rw [if_neg h1, if_neg h1, show 6 + List.length [112, 97, 121, 115] + 1 = 11 from rfl, show 261 + 1 = 262 from rfl]
  rw [cw_w x S tb htb st sp hst hsp [98, 97, 114, 115] (by decide) 262 11 19989 19984 rfl (by decide)]
  by_cases h2 : eqS tb st sp [98, 97, 114, 115] = true
  · rw [if_pos h2, if_pos h2]
  rw [if_neg h2, if_neg h2, show 11 + List.length [98, 97, 114, 115] + 1 = 16 from rfl, show 262 + 1 = 263 from rfl]
  rw [cw_w x S tb htb st sp hst hsp [103, 111] (by decide) 263 16 19984 19981 rfl (by decide)]
  by_cases h3 : eqS tb st sp [103, 111] = true
  · rw [if_pos h3, if_pos h3]
  rw [if_neg h3, if_neg h3, show 16 + List.length [103, 111] + 1 = 19 from rfl, show 263 + 1 = 264 from rfl]
  rw [cw_w x S tb htb st sp hst hsp [108, 97, 116, 99, 104] (by decide) 264 19 19981 19975 rfl (by decide)]
  by_cases h4 : eqS tb st sp [108, 97, 116, 99, 104] = true
  · rw [if_pos h4, if_pos h4]
  rw [if_neg h4, if_neg h4, show 19 + List.length [108, 97, 116, 99, 104] + 1 = 25 from rfl, show 264 + 1 = 265 from rfl]
  rw [cw_w x S tb htb st sp hst hsp [115, 101, 116] (by decide) 265 25 19975 19971 rfl (by decide)]
  by_cases h5 : eqS tb st sp [115, 101, 116] = true
  · rw [if_pos h5, if_pos h5]
  rw [if_neg h5, if_neg h5, show 25 + List.length [115, 101, 116] + 1 = 29 from rfl, show 265 + 1 = 266 from rfl]
  rw [cw_w x S tb htb st sp hst hsp [112, 97, 115, 115] (by decide) 266 29 19971 19966 rfl (by decide)]
  by_cases h6 : eqS tb st sp [112, 97, 115, 115] = true
  · rw [if_pos h6, if_pos h6]
  rw [if_neg h6, if_neg h6, show 29 + List.length [112, 97, 115, 115] + 1 = 34 from rfl, show 266 + 1 = 267 from rfl]
  rw [cw_w x S tb htb st sp hst hsp [105, 102] (by decide) 267 34 19966 19963 rfl (by decide)]
  by_cases h7 : eqS tb st sp [105, 102] = true
  · rw [if_pos h7, if_pos h7]
  rw [if_neg h7, if_neg h7, show 34 + List.length [105, 102] + 1 = 37 from rfl, show 267 + 1 = 268 from rfl]
  rw [cw_w x S tb htb st sp hst hsp [98, 121] (by decide) 268 37 19963 19960 rfl (by decide)]
  by_cases h8 : eqS tb st sp [98, 121] = true
  · rw [if_pos h8, if_pos h8]
  rw [if_neg h8, if_neg h8, show 37 + List.length [98, 121] + 1 = 40 from rfl, show 268 + 1 = 269 from rfl]
  rw [cw_w x S tb htb st sp hst hsp [97, 115] (by decide) 269 40 19960 19957 rfl (by decide)]
  by_cases h9 : eqS tb st sp [97, 115] = true
  · rw [if_pos h9, if_pos h9]
  rw [if_neg h9, if_neg h9, show 40 + List.length [97, 115] + 1 = 43 from rfl, show 269 + 1 = 270 from rfl]
  rw [cw_w x S tb htb st sp hst hsp [116, 105, 109, 101, 115] (by decide) 270 43 19957 19951 rfl (by decide)]
  by_cases h10 : eqS tb st sp [116, 105, 109, 101, 115] = true
  · rw [if_pos h10, if_pos h10]
  rw [if_neg h10, if_neg h10, show 43 + List.length [116, 105, 109, 101, 115] + 1 = 49 from rfl, show 270 + 1 = 271 from rfl]
  rw [cw_w x S tb htb st sp hst hsp [111, 114] (by decide) 271 49 19951 19948 rfl (by decide)]
  by_cases h11 : eqS tb st sp [111, 114] = true
  · rw [if_pos h11, if_pos h11]
  rw [if_neg h11, if_neg h11, show 49 + List.length [111, 114] + 1 = 52 from rfl, show 271 + 1 = 272 from rfl]
  rw [cw_w x S tb htb st sp hst hsp [97, 110, 100] (by decide) 272 52 19948 19944 rfl (by decide)]
  by_cases h12 : eqS tb st sp [97, 110, 100] = true
  · rw [if_pos h12, if_pos h12]
  rw [if_neg h12, if_neg h12, show 52 + List.length [97, 110, 100] + 1 = 56 from rfl, show 272 + 1 = 273 from rfl]
  rw [cw_w x S tb htb st sp hst hsp [110, 111, 116] (by decide) 273 56 19944 19940 rfl (by decide)]
  by_cases h13 : eqS tb st sp [110, 111, 116] = true
  · rw [if_pos h13, if_pos h13]
  rw [if_neg h13, if_neg h13, show 56 + List.length [110, 111, 116] + 1 = 60 from rfl, show 273 + 1 = 274 from rfl]
  rw [cw_w x S tb htb st sp hst hsp [107, 105, 110, 100] (by decide) 274 60 19940 19935 rfl (by decide)]
  by_cases h14 : eqS tb st sp [107, 105, 110, 100] = true
  · rw [if_pos h14, if_pos h14]
  rw [if_neg h14, if_neg h14, show 60 + List.length [107, 105, 110, 100] + 1 = 65 from rfl, show 274 + 1 = 275 from rfl]
  rw [cw_w x S tb htb st sp hst hsp [97, 114, 109] (by decide) 275 65 19935 19931 rfl (by decide)]
  by_cases h15 : eqS tb st sp [97, 114, 109] = true
  · rw [if_pos h15, if_pos h15]
  rw [if_neg h15, if_neg h15, show 65 + List.length [97, 114, 109] + 1 = 69 from rfl, show 275 + 1 = 276 from rfl]
  rw [cw_w x S tb htb st sp hst hsp [109, 97, 110, 121] (by decide) 276 69 19931 19926 rfl (by decide)]
  by_cases h16 : eqS tb st sp [109, 97, 110, 121] = true
  · rw [if_pos h16, if_pos h16]
  rw [if_neg h16, if_neg h16, show 69 + List.length [109, 97, 110, 121] + 1 = 74 from rfl, show 276 + 1 = 277 from rfl]
  rw [cw_w x S tb htb st sp hst hsp [104, 117, 114, 114, 121] (by decide) 277 74 19926 19920 rfl (by decide)]
  by_cases h17 : eqS tb st sp [104, 117, 114, 114, 121] = true
  · rw [if_pos h17, if_pos h17]
  rw [if_neg h17, if_neg h17, show 74 + List.length [104, 117, 114, 114, 121] + 1 = 80 from rfl, show 277 + 1 = 278 from rfl]
  rw [cw_w x S tb htb st sp hst hsp [103, 97, 116, 101] (by decide) 278 80 19920 19915 rfl (by decide)]
  by_cases h18 : eqS tb st sp [103, 97, 116, 101] = true
  · rw [if_pos h18, if_pos h18]
  rw [if_neg h18, if_neg h18, show 80 + List.length [103, 97, 116, 101] + 1 = 85 from rfl, show 278 + 1 = 279 from rfl]
  rw [cw_w x S tb htb st sp hst hsp [103, 111, 101, 114] (by decide) 279 85 19915 19910 rfl (by decide)]
  by_cases h19 : eqS tb st sp [103, 111, 101, 114] = true
  · rw [if_pos h19, if_pos h19]
  rw [if_neg h19, if_neg h19, show 85 + List.length [103, 111, 101, 114] + 1 = 90 from rfl, show 279 + 1 = 280 from rfl]
  rw [cw_w x S tb htb st sp hst hsp [100, 97, 121] (by decide) 280 90 19910 19906 rfl (by decide)]
  by_cases h20 : eqS tb st sp [100, 97, 121] = true
  · rw [if_pos h20, if_pos h20]
  rw [if_neg h20, if_neg h20, show 90 + List.length [100, 97, 121] + 1 = 94 from rfl, show 280 + 1 = 281 from rfl]
  rw [cw_w x S tb htb st sp hst hsp [109, 111, 111, 100] (by decide) 281 94 19906 19901 rfl (by decide)]
  by_cases h21 : eqS tb st sp [109, 111, 111, 100] = true
  · rw [if_pos h21, if_pos h21]
  rw [if_neg h21, if_neg h21, show 94 + List.length [109, 111, 111, 100] + 1 = 99 from rfl, show 281 + 1 = 282 from rfl]
  rw [cw_w x S tb htb st sp hst hsp [100, 111, 110, 101] (by decide) 282 99 19901 19896 rfl (by decide)]
  by_cases h22 : eqS tb st sp [100, 111, 110, 101] = true
  · rw [if_pos h22, if_pos h22]
  rw [if_neg h22, if_neg h22, show 99 + List.length [100, 111, 110, 101] + 1 = 104 from rfl, show 282 + 1 = 283 from rfl]
  rw [cw_w x S tb htb st sp hst hsp [108, 97, 116, 101, 115, 116] (by decide) 283 104 19896 19889 rfl (by decide)]
  by_cases h23 : eqS tb st sp [108, 97, 116, 101, 115, 116] = true
  · rw [if_pos h23, if_pos h23]
  rw [if_neg h23, if_neg h23, show 104 + List.length [108, 97, 116, 101, 115, 116] + 1 = 111 from rfl, show 283 + 1 = 284 from rfl]
  rw [cw_w x S tb htb st sp hst hsp [119, 104, 111, 108, 101] (by decide) 284 111 19889 19883 rfl (by decide)]
  by_cases h24 : eqS tb st sp [119, 104, 111, 108, 101] = true
  · rw [if_pos h24, if_pos h24]
  rw [if_neg h24, if_neg h24, show 111 + List.length [119, 104, 111, 108, 101] + 1 = 117 from rfl, show 284 + 1 = 285 from rfl]
  rw [cw_w x S tb htb st sp hst hsp [112, 97, 114, 107] (by decide) 285 117 19883 19878 rfl (by decide)]
  by_cases h25 : eqS tb st sp [112, 97, 114, 107] = true
  · rw [if_pos h25, if_pos h25]
  rw [if_neg h25, if_neg h25, show 117 + List.length [112, 97, 114, 107] + 1 = 122 from rfl, show 285 + 1 = 286 from rfl]
  rw [show (19878 : Nat) = 19877 + 1 from rfl, lfX4_wordOf_18_13, bfX4_wordOf_18_13, if_pos (show (122 : Int32) ≤ iN 122 by decide)]
  rfl
theorem wordR (x : XT) (T : ST) (tb : Nat → Nat) (htb : ∀ i, i < 400 → tb i < 256 ∧ T.2.1 137 i = (iN (tb i)).toInt8.toInt32) (hC : ∀ k, k < 122 → T.2.1 136 k = rwB.getD k 0) (st sp : Nat) (hst : st < sp) (hsp : sp ≤ 400) : gfX11_wordOf_130 x T (iN st) (iN sp) = some (iN (rF tb st sp), T) := by
  show lfX11_wordOf_130_5 x 20000 T (iN st) (iN sp) (iN 1) (iN 0) = _
  unfold rF
  rw [rw_w x T tb htb hC st sp hst hsp [116, 117, 114, 110, 115] (by decide) 1 0 19999 (by decide) (by decide)]
  by_cases h0 : eqS tb st sp [116, 117, 114, 110, 115] = true
  · rw [if_pos h0, if_pos h0]
  rw [if_neg h0, if_neg h0, show 0 + List.length [116, 117, 114, 110, 115] + 1 = 6 from rfl, show 1 + 1 = 2 from rfl]
  rw [rw_w x T tb htb hC st sp hst hsp [112, 97, 121, 115] (by decide) 2 6 19998 (by decide) (by decide)]
  by_cases h1 : eqS tb st sp [112, 97, 121, 115] = true
  · rw [if_pos h1, if_pos h1]
  rw [if_neg h1, if_neg h1, show 6 + List.length [112, 97, 121, 115] + 1 = 11 from rfl, show 2 + 1 = 3 from rfl]
  rw [rw_w x T tb htb hC st sp hst hsp [98, 97, 114, 115] (by decide) 3 11 19997 (by decide) (by decide)]
  by_cases h2 : eqS tb st sp [98, 97, 114, 115] = true
  · rw [if_pos h2, if_pos h2]
  rw [if_neg h2, if_neg h2, show 11 + List.length [98, 97, 114, 115] + 1 = 16 from rfl, show 3 + 1 = 4 from rfl]
  rw [rw_w x T tb htb hC st sp hst hsp [105, 102] (by decide) 4 16 19996 (by decide) (by decide)]
  by_cases h3 : eqS tb st sp [105, 102] = true
  · rw [if_pos h3, if_pos h3]
  rw [if_neg h3, if_neg h3, show 16 + List.length [105, 102] + 1 = 19 from rfl, show 4 + 1 = 5 from rfl]
  rw [rw_w x T tb htb hC st sp hst hsp [111, 114] (by decide) 5 19 19995 (by decide) (by decide)]
  by_cases h4 : eqS tb st sp [111, 114] = true
  · rw [if_pos h4, if_pos h4]
  rw [if_neg h4, if_neg h4, show 19 + List.length [111, 114] + 1 = 22 from rfl, show 5 + 1 = 6 from rfl]
  rw [rw_w x T tb htb hC st sp hst hsp [97, 110, 100] (by decide) 6 22 19994 (by decide) (by decide)]
  by_cases h5 : eqS tb st sp [97, 110, 100] = true
  · rw [if_pos h5, if_pos h5]
  rw [if_neg h5, if_neg h5, show 22 + List.length [97, 110, 100] + 1 = 26 from rfl, show 6 + 1 = 7 from rfl]
  rw [rw_w x T tb htb hC st sp hst hsp [110, 111, 116] (by decide) 7 26 19993 (by decide) (by decide)]
  by_cases h6 : eqS tb st sp [110, 111, 116] = true
  · rw [if_pos h6, if_pos h6]
  rw [if_neg h6, if_neg h6, show 26 + List.length [110, 111, 116] + 1 = 30 from rfl, show 7 + 1 = 8 from rfl]
  rw [rw_w x T tb htb hC st sp hst hsp [107, 105, 110, 100] (by decide) 8 30 19992 (by decide) (by decide)]
  by_cases h7 : eqS tb st sp [107, 105, 110, 100] = true
  · rw [if_pos h7, if_pos h7]
  rw [if_neg h7, if_neg h7, show 30 + List.length [107, 105, 110, 100] + 1 = 35 from rfl, show 8 + 1 = 9 from rfl]
  rw [rw_w x T tb htb hC st sp hst hsp [104, 117, 114, 114, 121] (by decide) 9 35 19991 (by decide) (by decide)]
  by_cases h8 : eqS tb st sp [104, 117, 114, 114, 121] = true
  · rw [if_pos h8, if_pos h8]
  rw [if_neg h8, if_neg h8, show 35 + List.length [104, 117, 114, 114, 121] + 1 = 41 from rfl, show 9 + 1 = 10 from rfl]
  rw [rw_w x T tb htb hC st sp hst hsp [103, 97, 116, 101] (by decide) 10 41 19990 (by decide) (by decide)]
  by_cases h9 : eqS tb st sp [103, 97, 116, 101] = true
  · rw [if_pos h9, if_pos h9]
  rw [if_neg h9, if_neg h9, show 41 + List.length [103, 97, 116, 101] + 1 = 46 from rfl, show 10 + 1 = 11 from rfl]
  rw [rw_w x T tb htb hC st sp hst hsp [103, 111, 101, 114] (by decide) 11 46 19989 (by decide) (by decide)]
  by_cases h10 : eqS tb st sp [103, 111, 101, 114] = true
  · rw [if_pos h10, if_pos h10]
  rw [if_neg h10, if_neg h10, show 46 + List.length [103, 111, 101, 114] + 1 = 51 from rfl, show 11 + 1 = 12 from rfl]
  rw [rw_w x T tb htb hC st sp hst hsp [109, 111, 111, 100] (by decide) 12 51 19988 (by decide) (by decide)]
  by_cases h11 : eqS tb st sp [109, 111, 111, 100] = true
  · rw [if_pos h11, if_pos h11]
  rw [if_neg h11, if_neg h11, show 51 + List.length [109, 111, 111, 100] + 1 = 56 from rfl, show 12 + 1 = 13 from rfl]
  rw [rw_w x T tb htb hC st sp hst hsp [97, 114, 109] (by decide) 13 56 19987 (by decide) (by decide)]
  by_cases h12 : eqS tb st sp [97, 114, 109] = true
  · rw [if_pos h12, if_pos h12]
  rw [if_neg h12, if_neg h12, show 56 + List.length [97, 114, 109] + 1 = 60 from rfl, show 13 + 1 = 14 from rfl]
  rw [rw_w x T tb htb hC st sp hst hsp [109, 97, 110, 121] (by decide) 14 60 19986 (by decide) (by decide)]
  by_cases h13 : eqS tb st sp [109, 97, 110, 121] = true
  · rw [if_pos h13, if_pos h13]
  rw [if_neg h13, if_neg h13, show 60 + List.length [109, 97, 110, 121] + 1 = 65 from rfl, show 14 + 1 = 15 from rfl]
  rw [rw_w x T tb htb hC st sp hst hsp [100, 97, 121] (by decide) 15 65 19985 (by decide) (by decide)]
  by_cases h14 : eqS tb st sp [100, 97, 121] = true
  · rw [if_pos h14, if_pos h14]
  rw [if_neg h14, if_neg h14, show 65 + List.length [100, 97, 121] + 1 = 69 from rfl, show 15 + 1 = 16 from rfl]
  rw [rw_w x T tb htb hC st sp hst hsp [100, 111, 110, 101] (by decide) 16 69 19984 (by decide) (by decide)]
  by_cases h15 : eqS tb st sp [100, 111, 110, 101] = true
  · rw [if_pos h15, if_pos h15]
  rw [if_neg h15, if_neg h15, show 69 + List.length [100, 111, 110, 101] + 1 = 74 from rfl, show 16 + 1 = 17 from rfl]
  rw [rw_w x T tb htb hC st sp hst hsp [108, 97, 116, 101, 115, 116] (by decide) 17 74 19983 (by decide) (by decide)]
  by_cases h16 : eqS tb st sp [108, 97, 116, 101, 115, 116] = true
  · rw [if_pos h16, if_pos h16]
  rw [if_neg h16, if_neg h16, show 74 + List.length [108, 97, 116, 101, 115, 116] + 1 = 81 from rfl, show 17 + 1 = 18 from rfl]
  rw [rw_w x T tb htb hC st sp hst hsp [119, 104, 111, 108, 101] (by decide) 18 81 19982 (by decide) (by decide)]
  by_cases h17 : eqS tb st sp [119, 104, 111, 108, 101] = true
  · rw [if_pos h17, if_pos h17]
  rw [if_neg h17, if_neg h17, show 81 + List.length [119, 104, 111, 108, 101] + 1 = 87 from rfl, show 18 + 1 = 19 from rfl]
  rw [rw_w x T tb htb hC st sp hst hsp [112, 97, 114, 107] (by decide) 19 87 19981 (by decide) (by decide)]
  by_cases h18 : eqS tb st sp [112, 97, 114, 107] = true
  · rw [if_pos h18, if_pos h18]
  rw [if_neg h18, if_neg h18, show 87 + List.length [112, 97, 114, 107] + 1 = 92 from rfl, show 19 + 1 = 20 from rfl]
  rw [rw_w x T tb htb hC st sp hst hsp [103, 111] (by decide) 20 92 19980 (by decide) (by decide)]
  by_cases h19 : eqS tb st sp [103, 111] = true
  · rw [if_pos h19, if_pos h19]
  rw [if_neg h19, if_neg h19, show 92 + List.length [103, 111] + 1 = 95 from rfl, show 20 + 1 = 21 from rfl]
  rw [rw_w x T tb htb hC st sp hst hsp [98, 121] (by decide) 21 95 19979 (by decide) (by decide)]
  by_cases h20 : eqS tb st sp [98, 121] = true
  · rw [if_pos h20, if_pos h20]
  rw [if_neg h20, if_neg h20, show 95 + List.length [98, 121] + 1 = 98 from rfl, show 21 + 1 = 22 from rfl]
  rw [rw_w x T tb htb hC st sp hst hsp [108, 97, 116, 99, 104] (by decide) 22 98 19978 (by decide) (by decide)]
  by_cases h21 : eqS tb st sp [108, 97, 116, 99, 104] = true
  · rw [if_pos h21, if_pos h21]
  rw [if_neg h21, if_neg h21, show 98 + List.length [108, 97, 116, 99, 104] + 1 = 104 from rfl, show 22 + 1 = 23 from rfl]
  rw [rw_w x T tb htb hC st sp hst hsp [115, 101, 116] (by decide) 23 104 19977 (by decide) (by decide)]
  by_cases h22 : eqS tb st sp [115, 101, 116] = true
  · rw [if_pos h22, if_pos h22]
  rw [if_neg h22, if_neg h22, show 104 + List.length [115, 101, 116] + 1 = 108 from rfl, show 23 + 1 = 24 from rfl]
  rw [rw_w x T tb htb hC st sp hst hsp [97, 115] (by decide) 24 108 19976 (by decide) (by decide)]
  by_cases h23 : eqS tb st sp [97, 115] = true
  · rw [if_pos h23, if_pos h23]
  rw [if_neg h23, if_neg h23, show 108 + List.length [97, 115] + 1 = 111 from rfl, show 24 + 1 = 25 from rfl]
  rw [rw_w x T tb htb hC st sp hst hsp [112, 97, 115, 115] (by decide) 25 111 19975 (by decide) (by decide)]
  by_cases h24 : eqS tb st sp [112, 97, 115, 115] = true
  · rw [if_pos h24, if_pos h24]
  rw [if_neg h24, if_neg h24, show 111 + List.length [112, 97, 115, 115] + 1 = 116 from rfl, show 25 + 1 = 26 from rfl]
  rw [rw_w x T tb htb hC st sp hst hsp [116, 105, 109, 101, 115] (by decide) 26 116 19974 (by decide) (by decide)]
  by_cases h25 : eqS tb st sp [116, 105, 109, 101, 115] = true
  · rw [if_pos h25, if_pos h25]
  rw [if_neg h25, if_neg h25, show 116 + List.length [116, 105, 109, 101, 115] + 1 = 122 from rfl, show 26 + 1 = 27 from rfl]
  rw [show (19974 : Nat) = 19973 + 1 from rfl, lfX11_wordOf_130_5, bfX11_wordOf_130_5, if_pos (show (122 : Int32) ≤ iN 122 by decide)]
  rfl
theorem allE_get (tb : Nat → Nat) : ∀ (w w' : List Nat) (st : Nat), allE tb st w = true → allE tb st w' = true → w.length = w'.length → w = w'
  | [], [], st, _, _, _ => rfl
  | c :: w, c' :: w', st, h1, h2, h3 => by
    rw [allE, Bool.and_eq_true, decide_eq_true_eq] at h1 h2
    rw [allE_get tb w w' (st + 1) h1.2 h2.2 (by simpa using h3), ← h1.1, ← h2.1]
theorem eqS_uq {tb : Nat → Nat} {st sp : Nat} {w w' : List Nat} (h : eqS tb st sp w = true) (hn : w ≠ w') : ¬ eqS tb st sp w' = true := fun h' => by
  unfold eqS at h h'
  rw [Bool.and_eq_true, decide_eq_true_eq] at h h'
  exact hn (allE_get tb w w' st h.2 h'.2 (by omega))
theorem cF_rF (tb : Nat → Nat) (st sp : Nat) : TM (cF tb st sp) = rF tb st sp ∧ cF tb st sp ≤ 285 ∧ (cF tb st sp = 258 ∨ 260 ≤ cF tb st sp) := by
  by_cases h0 : eqS tb st sp [116, 117, 114, 110, 115] = true
  · have e1 : cF tb st sp = 260 := by
      unfold cF
      rw [if_pos h0]
    have e2 : rF tb st sp = 1 := by
      unfold rF
      rw [if_pos h0]
    rw [e1, e2]
    decide
  by_cases h1 : eqS tb st sp [112, 97, 121, 115] = true
  · have e1 : cF tb st sp = 261 := by
      unfold cF
      rw [if_neg h0, if_pos h1]
    have e2 : rF tb st sp = 2 := by
      unfold rF
      rw [if_neg (eqS_uq h1 (by decide)), if_pos h1]
    rw [e1, e2]
    decide
  by_cases h2 : eqS tb st sp [98, 97, 114, 115] = true
  · have e1 : cF tb st sp = 262 := by
      unfold cF
      rw [if_neg h0, if_neg h1, if_pos h2]
    have e2 : rF tb st sp = 3 := by
      unfold rF
      rw [if_neg (eqS_uq h2 (by decide)), if_neg (eqS_uq h2 (by decide)), if_pos h2]
    rw [e1, e2]
    decide
  by_cases h3 : eqS tb st sp [103, 111] = true
  · have e1 : cF tb st sp = 263 := by
      unfold cF
      rw [if_neg h0, if_neg h1, if_neg h2, if_pos h3]
    have e2 : rF tb st sp = 20 := by
      unfold rF
      rw [if_neg (eqS_uq h3 (by decide)), if_neg (eqS_uq h3 (by decide)), if_neg (eqS_uq h3 (by decide)), if_neg (eqS_uq h3 (by decide)), if_neg (eqS_uq h3 (by decide)), if_neg (eqS_uq h3 (by decide)), if_neg (eqS_uq h3 (by decide)), if_neg (eqS_uq h3 (by decide)), if_neg (eqS_uq h3 (by decide)), if_neg (eqS_uq h3 (by decide)), if_neg (eqS_uq h3 (by decide)), if_neg (eqS_uq h3 (by decide)), if_neg (eqS_uq h3 (by decide)), if_neg (eqS_uq h3 (by decide)), if_neg (eqS_uq h3 (by decide)), if_neg (eqS_uq h3 (by decide)), if_neg (eqS_uq h3 (by decide)), if_neg (eqS_uq h3 (by decide)), if_neg (eqS_uq h3 (by decide)), if_pos h3]
    rw [e1, e2]
    decide
  by_cases h4 : eqS tb st sp [108, 97, 116, 99, 104] = true
  · have e1 : cF tb st sp = 264 := by
      unfold cF
      rw [if_neg h0, if_neg h1, if_neg h2, if_neg h3, if_pos h4]
    have e2 : rF tb st sp = 22 := by
      unfold rF
      rw [if_neg (eqS_uq h4 (by decide)), if_neg (eqS_uq h4 (by decide)), if_neg (eqS_uq h4 (by decide)), if_neg (eqS_uq h4 (by decide)), if_neg (eqS_uq h4 (by decide)), if_neg (eqS_uq h4 (by decide)), if_neg (eqS_uq h4 (by decide)), if_neg (eqS_uq h4 (by decide)), if_neg (eqS_uq h4 (by decide)), if_neg (eqS_uq h4 (by decide)), if_neg (eqS_uq h4 (by decide)), if_neg (eqS_uq h4 (by decide)), if_neg (eqS_uq h4 (by decide)), if_neg (eqS_uq h4 (by decide)), if_neg (eqS_uq h4 (by decide)), if_neg (eqS_uq h4 (by decide)), if_neg (eqS_uq h4 (by decide)), if_neg (eqS_uq h4 (by decide)), if_neg (eqS_uq h4 (by decide)), if_neg (eqS_uq h4 (by decide)), if_neg (eqS_uq h4 (by decide)), if_pos h4]
    rw [e1, e2]
    decide
  by_cases h5 : eqS tb st sp [115, 101, 116] = true
  · have e1 : cF tb st sp = 265 := by
      unfold cF
      rw [if_neg h0, if_neg h1, if_neg h2, if_neg h3, if_neg h4, if_pos h5]
    have e2 : rF tb st sp = 23 := by
      unfold rF
      rw [if_neg (eqS_uq h5 (by decide)), if_neg (eqS_uq h5 (by decide)), if_neg (eqS_uq h5 (by decide)), if_neg (eqS_uq h5 (by decide)), if_neg (eqS_uq h5 (by decide)), if_neg (eqS_uq h5 (by decide)), if_neg (eqS_uq h5 (by decide)), if_neg (eqS_uq h5 (by decide)), if_neg (eqS_uq h5 (by decide)), if_neg (eqS_uq h5 (by decide)), if_neg (eqS_uq h5 (by decide)), if_neg (eqS_uq h5 (by decide)), if_neg (eqS_uq h5 (by decide)), if_neg (eqS_uq h5 (by decide)), if_neg (eqS_uq h5 (by decide)), if_neg (eqS_uq h5 (by decide)), if_neg (eqS_uq h5 (by decide)), if_neg (eqS_uq h5 (by decide)), if_neg (eqS_uq h5 (by decide)), if_neg (eqS_uq h5 (by decide)), if_neg (eqS_uq h5 (by decide)), if_neg (eqS_uq h5 (by decide)), if_pos h5]
    rw [e1, e2]
    decide
  by_cases h6 : eqS tb st sp [112, 97, 115, 115] = true
  · have e1 : cF tb st sp = 266 := by
      unfold cF
      rw [if_neg h0, if_neg h1, if_neg h2, if_neg h3, if_neg h4, if_neg h5, if_pos h6]
    have e2 : rF tb st sp = 25 := by
      unfold rF
      rw [if_neg (eqS_uq h6 (by decide)), if_neg (eqS_uq h6 (by decide)), if_neg (eqS_uq h6 (by decide)), if_neg (eqS_uq h6 (by decide)), if_neg (eqS_uq h6 (by decide)), if_neg (eqS_uq h6 (by decide)), if_neg (eqS_uq h6 (by decide)), if_neg (eqS_uq h6 (by decide)), if_neg (eqS_uq h6 (by decide)), if_neg (eqS_uq h6 (by decide)), if_neg (eqS_uq h6 (by decide)), if_neg (eqS_uq h6 (by decide)), if_neg (eqS_uq h6 (by decide)), if_neg (eqS_uq h6 (by decide)), if_neg (eqS_uq h6 (by decide)), if_neg (eqS_uq h6 (by decide)), if_neg (eqS_uq h6 (by decide)), if_neg (eqS_uq h6 (by decide)), if_neg (eqS_uq h6 (by decide)), if_neg (eqS_uq h6 (by decide)), if_neg (eqS_uq h6 (by decide)), if_neg (eqS_uq h6 (by decide)), if_neg (eqS_uq h6 (by decide)), if_neg (eqS_uq h6 (by decide)), if_pos h6]
    rw [e1, e2]
    decide
  by_cases h7 : eqS tb st sp [105, 102] = true
  · have e1 : cF tb st sp = 267 := by
      unfold cF
      rw [if_neg h0, if_neg h1, if_neg h2, if_neg h3, if_neg h4, if_neg h5, if_neg h6, if_pos h7]
    have e2 : rF tb st sp = 4 := by
      unfold rF
      rw [if_neg (eqS_uq h7 (by decide)), if_neg (eqS_uq h7 (by decide)), if_neg (eqS_uq h7 (by decide)), if_pos h7]
    rw [e1, e2]
    decide
  by_cases h8 : eqS tb st sp [98, 121] = true
  · have e1 : cF tb st sp = 268 := by
      unfold cF
      rw [if_neg h0, if_neg h1, if_neg h2, if_neg h3, if_neg h4, if_neg h5, if_neg h6, if_neg h7, if_pos h8]
    have e2 : rF tb st sp = 21 := by
      unfold rF
      rw [if_neg (eqS_uq h8 (by decide)), if_neg (eqS_uq h8 (by decide)), if_neg (eqS_uq h8 (by decide)), if_neg (eqS_uq h8 (by decide)), if_neg (eqS_uq h8 (by decide)), if_neg (eqS_uq h8 (by decide)), if_neg (eqS_uq h8 (by decide)), if_neg (eqS_uq h8 (by decide)), if_neg (eqS_uq h8 (by decide)), if_neg (eqS_uq h8 (by decide)), if_neg (eqS_uq h8 (by decide)), if_neg (eqS_uq h8 (by decide)), if_neg (eqS_uq h8 (by decide)), if_neg (eqS_uq h8 (by decide)), if_neg (eqS_uq h8 (by decide)), if_neg (eqS_uq h8 (by decide)), if_neg (eqS_uq h8 (by decide)), if_neg (eqS_uq h8 (by decide)), if_neg (eqS_uq h8 (by decide)), if_neg (eqS_uq h8 (by decide)), if_pos h8]
    rw [e1, e2]
    decide
  by_cases h9 : eqS tb st sp [97, 115] = true
  · have e1 : cF tb st sp = 269 := by
      unfold cF
      rw [if_neg h0, if_neg h1, if_neg h2, if_neg h3, if_neg h4, if_neg h5, if_neg h6, if_neg h7, if_neg h8, if_pos h9]
    have e2 : rF tb st sp = 24 := by
      unfold rF
      rw [if_neg (eqS_uq h9 (by decide)), if_neg (eqS_uq h9 (by decide)), if_neg (eqS_uq h9 (by decide)), if_neg (eqS_uq h9 (by decide)), if_neg (eqS_uq h9 (by decide)), if_neg (eqS_uq h9 (by decide)), if_neg (eqS_uq h9 (by decide)), if_neg (eqS_uq h9 (by decide)), if_neg (eqS_uq h9 (by decide)), if_neg (eqS_uq h9 (by decide)), if_neg (eqS_uq h9 (by decide)), if_neg (eqS_uq h9 (by decide)), if_neg (eqS_uq h9 (by decide)), if_neg (eqS_uq h9 (by decide)), if_neg (eqS_uq h9 (by decide)), if_neg (eqS_uq h9 (by decide)), if_neg (eqS_uq h9 (by decide)), if_neg (eqS_uq h9 (by decide)), if_neg (eqS_uq h9 (by decide)), if_neg (eqS_uq h9 (by decide)), if_neg (eqS_uq h9 (by decide)), if_neg (eqS_uq h9 (by decide)), if_neg (eqS_uq h9 (by decide)), if_pos h9]
    rw [e1, e2]
    decide
  by_cases h10 : eqS tb st sp [116, 105, 109, 101, 115] = true
  · have e1 : cF tb st sp = 270 := by
      unfold cF
      rw [if_neg h0, if_neg h1, if_neg h2, if_neg h3, if_neg h4, if_neg h5, if_neg h6, if_neg h7, if_neg h8, if_neg h9, if_pos h10]
    have e2 : rF tb st sp = 26 := by
      unfold rF
      rw [if_neg (eqS_uq h10 (by decide)), if_neg (eqS_uq h10 (by decide)), if_neg (eqS_uq h10 (by decide)), if_neg (eqS_uq h10 (by decide)), if_neg (eqS_uq h10 (by decide)), if_neg (eqS_uq h10 (by decide)), if_neg (eqS_uq h10 (by decide)), if_neg (eqS_uq h10 (by decide)), if_neg (eqS_uq h10 (by decide)), if_neg (eqS_uq h10 (by decide)), if_neg (eqS_uq h10 (by decide)), if_neg (eqS_uq h10 (by decide)), if_neg (eqS_uq h10 (by decide)), if_neg (eqS_uq h10 (by decide)), if_neg (eqS_uq h10 (by decide)), if_neg (eqS_uq h10 (by decide)), if_neg (eqS_uq h10 (by decide)), if_neg (eqS_uq h10 (by decide)), if_neg (eqS_uq h10 (by decide)), if_neg (eqS_uq h10 (by decide)), if_neg (eqS_uq h10 (by decide)), if_neg (eqS_uq h10 (by decide)), if_neg (eqS_uq h10 (by decide)), if_neg (eqS_uq h10 (by decide)), if_neg (eqS_uq h10 (by decide)), if_pos h10]
    rw [e1, e2]
    decide
  by_cases h11 : eqS tb st sp [111, 114] = true
  · have e1 : cF tb st sp = 271 := by
      unfold cF
      rw [if_neg h0, if_neg h1, if_neg h2, if_neg h3, if_neg h4, if_neg h5, if_neg h6, if_neg h7, if_neg h8, if_neg h9, if_neg h10, if_pos h11]
    have e2 : rF tb st sp = 5 := by
      unfold rF
      rw [if_neg (eqS_uq h11 (by decide)), if_neg (eqS_uq h11 (by decide)), if_neg (eqS_uq h11 (by decide)), if_neg (eqS_uq h11 (by decide)), if_pos h11]
    rw [e1, e2]
    decide
  by_cases h12 : eqS tb st sp [97, 110, 100] = true
  · have e1 : cF tb st sp = 272 := by
      unfold cF
      rw [if_neg h0, if_neg h1, if_neg h2, if_neg h3, if_neg h4, if_neg h5, if_neg h6, if_neg h7, if_neg h8, if_neg h9, if_neg h10, if_neg h11, if_pos h12]
    have e2 : rF tb st sp = 6 := by
      unfold rF
      rw [if_neg (eqS_uq h12 (by decide)), if_neg (eqS_uq h12 (by decide)), if_neg (eqS_uq h12 (by decide)), if_neg (eqS_uq h12 (by decide)), if_neg (eqS_uq h12 (by decide)), if_pos h12]
    rw [e1, e2]
    decide
  by_cases h13 : eqS tb st sp [110, 111, 116] = true
  · have e1 : cF tb st sp = 273 := by
      unfold cF
      rw [if_neg h0, if_neg h1, if_neg h2, if_neg h3, if_neg h4, if_neg h5, if_neg h6, if_neg h7, if_neg h8, if_neg h9, if_neg h10, if_neg h11, if_neg h12, if_pos h13]
    have e2 : rF tb st sp = 7 := by
      unfold rF
      rw [if_neg (eqS_uq h13 (by decide)), if_neg (eqS_uq h13 (by decide)), if_neg (eqS_uq h13 (by decide)), if_neg (eqS_uq h13 (by decide)), if_neg (eqS_uq h13 (by decide)), if_neg (eqS_uq h13 (by decide)), if_pos h13]
    rw [e1, e2]
    decide
  by_cases h14 : eqS tb st sp [107, 105, 110, 100] = true
  · have e1 : cF tb st sp = 274 := by
      unfold cF
      rw [if_neg h0, if_neg h1, if_neg h2, if_neg h3, if_neg h4, if_neg h5, if_neg h6, if_neg h7, if_neg h8, if_neg h9, if_neg h10, if_neg h11, if_neg h12, if_neg h13, if_pos h14]
    have e2 : rF tb st sp = 8 := by
      unfold rF
      rw [if_neg (eqS_uq h14 (by decide)), if_neg (eqS_uq h14 (by decide)), if_neg (eqS_uq h14 (by decide)), if_neg (eqS_uq h14 (by decide)), if_neg (eqS_uq h14 (by decide)), if_neg (eqS_uq h14 (by decide)), if_neg (eqS_uq h14 (by decide)), if_pos h14]
    rw [e1, e2]
    decide
  by_cases h15 : eqS tb st sp [97, 114, 109] = true
  · have e1 : cF tb st sp = 275 := by
      unfold cF
      rw [if_neg h0, if_neg h1, if_neg h2, if_neg h3, if_neg h4, if_neg h5, if_neg h6, if_neg h7, if_neg h8, if_neg h9, if_neg h10, if_neg h11, if_neg h12, if_neg h13, if_neg h14, if_pos h15]
    have e2 : rF tb st sp = 13 := by
      unfold rF
      rw [if_neg (eqS_uq h15 (by decide)), if_neg (eqS_uq h15 (by decide)), if_neg (eqS_uq h15 (by decide)), if_neg (eqS_uq h15 (by decide)), if_neg (eqS_uq h15 (by decide)), if_neg (eqS_uq h15 (by decide)), if_neg (eqS_uq h15 (by decide)), if_neg (eqS_uq h15 (by decide)), if_neg (eqS_uq h15 (by decide)), if_neg (eqS_uq h15 (by decide)), if_neg (eqS_uq h15 (by decide)), if_neg (eqS_uq h15 (by decide)), if_pos h15]
    rw [e1, e2]
    decide
  by_cases h16 : eqS tb st sp [109, 97, 110, 121] = true
  · have e1 : cF tb st sp = 276 := by
      unfold cF
      rw [if_neg h0, if_neg h1, if_neg h2, if_neg h3, if_neg h4, if_neg h5, if_neg h6, if_neg h7, if_neg h8, if_neg h9, if_neg h10, if_neg h11, if_neg h12, if_neg h13, if_neg h14, if_neg h15, if_pos h16]
    have e2 : rF tb st sp = 14 := by
      unfold rF
      rw [if_neg (eqS_uq h16 (by decide)), if_neg (eqS_uq h16 (by decide)), if_neg (eqS_uq h16 (by decide)), if_neg (eqS_uq h16 (by decide)), if_neg (eqS_uq h16 (by decide)), if_neg (eqS_uq h16 (by decide)), if_neg (eqS_uq h16 (by decide)), if_neg (eqS_uq h16 (by decide)), if_neg (eqS_uq h16 (by decide)), if_neg (eqS_uq h16 (by decide)), if_neg (eqS_uq h16 (by decide)), if_neg (eqS_uq h16 (by decide)), if_neg (eqS_uq h16 (by decide)), if_pos h16]
    rw [e1, e2]
    decide
  by_cases h17 : eqS tb st sp [104, 117, 114, 114, 121] = true
  · have e1 : cF tb st sp = 277 := by
      unfold cF
      rw [if_neg h0, if_neg h1, if_neg h2, if_neg h3, if_neg h4, if_neg h5, if_neg h6, if_neg h7, if_neg h8, if_neg h9, if_neg h10, if_neg h11, if_neg h12, if_neg h13, if_neg h14, if_neg h15, if_neg h16, if_pos h17]
    have e2 : rF tb st sp = 9 := by
      unfold rF
      rw [if_neg (eqS_uq h17 (by decide)), if_neg (eqS_uq h17 (by decide)), if_neg (eqS_uq h17 (by decide)), if_neg (eqS_uq h17 (by decide)), if_neg (eqS_uq h17 (by decide)), if_neg (eqS_uq h17 (by decide)), if_neg (eqS_uq h17 (by decide)), if_neg (eqS_uq h17 (by decide)), if_pos h17]
    rw [e1, e2]
    decide
  by_cases h18 : eqS tb st sp [103, 97, 116, 101] = true
  · have e1 : cF tb st sp = 278 := by
      unfold cF
      rw [if_neg h0, if_neg h1, if_neg h2, if_neg h3, if_neg h4, if_neg h5, if_neg h6, if_neg h7, if_neg h8, if_neg h9, if_neg h10, if_neg h11, if_neg h12, if_neg h13, if_neg h14, if_neg h15, if_neg h16, if_neg h17, if_pos h18]
    have e2 : rF tb st sp = 10 := by
      unfold rF
      rw [if_neg (eqS_uq h18 (by decide)), if_neg (eqS_uq h18 (by decide)), if_neg (eqS_uq h18 (by decide)), if_neg (eqS_uq h18 (by decide)), if_neg (eqS_uq h18 (by decide)), if_neg (eqS_uq h18 (by decide)), if_neg (eqS_uq h18 (by decide)), if_neg (eqS_uq h18 (by decide)), if_neg (eqS_uq h18 (by decide)), if_pos h18]
    rw [e1, e2]
    decide
  by_cases h19 : eqS tb st sp [103, 111, 101, 114] = true
  · have e1 : cF tb st sp = 279 := by
      unfold cF
      rw [if_neg h0, if_neg h1, if_neg h2, if_neg h3, if_neg h4, if_neg h5, if_neg h6, if_neg h7, if_neg h8, if_neg h9, if_neg h10, if_neg h11, if_neg h12, if_neg h13, if_neg h14, if_neg h15, if_neg h16, if_neg h17, if_neg h18, if_pos h19]
    have e2 : rF tb st sp = 11 := by
      unfold rF
      rw [if_neg (eqS_uq h19 (by decide)), if_neg (eqS_uq h19 (by decide)), if_neg (eqS_uq h19 (by decide)), if_neg (eqS_uq h19 (by decide)), if_neg (eqS_uq h19 (by decide)), if_neg (eqS_uq h19 (by decide)), if_neg (eqS_uq h19 (by decide)), if_neg (eqS_uq h19 (by decide)), if_neg (eqS_uq h19 (by decide)), if_neg (eqS_uq h19 (by decide)), if_pos h19]
    rw [e1, e2]
    decide
  by_cases h20 : eqS tb st sp [100, 97, 121] = true
  · have e1 : cF tb st sp = 280 := by
      unfold cF
      rw [if_neg h0, if_neg h1, if_neg h2, if_neg h3, if_neg h4, if_neg h5, if_neg h6, if_neg h7, if_neg h8, if_neg h9, if_neg h10, if_neg h11, if_neg h12, if_neg h13, if_neg h14, if_neg h15, if_neg h16, if_neg h17, if_neg h18, if_neg h19, if_pos h20]
    have e2 : rF tb st sp = 15 := by
      unfold rF
      rw [if_neg (eqS_uq h20 (by decide)), if_neg (eqS_uq h20 (by decide)), if_neg (eqS_uq h20 (by decide)), if_neg (eqS_uq h20 (by decide)), if_neg (eqS_uq h20 (by decide)), if_neg (eqS_uq h20 (by decide)), if_neg (eqS_uq h20 (by decide)), if_neg (eqS_uq h20 (by decide)), if_neg (eqS_uq h20 (by decide)), if_neg (eqS_uq h20 (by decide)), if_neg (eqS_uq h20 (by decide)), if_neg (eqS_uq h20 (by decide)), if_neg (eqS_uq h20 (by decide)), if_neg (eqS_uq h20 (by decide)), if_pos h20]
    rw [e1, e2]
    decide
  by_cases h21 : eqS tb st sp [109, 111, 111, 100] = true
  · have e1 : cF tb st sp = 281 := by
      unfold cF
      rw [if_neg h0, if_neg h1, if_neg h2, if_neg h3, if_neg h4, if_neg h5, if_neg h6, if_neg h7, if_neg h8, if_neg h9, if_neg h10, if_neg h11, if_neg h12, if_neg h13, if_neg h14, if_neg h15, if_neg h16, if_neg h17, if_neg h18, if_neg h19, if_neg h20, if_pos h21]
    have e2 : rF tb st sp = 12 := by
      unfold rF
      rw [if_neg (eqS_uq h21 (by decide)), if_neg (eqS_uq h21 (by decide)), if_neg (eqS_uq h21 (by decide)), if_neg (eqS_uq h21 (by decide)), if_neg (eqS_uq h21 (by decide)), if_neg (eqS_uq h21 (by decide)), if_neg (eqS_uq h21 (by decide)), if_neg (eqS_uq h21 (by decide)), if_neg (eqS_uq h21 (by decide)), if_neg (eqS_uq h21 (by decide)), if_neg (eqS_uq h21 (by decide)), if_pos h21]
    rw [e1, e2]
    decide
  by_cases h22 : eqS tb st sp [100, 111, 110, 101] = true
  · have e1 : cF tb st sp = 282 := by
      unfold cF
      rw [if_neg h0, if_neg h1, if_neg h2, if_neg h3, if_neg h4, if_neg h5, if_neg h6, if_neg h7, if_neg h8, if_neg h9, if_neg h10, if_neg h11, if_neg h12, if_neg h13, if_neg h14, if_neg h15, if_neg h16, if_neg h17, if_neg h18, if_neg h19, if_neg h20, if_neg h21, if_pos h22]
    have e2 : rF tb st sp = 16 := by
      unfold rF
      rw [if_neg (eqS_uq h22 (by decide)), if_neg (eqS_uq h22 (by decide)), if_neg (eqS_uq h22 (by decide)), if_neg (eqS_uq h22 (by decide)), if_neg (eqS_uq h22 (by decide)), if_neg (eqS_uq h22 (by decide)), if_neg (eqS_uq h22 (by decide)), if_neg (eqS_uq h22 (by decide)), if_neg (eqS_uq h22 (by decide)), if_neg (eqS_uq h22 (by decide)), if_neg (eqS_uq h22 (by decide)), if_neg (eqS_uq h22 (by decide)), if_neg (eqS_uq h22 (by decide)), if_neg (eqS_uq h22 (by decide)), if_neg (eqS_uq h22 (by decide)), if_pos h22]
    rw [e1, e2]
    decide
  by_cases h23 : eqS tb st sp [108, 97, 116, 101, 115, 116] = true
  · have e1 : cF tb st sp = 283 := by
      unfold cF
      rw [if_neg h0, if_neg h1, if_neg h2, if_neg h3, if_neg h4, if_neg h5, if_neg h6, if_neg h7, if_neg h8, if_neg h9, if_neg h10, if_neg h11, if_neg h12, if_neg h13, if_neg h14, if_neg h15, if_neg h16, if_neg h17, if_neg h18, if_neg h19, if_neg h20, if_neg h21, if_neg h22, if_pos h23]
    have e2 : rF tb st sp = 17 := by
      unfold rF
      rw [if_neg (eqS_uq h23 (by decide)), if_neg (eqS_uq h23 (by decide)), if_neg (eqS_uq h23 (by decide)), if_neg (eqS_uq h23 (by decide)), if_neg (eqS_uq h23 (by decide)), if_neg (eqS_uq h23 (by decide)), if_neg (eqS_uq h23 (by decide)), if_neg (eqS_uq h23 (by decide)), if_neg (eqS_uq h23 (by decide)), if_neg (eqS_uq h23 (by decide)), if_neg (eqS_uq h23 (by decide)), if_neg (eqS_uq h23 (by decide)), if_neg (eqS_uq h23 (by decide)), if_neg (eqS_uq h23 (by decide)), if_neg (eqS_uq h23 (by decide)), if_neg (eqS_uq h23 (by decide)), if_pos h23]
    rw [e1, e2]
    decide
  by_cases h24 : eqS tb st sp [119, 104, 111, 108, 101] = true
  · have e1 : cF tb st sp = 284 := by
      unfold cF
      rw [if_neg h0, if_neg h1, if_neg h2, if_neg h3, if_neg h4, if_neg h5, if_neg h6, if_neg h7, if_neg h8, if_neg h9, if_neg h10, if_neg h11, if_neg h12, if_neg h13, if_neg h14, if_neg h15, if_neg h16, if_neg h17, if_neg h18, if_neg h19, if_neg h20, if_neg h21, if_neg h22, if_neg h23, if_pos h24]
    have e2 : rF tb st sp = 18 := by
      unfold rF
      rw [if_neg (eqS_uq h24 (by decide)), if_neg (eqS_uq h24 (by decide)), if_neg (eqS_uq h24 (by decide)), if_neg (eqS_uq h24 (by decide)), if_neg (eqS_uq h24 (by decide)), if_neg (eqS_uq h24 (by decide)), if_neg (eqS_uq h24 (by decide)), if_neg (eqS_uq h24 (by decide)), if_neg (eqS_uq h24 (by decide)), if_neg (eqS_uq h24 (by decide)), if_neg (eqS_uq h24 (by decide)), if_neg (eqS_uq h24 (by decide)), if_neg (eqS_uq h24 (by decide)), if_neg (eqS_uq h24 (by decide)), if_neg (eqS_uq h24 (by decide)), if_neg (eqS_uq h24 (by decide)), if_neg (eqS_uq h24 (by decide)), if_pos h24]
    rw [e1, e2]
    decide
  by_cases h25 : eqS tb st sp [112, 97, 114, 107] = true
  · have e1 : cF tb st sp = 285 := by
      unfold cF
      rw [if_neg h0, if_neg h1, if_neg h2, if_neg h3, if_neg h4, if_neg h5, if_neg h6, if_neg h7, if_neg h8, if_neg h9, if_neg h10, if_neg h11, if_neg h12, if_neg h13, if_neg h14, if_neg h15, if_neg h16, if_neg h17, if_neg h18, if_neg h19, if_neg h20, if_neg h21, if_neg h22, if_neg h23, if_neg h24, if_pos h25]
    have e2 : rF tb st sp = 19 := by
      unfold rF
      rw [if_neg (eqS_uq h25 (by decide)), if_neg (eqS_uq h25 (by decide)), if_neg (eqS_uq h25 (by decide)), if_neg (eqS_uq h25 (by decide)), if_neg (eqS_uq h25 (by decide)), if_neg (eqS_uq h25 (by decide)), if_neg (eqS_uq h25 (by decide)), if_neg (eqS_uq h25 (by decide)), if_neg (eqS_uq h25 (by decide)), if_neg (eqS_uq h25 (by decide)), if_neg (eqS_uq h25 (by decide)), if_neg (eqS_uq h25 (by decide)), if_neg (eqS_uq h25 (by decide)), if_neg (eqS_uq h25 (by decide)), if_neg (eqS_uq h25 (by decide)), if_neg (eqS_uq h25 (by decide)), if_neg (eqS_uq h25 (by decide)), if_neg (eqS_uq h25 (by decide)), if_pos h25]
    rw [e1, e2]
    decide
  have e1 : cF tb st sp = 258 := by
    unfold cF
    rw [if_neg h0, if_neg h1, if_neg h2, if_neg h3, if_neg h4, if_neg h5, if_neg h6, if_neg h7, if_neg h8, if_neg h9, if_neg h10, if_neg h11, if_neg h12, if_neg h13, if_neg h14, if_neg h15, if_neg h16, if_neg h17, if_neg h18, if_neg h19, if_neg h20, if_neg h21, if_neg h22, if_neg h23, if_neg h24, if_neg h25]
  have e2 : rF tb st sp = 0 := by
    unfold rF
    rw [if_neg h0, if_neg h1, if_neg h2, if_neg h7, if_neg h11, if_neg h12, if_neg h13, if_neg h14, if_neg h17, if_neg h18, if_neg h19, if_neg h21, if_neg h15, if_neg h16, if_neg h20, if_neg h22, if_neg h23, if_neg h24, if_neg h25, if_neg h3, if_neg h8, if_neg h4, if_neg h5, if_neg h9, if_neg h6, if_neg h10]
  rw [e1, e2]
  decide
end WORDS
