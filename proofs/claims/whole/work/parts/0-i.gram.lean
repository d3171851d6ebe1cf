section GRAM
/-! a row of TOKENS (as the reference has them) and a row of steps (as the class has them) that mean the same -/
abbrev DN : Type := (Nat → Int32) → Option Int32
def jD (op : Nat) (d1 d2 : DN) : DN := fun W => match d1 W with
  | none => none
  | some a => match d2 W with
    | none => none
    | some b => jn op a b
def nD (d : DN) : DN := fun W => match d W with
  | none => none
  | some a => some (1 - a)
def sD (w : Nat) (d1 d2 : DN) : DN := fun W => match d1 W with
  | none => none
  | some a => if a = iN (1 - w) then some a else d2 W
def lw (c : Nat) : Nat := match c with
  | 8 => 0
  | 9 => 3
  | 10 => 4
  | 11 => 5
  | 12 => 7
  | 13 => 1
  | 14 => 2
  | _ => 6
/-- a word of a law, of orders: its number in the class -/
def WD (o : Bool) (cd vl : Nat → Int32) (i j w : Nat) : Prop :=
  match o with
  | false => ∃ c, 8 ≤ c ∧ c ≤ 15 ∧ cd i = iN c ∧ w = lw c ∧ j = i + 1
  | true => (∃ c, 15 ≤ c ∧ c ≤ 18 ∧ cd i = iN c ∧ w = c - 15 ∧ j = i + 1) ∨
    (cd (i + 1) = iN 50 ∧ j = i + 2 ∧ ((∃ p, p < 5 ∧ vl (i + 1) = iN p ∧ ((cd i = iN 14 ∧ w = 4 + p) ∨ (cd i = iN 19 ∧ w = 9 + p))) ∨ ∃ g, g < 10 ∧ vl (i + 1) = iN g ∧ cd i = iN 13 ∧ w = 14 + g))
theorem WD_lt {o : Bool} {cd vl : Nat → Int32} {i j w : Nat} (h : WD o cd vl i j w) : w < (if o then 24 else 8) ∧ i < j := by
  cases o with
  | false =>
    obtain ⟨c, h1, h2, h3, rfl, h5⟩ := h
    refine ⟨?_, by omega⟩
    have : c = 8 ∨ c = 9 ∨ c = 10 ∨ c = 11 ∨ c = 12 ∨ c = 13 ∨ c = 14 ∨ c = 15 := by omega
    rcases this with rfl | rfl | rfl | rfl | rfl | rfl | rfl | rfl <;> decide
  | true =>
    rcases h with ⟨c, h1, h2, h3, rfl, h5⟩ | ⟨h1, h2, ⟨p, h3, h4, h5⟩ | ⟨g, h3, h4, h5, h6⟩⟩
    · exact ⟨by simp; omega, by omega⟩
    · exact ⟨by simp; omega, by omega⟩
    · exact ⟨by simp; omega, by omega⟩
/-- kinds: 0 PART, 1 TERM, 2 SUM, 3 PLAIN without "not", 4 PLAIN, 5 BOTH, 6 TEST; dp: brackets that may still come; tokens from i to j, steps from a to b, k leaves -/
def Gr (o : Bool) (cd vl cs : Nat → Int32) : Nat → Nat → Nat → Nat → Nat → Nat → Nat → Nat → DN → Prop
  | 0, _, _, _, _, _, _, _, _ => False
  | n + 1, dp, kd, i, j, a, b, k, d =>
    (kd = 0 ∧ ((cd i = iN 50 ∧ j = i + 1 ∧ b = a + 1 ∧ k = 1 ∧ ∃ v, v ≤ 1000 ∧ vl i = iN v ∧ cs a = iN (256 + 512 * v) ∧ d = fun _ => some (iN v)) ∨
      (∃ w, WD o cd vl i j w ∧ b = a + 1 ∧ k = 1 ∧ cs a = iN (259 + 512 * w) ∧ d = fun W => some (W w)) ∨
      (∃ dp' j', dp = dp' + 1 ∧ j = j' + 1 ∧ cd i = iN 191 ∧ cd j' = iN 193 ∧ Gr o cd vl cs n dp' 2 (i + 1) j' a b k d))) ∨
    (kd = 1 ∧ (Gr o cd vl cs n dp 0 i j a b k d ∨ ∃ m p b' k1 k2 d1 d2 op, Gr o cd vl cs n dp 1 i m a p k1 d1 ∧ (op = 42 ∨ op = 47 ∨ op = 37) ∧ cd m = iN (100 + op) ∧ Gr o cd vl cs n dp 0 (m + 1) j p b' k2 d2 ∧ b = b' + 1 ∧ cs b' = iN op ∧ k = k1 + k2 ∧ d = jD op d1 d2)) ∨
    (kd = 2 ∧ (Gr o cd vl cs n dp 1 i j a b k d ∨ ∃ m p b' k1 k2 d1 d2 op, Gr o cd vl cs n dp 2 i m a p k1 d1 ∧ (op = 43 ∨ op = 45) ∧ cd m = iN (100 + op) ∧ Gr o cd vl cs n dp 1 (m + 1) j p b' k2 d2 ∧ b = b' + 1 ∧ cs b' = iN op ∧ k = k1 + k2 ∧ d = jD op d1 d2)) ∨
    (kd = 3 ∧ ((∃ dp' j', dp = dp' + 1 ∧ j = j' + 1 ∧ cd i = iN 140 ∧ cd j' = iN 141 ∧ Gr o cd vl cs n dp' 6 (i + 1) j' a b k d) ∨ ∃ m p b' k1 k2 d1 d2 op, Gr o cd vl cs n dp 2 i m a p k1 d1 ∧ (op = 60 ∨ op = 61 ∨ op = 62) ∧ cd m = iN (100 + op) ∧ Gr o cd vl cs n dp 2 (m + 1) j p b' k2 d2 ∧ b = b' + 1 ∧ cs b' = iN op ∧ k = k1 + k2 ∧ d = jD op d1 d2)) ∨
    (kd = 4 ∧ ∃ q b' d', (∀ r, r < q → cd (i + r) = iN 7) ∧ Gr o cd vl cs n dp 3 (i + q) j a b' k d' ∧ ((q % 2 = 0 ∧ b = b' ∧ d = d') ∨ (q % 2 = 1 ∧ b = b' + 1 ∧ cs b' = iN 273 ∧ d = nD d'))) ∨
    (kd = 5 ∧ (Gr o cd vl cs n dp 4 i j a b k d ∨ ∃ m p k1 k2 d1 d2, Gr o cd vl cs n dp 5 i m a p k1 d1 ∧ cd m = iN 6 ∧ cs p = iN (271 + 1 + 512 * b) ∧ Gr o cd vl cs n dp 4 (m + 1) j (p + 1) b k2 d2 ∧ k = k1 + k2 ∧ d = sD 1 d1 d2)) ∨
    (kd = 6 ∧ (Gr o cd vl cs n dp 5 i j a b k d ∨ ∃ m p k1 k2 d1 d2, Gr o cd vl cs n dp 6 i m a p k1 d1 ∧ cd m = iN 5 ∧ cs p = iN (271 + 0 + 512 * b) ∧ Gr o cd vl cs n dp 5 (m + 1) j (p + 1) b k2 d2 ∧ k = k1 + k2 ∧ d = sD 0 d1 d2))
theorem Gr.up {o : Bool} {cd vl cs : Nat → Int32} : ∀ {n dp kd i j a b k : Nat} {d : DN}, Gr o cd vl cs n dp kd i j a b k d → Gr o cd vl cs (n + 1) dp kd i j a b k d := by
  intro n
  induction n with
  | zero => intro dp kd i j a b k d h; exact h.elim
  | succ n ih =>
    intro dp kd i j a b k d h
    rcases h with ⟨rfl, h⟩ | ⟨rfl, h⟩ | ⟨rfl, h⟩ | ⟨rfl, h⟩ | ⟨rfl, h⟩ | ⟨rfl, h⟩ | ⟨rfl, h⟩
    · refine Or.inl ⟨rfl, ?_⟩
      rcases h with h | h | ⟨dp', j', h1, h2, h3, h4, h5⟩
      · exact Or.inl h
      · exact Or.inr (Or.inl h)
      · exact Or.inr (Or.inr ⟨dp', j', h1, h2, h3, h4, ih h5⟩)
    · refine Or.inr (Or.inl ⟨rfl, ?_⟩)
      rcases h with h | ⟨m, p, b', k1, k2, d1, d2, op, h1, h2, h3, h4, h5⟩
      · exact Or.inl (ih h)
      · exact Or.inr ⟨m, p, b', k1, k2, d1, d2, op, ih h1, h2, h3, ih h4, h5⟩
    · refine Or.inr (Or.inr (Or.inl ⟨rfl, ?_⟩))
      rcases h with h | ⟨m, p, b', k1, k2, d1, d2, op, h1, h2, h3, h4, h5⟩
      · exact Or.inl (ih h)
      · exact Or.inr ⟨m, p, b', k1, k2, d1, d2, op, ih h1, h2, h3, ih h4, h5⟩
    · refine Or.inr (Or.inr (Or.inr (Or.inl ⟨rfl, ?_⟩)))
      rcases h with ⟨dp', j', h1, h2, h3, h4, h5⟩ | ⟨m, p, b', k1, k2, d1, d2, op, h1, h2, h3, h4, h5⟩
      · exact Or.inl ⟨dp', j', h1, h2, h3, h4, ih h5⟩
      · exact Or.inr ⟨m, p, b', k1, k2, d1, d2, op, ih h1, h2, h3, ih h4, h5⟩
    · refine Or.inr (Or.inr (Or.inr (Or.inr (Or.inl ⟨rfl, ?_⟩))))
      obtain ⟨q, b', d', h1, h2, h3⟩ := h
      exact ⟨q, b', d', h1, ih h2, h3⟩
    · refine Or.inr (Or.inr (Or.inr (Or.inr (Or.inr (Or.inl ⟨rfl, ?_⟩)))))
      rcases h with h | ⟨m, p, k1, k2, d1, d2, h1, h2, h3, h4, h5⟩
      · exact Or.inl (ih h)
      · exact Or.inr ⟨m, p, k1, k2, d1, d2, ih h1, h2, h3, ih h4, h5⟩
    · refine Or.inr (Or.inr (Or.inr (Or.inr (Or.inr (Or.inr ⟨rfl, ?_⟩)))))
      rcases h with h | ⟨m, p, k1, k2, d1, d2, h1, h2, h3, h4, h5⟩
      · exact Or.inl (ih h)
      · exact Or.inr ⟨m, p, k1, k2, d1, d2, ih h1, h2, h3, ih h4, h5⟩
theorem Gr.le {o : Bool} {cd vl cs : Nat → Int32} {n n' dp kd i j a b k : Nat} {d : DN} (h : Gr o cd vl cs n dp kd i j a b k d) (hn : n ≤ n') : Gr o cd vl cs n' dp kd i j a b k d := by
  induction hn with
  | refl => exact h
  | step _ ih => exact ih.up
/-- some row of steps does this: from a to b one more lies on the stack, or it is BROKEN -/
def Sg (L : Nat → (Nat → Int32) → Nat → Nat → Option (Int32 × ST)) (Fb : (Nat → Int32) → Option (Int32 × ST)) (a b k : Nat) (r : Option Int32) : Prop :=
  ∀ fuel st q, b - a ≤ fuel → q + k ≤ 50 → ∃ fuel' st', fuel ≤ fuel' + (b - a) ∧ (∀ z, z < q → st' z = st z) ∧ (match r with
    | none => L fuel st q a = Fb st'
    | some v => st' q = v ∧ L fuel st q a = L fuel' st' (q + 1) b)
theorem Sg.one {L : Nat → (Nat → Int32) → Nat → Nat → Option (Int32 × ST)} {Fb : (Nat → Int32) → Option (Int32 × ST)} {a : Nat} {v : Int32} (h : ∀ n st q, q < 50 → L (n + 1) st q a = L n (u1 st q v) (q + 1) (a + 1)) : Sg L Fb a (a + 1) 1 (some v) := by
  intro fuel st q hf hq
  obtain ⟨n, rfl⟩ : ∃ n, fuel = n + 1 := ⟨fuel - 1, by omega⟩
  refine ⟨n, u1 st q v, by omega, fun z hz => u1_n _ _ (by omega), u1_s _ _ _, h n st q (by omega)⟩
theorem Sg.join {L : Nat → (Nat → Int32) → Nat → Nat → Option (Int32 × ST)} {Fb : (Nat → Int32) → Option (Int32 × ST)} {cs W : Nat → Int32} {wn stop : Nat} (M : SM L Fb cs W wn stop) {a p b k1 k2 op : Nat} {d1 d2 : DN} (h1 : Sg L Fb a p k1 (d1 W)) (h2 : Sg L Fb p b k2 (d2 W)) (hk : 1 ≤ k1) (hk2 : 1 ≤ k2) (hap : a < p) (hpb : p < b) (hop : op < 256) (hc : cs b = iN op) (hb : b < stop) : Sg L Fb a (b + 1) (k1 + k2) (jD op d1 d2 W) := by
  intro fuel st q hf hq
  obtain ⟨f1, s1, e1, z1, m1⟩ := h1 fuel st q (by omega) (by omega)
  unfold jD
  cases hd1 : d1 W with
  | none =>
    rw [hd1] at m1
    exact ⟨f1, s1, by omega, z1, m1⟩
  | some v1 =>
    rw [hd1] at m1
    obtain ⟨m1, m1'⟩ := m1
    obtain ⟨f2, s2, e2, z2, m2⟩ := h2 f1 s1 (q + 1) (by omega) (by omega)
    cases hd2 : d2 W with
    | none =>
      rw [hd2] at m2
      exact ⟨f2, s2, by omega, fun z hz => (z2 z (by omega)).trans (z1 z hz), m1'.trans m2⟩
    | some v2 =>
      rw [hd2] at m2
      obtain ⟨m2, m2'⟩ := m2
      obtain ⟨n, rfl⟩ : ∃ n, f2 = n + 1 := ⟨f2 - 1, by omega⟩
      have hs := M.2.2.1 n s2 q b op hb (by omega) hop hc
      have e3 : s2 q = v1 := (z2 q (by omega)).trans m1
      rw [e3, m2] at hs
      cases hj : jn op v1 v2 with
      | none =>
        simp only [hj] at hs ⊢
        exact ⟨n, s2, by omega, fun z hz => (z2 z (by omega)).trans (z1 z hz), (m1'.trans m2').trans hs⟩
      | some c =>
        simp only [hj] at hs ⊢
        exact ⟨n, u1 s2 q c, by omega, fun z hz => (u1_n _ _ (by omega)).trans ((z2 z (by omega)).trans (z1 z hz)), u1_s _ _ _, (m1'.trans m2').trans hs⟩
theorem Sg.not {L : Nat → (Nat → Int32) → Nat → Nat → Option (Int32 × ST)} {Fb : (Nat → Int32) → Option (Int32 × ST)} {cs W : Nat → Int32} {wn stop : Nat} (M : SM L Fb cs W wn stop) {a b k : Nat} {d : DN} (h1 : Sg L Fb a b k (d W)) (hk : 1 ≤ k) (hab : a < b) (hc : cs b = iN 273) (hb : b < stop) : Sg L Fb a (b + 1) k (nD d W) := by
  intro fuel st q hf hq
  obtain ⟨f1, s1, e1, z1, m1⟩ := h1 fuel st q (by omega) (by omega)
  unfold nD
  cases hd1 : d W with
  | none =>
    rw [hd1] at m1
    exact ⟨f1, s1, by omega, z1, m1⟩
  | some v1 =>
    rw [hd1] at m1
    obtain ⟨m1, m1'⟩ := m1
    obtain ⟨n, rfl⟩ : ∃ n, f1 = n + 1 := ⟨f1 - 1, by omega⟩
    have hs := M.2.2.2.1 n s1 q b hb (by omega) hc
    rw [m1] at hs
    exact ⟨n, u1 s1 q (1 - v1), by omega, fun z hz => (u1_n _ _ (by omega)).trans (z1 z hz), u1_s _ _ _, m1'.trans hs⟩
theorem Sg.skip {L : Nat → (Nat → Int32) → Nat → Nat → Option (Int32 × ST)} {Fb : (Nat → Int32) → Option (Int32 × ST)} {cs W : Nat → Int32} {wn stop : Nat} (M : SM L Fb cs W wn stop) {a p b k1 k2 w : Nat} {d1 d2 : DN} (h1 : Sg L Fb a p k1 (d1 W)) (h2 : Sg L Fb (p + 1) b k2 (d2 W)) (hk : 1 ≤ k1) (hap : a < p) (hpb : p + 1 < b) (hw : w ≤ 1) (hc : cs p = iN (271 + w + 512 * b)) (hb : b ≤ stop) (hb4 : b ≤ 400) : Sg L Fb a b (k1 + k2) (sD w d1 d2 W) := by
  intro fuel st q hf hq
  obtain ⟨f1, s1, e1, z1, m1⟩ := h1 fuel st q (by omega) (by omega)
  unfold sD
  cases hd1 : d1 W with
  | none =>
    rw [hd1] at m1
    exact ⟨f1, s1, by omega, z1, m1⟩
  | some v1 =>
    rw [hd1] at m1
    obtain ⟨m1, m1'⟩ := m1
    obtain ⟨n, rfl⟩ : ∃ n, f1 = n + 1 := ⟨f1 - 1, by omega⟩
    have hs := M.2.2.2.2 n s1 q p b w (by omega) (by omega) (by omega) hb4 hw hc
    rw [m1] at hs
    by_cases hv : v1 = iN (1 - w)
    · simp only [if_pos hv] at hs ⊢
      exact ⟨n, s1, by omega, z1, m1, m1'.trans hs⟩
    · simp only [if_neg hv] at hs ⊢
      obtain ⟨f2, s2, e2, z2, m2⟩ := h2 n s1 q (by omega) (by omega)
      refine ⟨f2, s2, by omega, fun z hz => (z2 z hz).trans (z1 z hz), ?_⟩
      cases hd2 : d2 W with
      | none => rw [hd2] at m2; exact (m1'.trans hs).trans m2
      | some v2 => rw [hd2] at m2; exact ⟨m2.1, (m1'.trans hs).trans m2.2⟩
theorem Gr.ok {o : Bool} {cd vl cs W : Nat → Int32} {L : Nat → (Nat → Int32) → Nat → Nat → Option (Int32 × ST)} {Fb : (Nat → Int32) → Option (Int32 × ST)} {stop : Nat} (M : SM L Fb cs W (if o then 24 else 8) stop) (hst : stop ≤ 400) :
    ∀ {n dp kd i j a b k : Nat} {d : DN}, Gr o cd vl cs n dp kd i j a b k d → a < b ∧ 1 ≤ k ∧ i < j ∧ (b ≤ stop → Sg L Fb a b k (d W)) := by
  intro n
  induction n with
  | zero => intro dp kd i j a b k d h; exact h.elim
  | succ n ih =>
    intro dp kd i j a b k d h
    rcases h with ⟨rfl, h⟩ | ⟨rfl, h⟩ | ⟨rfl, h⟩ | ⟨rfl, h⟩ | ⟨rfl, h⟩ | ⟨rfl, h⟩ | ⟨rfl, h⟩
    · rcases h with ⟨h1, rfl, rfl, rfl, v, h2, h3, h4, rfl⟩ | ⟨w, h1, rfl, rfl, h4, rfl⟩ | ⟨dp', j', h1, rfl, h3, h4, h5⟩
      · exact ⟨by omega, by omega, by omega, fun hb => Sg.one (fun n st q hq => M.1 n st q a v (by omega) hq h2 h4)⟩
      · exact ⟨by omega, by omega, (WD_lt h1).2, fun hb => Sg.one (fun n st q hq => M.2.1 n st q a w (by omega) hq (WD_lt h1).1 h4)⟩
      · obtain ⟨g1, g2, g3, g4⟩ := ih h5
        exact ⟨g1, g2, by omega, g4⟩
    · rcases h with h | ⟨m, p, b', k1, k2, d1, d2, op, h1, h2, h3, h4, rfl, h6, rfl, rfl⟩
      · exact ih h
      · obtain ⟨g1, g2, g3, g4⟩ := ih h1
        obtain ⟨f1, f2, f3, f4⟩ := ih h4
        exact ⟨by omega, by omega, by omega, fun hb => Sg.join M (g4 (by omega)) (f4 (by omega)) g2 f2 g1 f1 (by omega) h6 (by omega)⟩
    · rcases h with h | ⟨m, p, b', k1, k2, d1, d2, op, h1, h2, h3, h4, rfl, h6, rfl, rfl⟩
      · exact ih h
      · obtain ⟨g1, g2, g3, g4⟩ := ih h1
        obtain ⟨f1, f2, f3, f4⟩ := ih h4
        exact ⟨by omega, by omega, by omega, fun hb => Sg.join M (g4 (by omega)) (f4 (by omega)) g2 f2 g1 f1 (by omega) h6 (by omega)⟩
    · rcases h with ⟨dp', j', h1, rfl, h3, h4, h5⟩ | ⟨m, p, b', k1, k2, d1, d2, op, h1, h2, h3, h4, rfl, h6, rfl, rfl⟩
      · obtain ⟨g1, g2, g3, g4⟩ := ih h5
        exact ⟨g1, g2, by omega, g4⟩
      · obtain ⟨g1, g2, g3, g4⟩ := ih h1
        obtain ⟨f1, f2, f3, f4⟩ := ih h4
        exact ⟨by omega, by omega, by omega, fun hb => Sg.join M (g4 (by omega)) (f4 (by omega)) g2 f2 g1 f1 (by omega) h6 (by omega)⟩
    · obtain ⟨q, b', d', h1, h2, h3⟩ := h
      obtain ⟨g1, g2, g3, g4⟩ := ih h2
      rcases h3 with ⟨h3, rfl, rfl⟩ | ⟨h3, rfl, h4, rfl⟩
      · exact ⟨g1, g2, by omega, g4⟩
      · exact ⟨by omega, g2, by omega, fun hb => Sg.not M (g4 (by omega)) g2 g1 h4 (by omega)⟩
    · rcases h with h | ⟨m, p, k1, k2, d1, d2, h1, h2, h3, h4, rfl, rfl⟩
      · exact ih h
      · obtain ⟨g1, g2, g3, g4⟩ := ih h1
        obtain ⟨f1, f2, f3, f4⟩ := ih h4
        exact ⟨by omega, by omega, by omega, fun hb => Sg.skip M (g4 (by omega)) (f4 (by omega)) g2 g1 (by omega) (by omega) h3 (by omega) (by omega)⟩
    · rcases h with h | ⟨m, p, k1, k2, d1, d2, h1, h2, h3, h4, rfl, rfl⟩
      · exact ih h
      · obtain ⟨g1, g2, g3, g4⟩ := ih h1
        obtain ⟨f1, f2, f3, f4⟩ := ih h4
        exact ⟨by omega, by omega, by omega, fun hb => Sg.skip M (g4 (by omega)) (f4 (by omega)) g2 g1 (by omega) (by omega) h3 (by omega) (by omega)⟩
end GRAM
