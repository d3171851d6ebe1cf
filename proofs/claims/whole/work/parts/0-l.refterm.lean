section REFTERM
def cmb (op : Nat) (dv1 dv2 : Option Int32) : Option Int32 := match dv1 with
  | none => none
  | some a => match dv2 with
    | none => none
    | some b => jn op a b
theorem jD_cmb (op : Nat) (d1 d2 : DN) (W : Nat → Int32) : jD op d1 d2 W = cmb op (d1 W) (d2 W) := rfl
theorem psj {lv br br1 br2 br' : Int32} {dv1 dv2 : Option Int32} {r1 r2 r' : Int64} {op : Nat} (hlv : lv = 0 ∨ lv = 1) (hb : br = 0 ∨ br = 1) (h1 : PS lv br dv1 r1 br1) (h2 : PS lv br1 dv2 r2 br2) (hz : r2 = 0 → op ≠ 47 ∧ op ≠ 37) (h3 : PS lv br2 (rg (raw op r1 r2)) r' br') : PS lv br (cmb op dv1 dv2) r' br' := by
  obtain ⟨a1, a2, a3⟩ := h1
  obtain ⟨b1, b2, b3⟩ := h2
  obtain ⟨c1, c2, c3⟩ := h3
  refine ⟨c1, fun e1 e2 => ?_, fun h => ?_⟩
  · have a2 := a2 e1 e2
    cases dv1 with
    | none =>
      dsimp only at a2
      have b3 := b3 (Or.inr a2)
      have c3 := c3 (Or.inr (b3.trans a2))
      exact c3.trans (b3.trans a2)
    | some v1 =>
      obtain ⟨a4, rfl⟩ := a2
      have b2 := b2 e1 a4
      cases dv2 with
      | none =>
        dsimp only at b2
        exact (c3 (Or.inr b2)).trans b2
      | some v2 =>
        obtain ⟨b4, rfl⟩ := b2
        have c2 := c2 e1 b4
        show match jn op v1 v2 with
          | none => br' = 1
          | some v => br' = 0 ∧ r' = v.toInt64
        unfold jn
        rw [if_neg (fun h => by have := hz h.2; rcases h.1 with h | h <;> simp [h] at this)]
        exact c2
  · have a3 := a3 h
    have h1 : lv = 0 ∨ br1 = 1 := h.elim Or.inl (fun h => Or.inr (a3.trans h))
    have b3 := b3 h1
    have h2 : lv = 0 ∨ br2 = 1 := h1.elim Or.inl (fun h => Or.inr (b3.trans h))
    exact (c3 h2).trans (b3.trans a3)
theorem psz {lv br br1 br2 br3 br' : Int32} {dv1 dv2 dz : Option Int32} {r1 r' : Int64} {op : Nat} (hlv : lv = 0 ∨ lv = 1) (hb : br = 0 ∨ br = 1) (h1 : PS lv br dv1 r1 br1) (h2 : PS lv br1 dv2 0 br2) (hop : op = 47 ∨ op = 37) (hb3 : (br2 = 1 → br3 = 1) ∧ (br2 = 0 → br3 = lv)) (h3 : PS lv br3 dz r' br') : PS lv br (cmb op dv1 dv2) r' br' := by
  have ne : (1 : Int32) ≠ 0 := by decide
  obtain ⟨a1, a2, a3⟩ := h1
  obtain ⟨b1, b2, b3⟩ := h2
  obtain ⟨c1, c2, c3⟩ := h3
  refine ⟨c1, fun e1 e2 => ?_, fun h => ?_⟩
  · have a2 := a2 e1 e2
    cases dv1 with
    | none =>
      dsimp only at a2
      have b3 := b3 (Or.inr a2)
      have e3 := hb3.1 (b3.trans a2)
      exact (c3 (Or.inr e3)).trans e3
    | some v1 =>
      obtain ⟨a4, rfl⟩ := a2
      have b2 := b2 e1 a4
      cases dv2 with
      | none =>
        dsimp only at b2
        have e3 := hb3.1 b2
        exact (c3 (Or.inr e3)).trans e3
      | some v2 =>
        obtain ⟨b4, b5⟩ := b2
        show match jn op v1 v2 with
          | none => br' = 1
          | some v => br' = 0 ∧ r' = v.toInt64
        unfold jn
        rw [if_pos ⟨hop, b5.symm⟩]
        have e3 := (hb3.2 b4).trans e1
        exact (c3 (Or.inr e3)).trans e3
  · have a3 := a3 h
    have h1 : lv = 0 ∨ br1 = 1 := h.elim Or.inl (fun h => Or.inr (a3.trans h))
    have b3 := b3 h1
    rcases hb with rfl | rfl
    · have hl : lv = 0 := h.elim id (fun h => absurd h.symm ne)
      have e3 := (hb3.2 (b3.trans a3)).trans hl
      exact (c3 (Or.inl hl)).trans e3
    · have e3 := hb3.1 (b3.trans a3)
      exact (c3 (Or.inr e3)).trans e3
theorem t121 (x : XT) (A B C : ST → Int32 → Option (Int64 × ST)) (k : ST → Int32 → Int64 → Option (Int64 × ST)) (S : ST) (lv : Int32) (v w : Int64) (op : Nat) (hop : op = 42 ∨ op = 47 ∨ op = 37) (hw : op ≠ 42 → w ≠ 0) : bfX11_termOf_130_121 x A B C k S lv v (iN (100 + op)) w = bfX11_termOf_130_160 x A B C k S lv (raw op v w) := by
  have nn : ∀ m n : Nat, m < 1000 → n < 1000 → m ≠ n → ¬ iN m = iN n := fun m n hm hn h e => h ((iN_eq (by omega) (by omega)).mp e)
  unfold bfX11_termOf_130_121
  rw [show (42 : Int32) = iN 42 from rfl, show (47 : Int32) = iN 47 from rfl]
  simp only [sign_eq]
  rcases hop with rfl | rfl | rfl
  · rw [if_neg (fun h => h rfl)]
    rfl
  · rw [if_pos (nn 147 142 (by omega) (by omega) (by omega)), if_neg (fun h => h rfl), show nzl w = true by unfold nzl; simp [hw (by decide)], cond_true]
    rfl
  · rw [if_pos (nn 137 142 (by omega) (by omega) (by omega)), if_pos (nn 137 147 (by omega) (by omega) (by omega)), show nzl w = true by unfold nzl; simp [hw (by decide)], cond_true]
    rfl
theorem term_step (x : XT) (A B C : ST → Int32 → Option (Int64 × ST)) (T : ST) (E : Nat) (hE : T.1 130 23 = iN E) (hE2 : E ≤ 2800) (m j : Nat) (hm : m < E) (op : Nat) (hop : op = 42 ∨ op = 47 ∨ op = 37) (hec : ec T E m = iN (100 + op)) {lv br br1 br2 : Int32} {dv1 dv2 : Option Int32} {r1 r2 : Int64} (hlv : lv = 0 ∨ lv = 1) (hb : br = 0 ∨ br = 1) (h1 : PS lv br dv1 r1 br1) (h2 : PS lv br1 dv2 r2 br2) (hC : C (ge T (m + 1) br1) lv = some (r2, ge T j br2)) (fuel : Nat) :
    ∃ r' br', lfX11_termOf_130_6 x A B C (fuel + 1) (ge T m br1) lv r1 = lfX11_termOf_130_6 x A B C fuel (ge T j br') lv r' ∧ PS lv br (cmb op dv1 dv2) r' br' := by
  have nn : ∀ m n : Nat, m < 1000 → n < 1000 → m ≠ n → ¬ iN m = iN n := fun m n hm hn h e => h ((iN_eq (by omega) (by omega)).mp e)
  have e54 : lfX11_termOf_130_6 x A B C (fuel + 1) (ge T m br1) lv r1 = bfX11_termOf_130_54 x A B C (lfX11_termOf_130_6 x A B C fuel) (ge T m br1) lv r1 := by
    show bfX11_termOf_130_6 x A B C (lfX11_termOf_130_6 x A B C fuel) (ge T m br1) lv r1 = _
    unfold bfX11_termOf_130_6
    rw [show (42 : Int32) = iN 42 from rfl, show (47 : Int32) = iN 47 from rfl, show (37 : Int32) = iN 37 from rfl]
    simp only [ge_22, codeAt_eq x T E hE hE2 m br1 m (by omega), sign_eq, hec]
    rcases hop with rfl | rfl | rfl
    · rw [if_pos rfl]
    · rw [if_neg (nn 147 142 (by omega) (by omega) (by omega)), if_pos rfl]
    · rw [if_neg (nn 137 142 (by omega) (by omega) (by omega)), if_neg (nn 137 147 (by omega) (by omega) (by omega)), if_neg (fun h => h rfl)]
  rw [e54]
  have end_ : ∀ (b : Int32) (w : Int64), (b = 0 ∨ b = 1) → (op ≠ 42 → w ≠ 0) → ∃ r' br', bfX11_termOf_130_121 x A B C (lfX11_termOf_130_6 x A B C fuel) (ge T j b) lv r1 (iN (100 + op)) w = lfX11_termOf_130_6 x A B C fuel (ge T j br') lv r' ∧ PS lv b (rg (raw op r1 w)) r' br' := by
    intro b w hb' hw
    obtain ⟨r', br', e1, e2⟩ := bounded_eq x T j b lv (raw op r1 w) hb' hlv
    refine ⟨r', br', ?_, e2⟩
    rw [t121 x A B C _ _ lv r1 w op hop hw]
    unfold bfX11_termOf_130_160
    rw [e1]
  unfold bfX11_termOf_130_54
  rw [show (42 : Int32) = iN 42 from rfl]
  simp only [ge_22, codeAt_eq x T E hE hE2 m br1 m (by omega), hec, iN_succ, ge_go, hC, sign_eq, lg_cmp_eq, ge_24]
  by_cases h42 : op = 42
  · subst h42
    rw [if_pos rfl]
    obtain ⟨r', br', e1, e2⟩ := end_ br2 r2 h2.1 (fun h => absurd rfl h)
    exact ⟨r', br', e1, psj hlv hb h1 h2 (fun _ => ⟨by decide, by decide⟩) e2⟩
  · rw [if_neg (nn (100 + op) (100 + 42) (by omega) (by omega) (by omega))]
    by_cases hz : r2 = 0
    · subst hz
      rw [if_neg (fun h => h rfl)]
      have o1 : (1 : Int64) ≠ 0 := by decide
      have b1 : bbz 1 = true := rfl
      have b0 : bbz 0 = true := rfl
      unfold bfX11_termOf_130_110 bfX11_termOf_130_115
      simp only [b1, b0, cond_true, ge_br]
      rcases h2.1 with e | e
      · subst e
        rw [if_neg (fun h => h rfl)]
        rcases hlv with rfl | rfl
        · rw [if_pos rfl]
          obtain ⟨r', br', e1, e2⟩ := end_ 0 1 (Or.inl rfl) (fun _ => o1)
          exact ⟨r', br', e1, psz (Or.inl rfl) hb h1 h2 (by omega) ⟨fun h => h, fun _ => rfl⟩ e2⟩
        · rw [if_neg (by decide)]
          obtain ⟨r', br', e1, e2⟩ := end_ 1 1 (Or.inr rfl) (fun _ => o1)
          exact ⟨r', br', e1, psz (Or.inr rfl) hb h1 h2 (by omega) ⟨fun _ => rfl, fun _ => rfl⟩ e2⟩
      · subst e
        rw [if_pos (by decide)]
        obtain ⟨r', br', e1, e2⟩ := end_ 1 1 (Or.inr rfl) (fun _ => o1)
        exact ⟨r', br', e1, psz hlv hb h1 h2 (by omega) ⟨fun _ => rfl, fun h => absurd h (by decide)⟩ e2⟩
    · rw [if_pos hz]
      obtain ⟨r', br', e1, e2⟩ := end_ br2 r2 h2.1 (fun _ => hz)
      exact ⟨r', br', e1, psj hlv hb h1 h2 (fun h => absurd h hz) e2⟩
theorem sum_step (x : XT) (A B C : ST → Int32 → Option (Int64 × ST)) (T : ST) (E : Nat) (hE : T.1 130 23 = iN E) (hE2 : E ≤ 2800) (m j : Nat) (hm : m < E) (op : Nat) (hop : op = 43 ∨ op = 45) (hec : ec T E m = iN (100 + op)) {lv br br1 br2 : Int32} {dv1 dv2 : Option Int32} {r1 r2 : Int64} (hlv : lv = 0 ∨ lv = 1) (hb : br = 0 ∨ br = 1) (h1 : PS lv br dv1 r1 br1) (h2 : PS lv br1 dv2 r2 br2) (hC : B (ge T (m + 1) br1) lv = some (r2, ge T j br2)) (fuel : Nat) :
    ∃ r' br', lfX11_sumOf_130_6 x A B C (fuel + 1) (ge T m br1) lv r1 = lfX11_sumOf_130_6 x A B C fuel (ge T j br') lv r' ∧ PS lv br (cmb op dv1 dv2) r' br' := by
  have nn : ∀ m n : Nat, m < 1000 → n < 1000 → m ≠ n → ¬ iN m = iN n := fun m n hm hn h e => h ((iN_eq (by omega) (by omega)).mp e)
  obtain ⟨r', br', e1, e2⟩ := bounded_eq x T j br2 lv (raw op r1 r2) h2.1 hlv
  refine ⟨r', br', ?_, psj hlv hb h1 h2 (fun _ => by omega) e2⟩
  show bfX11_sumOf_130_6 x A B C (lfX11_sumOf_130_6 x A B C fuel) (ge T m br1) lv r1 = _
  unfold bfX11_sumOf_130_6 bfX11_sumOf_130_38 bfX11_sumOf_130_59 bfX11_sumOf_130_95
  rw [show (43 : Int32) = iN 43 from rfl, show (45 : Int32) = iN 45 from rfl]
  simp only [ge_22, codeAt_eq x T E hE hE2 m br1 m (by omega), sign_eq, hec, iN_succ, ge_go, hC]
  rcases hop with rfl | rfl
  · rw [if_pos rfl, if_neg (fun h => h rfl), if_neg (by decide)]
    have : raw 43 r1 r2 = r1 + r2 := rfl
    rw [← this, e1]
  · rw [if_neg (nn 145 143 (by omega) (by omega) (by omega)), if_neg (fun h => h rfl), if_pos (nn 145 143 (by omega) (by omega) (by omega)), if_pos trivial]
    have : raw 45 r1 r2 = r1 - r2 := rfl
    rw [← this, e1]
theorem term_end (x : XT) (A B C : ST → Int32 → Option (Int64 × ST)) (T : ST) (E : Nat) (hE : T.1 130 23 = iN E) (hE2 : E ≤ 2800) (j : Nat) (hj : j ≤ E) (h : ¬ ec T E j = iN 142 ∧ ¬ ec T E j = iN 147 ∧ ¬ ec T E j = iN 137) (lv br : Int32) (r : Int64) (fuel : Nat) : lfX11_termOf_130_6 x A B C (fuel + 1) (ge T j br) lv r = some (r, ge T j br) := by
  show bfX11_termOf_130_6 x A B C (lfX11_termOf_130_6 x A B C fuel) (ge T j br) lv r = _
  unfold bfX11_termOf_130_6
  rw [show (42 : Int32) = iN 42 from rfl, show (47 : Int32) = iN 47 from rfl, show (37 : Int32) = iN 37 from rfl]
  simp only [ge_22, codeAt_eq x T E hE hE2 j br j (by omega), sign_eq]
  rw [if_neg h.1, if_neg h.2.1, if_pos h.2.2]
theorem sum_end (x : XT) (A B C : ST → Int32 → Option (Int64 × ST)) (T : ST) (E : Nat) (hE : T.1 130 23 = iN E) (hE2 : E ≤ 2800) (j : Nat) (hj : j ≤ E) (h : ¬ ec T E j = iN 143 ∧ ¬ ec T E j = iN 145) (lv br : Int32) (r : Int64) (fuel : Nat) : lfX11_sumOf_130_6 x A B C (fuel + 1) (ge T j br) lv r = some (r, ge T j br) := by
  show bfX11_sumOf_130_6 x A B C (lfX11_sumOf_130_6 x A B C fuel) (ge T j br) lv r = _
  unfold bfX11_sumOf_130_6
  rw [show (43 : Int32) = iN 43 from rfl, show (45 : Int32) = iN 45 from rfl]
  simp only [ge_22, codeAt_eq x T E hE hE2 j br j (by omega), sign_eq]
  rw [if_neg h.1, if_pos h.2]
end REFTERM
