section REFTGR
/-- the first TOKEN of a PART, TERM, SUM -/
theorem Gr.first {o : Bool} {cd vl cs : Nat → Int32} : ∀ {n dp kd i j a b k : Nat} {d : DN}, Gr o cd vl cs n dp kd i j a b k d → kd ≤ 2 → ∃ c, cd i = iN c ∧ ((8 ≤ c ∧ c ≤ 50) ∨ c = 191) := by
  intro n
  induction n with
  | zero => intro dp kd i j a b k d h; exact h.elim
  | succ n ih =>
    intro dp kd i j a b k d h hk
    rcases h with ⟨rfl, h⟩ | ⟨rfl, h⟩ | ⟨rfl, h⟩ | ⟨rfl, h⟩ | ⟨rfl, h⟩ | ⟨rfl, h⟩ | ⟨rfl, h⟩
    · rcases h with ⟨h1, h⟩ | ⟨w, h1, h⟩ | ⟨dp', j', h1, rfl, h3, h4, h5⟩
      · exact ⟨50, h1, by omega⟩
      · cases o with
        | false => obtain ⟨c, h1, h2, h3, h⟩ := h1; exact ⟨c, h3, by omega⟩
        | true =>
          rcases h1 with ⟨c, h1, h2, h3, h⟩ | ⟨h1, rfl, ⟨p, h3, h4, ⟨h5, h⟩ | ⟨h5, h⟩⟩ | ⟨p, h3, h4, h5, h⟩⟩
          · exact ⟨c, h3, by omega⟩
          · exact ⟨14, h5, by omega⟩
          · exact ⟨19, h5, by omega⟩
          · exact ⟨13, h5, by omega⟩
      · exact ⟨191, h3, by omega⟩
    · rcases h with h | ⟨m, p, b', k1, k2, d1, d2, op, h1, h⟩
      · exact ih h (by omega)
      · exact ih h1 (by omega)
    · rcases h with h | ⟨m, p, b', k1, k2, d1, d2, op, h1, h⟩
      · exact ih h (by omega)
      · exact ih h1 (by omega)
    · omega
    · omega
    · omega
    · omega
theorem Gr.first3 {o : Bool} {cd vl cs : Nat → Int32} {n dp i j a b k : Nat} {d : DN} (h : Gr o cd vl cs n dp 3 i j a b k d) : ∃ c, cd i = iN c ∧ ((8 ≤ c ∧ c ≤ 50) ∨ c = 191 ∨ c = 140) := by
  cases n with
  | zero => exact h.elim
  | succ n =>
    rcases h with ⟨h, -⟩ | ⟨h, -⟩ | ⟨h, -⟩ | ⟨-, h⟩ | ⟨h, -⟩ | ⟨h, -⟩ | ⟨h, -⟩
    case inr.inr.inr.inl =>
      rcases h with ⟨dp', j', h1, rfl, h3, h⟩ | ⟨m, p, b', k1, k2, d1, d2, op, h1, h⟩
      · exact ⟨140, h3, by omega⟩
      · obtain ⟨c, h2, h3⟩ := h1.first (by omega)
        exact ⟨c, h2, by omega⟩
    all_goals omega
theorem cmp_val {op : Nat} (hop : op = 60 ∨ op = 61 ∨ op = 62) (v1 v2 : Int32) : ∃ r, jn op v1 v2 = some r ∧ (r = 0 ∨ r = 1) ∧ (r = 1 ↔ (if op = 60 then v1.toInt64 < v2.toInt64 else if op = 62 then v2.toInt64 < v1.toInt64 else v1.toInt64 = v2.toInt64)) := by
  have g1 : rg 1 = some 1 := by decide
  have g0 : rg 0 = some 0 := by decide
  have ne : ¬ (0 : Int32) = 1 := by decide
  unfold jn raw
  rcases hop with rfl | rfl | rfl
  · by_cases h : v1.toInt64 < v2.toInt64
    · exact ⟨1, by simp [h, g1], Or.inr rfl, by simp [h]⟩
    · exact ⟨0, by simp [h, g0], Or.inl rfl, by simp [h, ne]⟩
  · by_cases h : v1.toInt64 = v2.toInt64
    · exact ⟨1, by simp [h, g1], Or.inr rfl, by simp [h]⟩
    · exact ⟨0, by simp [h, g0], Or.inl rfl, by simp [h, ne]⟩
  · by_cases h : v2.toInt64 < v1.toInt64
    · exact ⟨1, by simp [h, g1], Or.inr rfl, by simp [h]⟩
    · exact ⟨0, by simp [h, g0], Or.inl rfl, by simp [h, ne]⟩
theorem pos_cmp (x : XT) (A B C Dd : ST → Int32 → Option (Int32 × ST)) (o : Bool) (T : ST) (W : Nat → Int32) (hW : HW x o T W) (E : Nat) (hE : T.1 130 23 = iN E) (hE2 : E ≤ 2800) (cs : Nat → Int32) (lv : Int32) (hlv : lv = 0 ∨ lv = 1) {n dp i j m a p b k1 k2 op : Nat} {d1 d2 : DN} (hdp : dp ≤ 8) (h1 : Gr o (cdT T) (vlT T) cs n dp 2 i m a p k1 d1) (hop : op = 60 ∨ op = 61 ∨ op = 62) (hm : cdT T m = iN (100 + op)) (h2 : Gr o (cdT T) (vlT T) cs n dp 2 (m + 1) j p b k2 d2) (hj : j ≤ E) (hl : j - i ≤ 400) (hf : fol T E j) (br : Int32) (hb : br = 0 ∨ br = 1) : ∃ r br', bfX11_positiveOf_130_0 x A B C Dd (ge T i br) lv = some (r, ge T j br') ∧ PT lv br (jD op d1 d2 W) r br' := by
  have ne : (1 : Int32) ≠ 0 := by decide
  have l1 := h1.lt.1
  have l2 := h2.lt.1
  have em : ec T E m = iN (100 + op) := (ec_lt (by omega)).trans hm
  have fm : fol T E m := fol_of em (by omega) (by omega) (by omega) (by omega) (by omega) (by omega)
  obtain ⟨s1, b1, e1, p1⟩ := refSum x o T W hW E hE hE2 cs lv hlv h1 hdp (by omega) (by omega) fm.1 fm.2 br hb
  obtain ⟨s2, b2, e2, p2⟩ := refSum x o T W hW E hE hE2 cs lv hlv h2 hdp hj (by omega) hf.1 hf.2 b1 p1.1
  obtain ⟨c, hc, hc2⟩ := h1.first (by omega)
  have ei : ec T E i = iN c := (ec_lt (by omega)).trans hc
  unfold bfX11_positiveOf_130_0
  rw [show (40 : Int32) = iN 40 from rfl, show (60 : Int32) = iN 60 from rfl, show (62 : Int32) = iN 62 from rfl]
  simp only [sign_eq, passes_eq x T E hE hE2 i br (by omega), ei, if_neg (iNn (show c ≠ 100 + 40 by omega) (by omega) (by omega)), if_true, e1, ge_22, codeAt_eq x T E hE hE2 m b1 m (by omega), em, iN_succ, ge_go, e2, ge_24, lg_cmp_ge, lg_cmp_le, lg_cmp_eq]
  unfold bfX11_positiveOf_130_125 bfX11_positiveOf_130_121 bfX11_positiveOf_130_126
  simp only [show bbz 0 = true from rfl, show bbz 1 = true from rfl, cond_true]
  have thr : ∀ h : lv = 0 ∨ br = 1, b2 = br := fun h => by
    have e3 := p1.2.2 h
    have h1 : lv = 0 ∨ b1 = 1 := h.elim Or.inl (fun h => Or.inr (e3.trans h))
    exact (p2.2.2 h1).trans e3
  rcases hlv with rfl | rfl
  · rw [if_pos rfl]
    exact ⟨0, b2, rfl, Or.inl rfl, p2.1, fun h => absurd h.symm ne, thr⟩
  · rw [if_neg ne]
    by_cases hb2 : b2 = 0
    · rw [if_neg (fun h => h hb2)]
      have key : ∃ r : Int32, (if ¬iN (100 + op) = iN (100 + 60) then (if ¬iN (100 + op) = iN (100 + 62) then (if ¬s1 = s2 then some ((0 : Int32), ge T j b2) else some (1, ge T j b2)) else if s1 ≤ s2 then some (0, ge T j b2) else some (1, ge T j b2)) else if s2 ≤ s1 then some (0, ge T j b2) else some (1, ge T j b2)) = some (r, ge T j b2) ∧ (r = 0 ∨ r = 1) ∧ (r = 1 ↔ (if op = 60 then s1 < s2 else if op = 62 then s2 < s1 else s1 = s2)) := by
        have ne' : ¬ (0 : Int32) = 1 := by decide
        rcases hop with rfl | rfl | rfl
        · rw [if_neg (fun h => h rfl), if_pos rfl]
          by_cases h : s2 ≤ s1
          · rw [if_pos h]; exact ⟨0, rfl, Or.inl rfl, ⟨fun h => absurd h ne', fun h' => absurd h (Int64.not_le.mpr h')⟩⟩
          · rw [if_neg h]; exact ⟨1, rfl, Or.inr rfl, ⟨fun _ => Int64.not_le.mp h, fun _ => rfl⟩⟩
        · rw [if_pos (iNn (by omega) (by omega) (by omega)), if_pos (iNn (by omega) (by omega) (by omega)), if_neg (show ¬ (61 : Nat) = 60 by decide), if_neg (show ¬ (61 : Nat) = 62 by decide)]
          by_cases h : s1 = s2
          · rw [if_neg (fun h' => h' h)]; exact ⟨1, rfl, Or.inr rfl, ⟨fun _ => h, fun _ => rfl⟩⟩
          · rw [if_pos h]; exact ⟨0, rfl, Or.inl rfl, ⟨fun h => absurd h ne', fun h' => absurd h' h⟩⟩
        · rw [if_pos (iNn (by omega) (by omega) (by omega)), if_neg (fun h => h rfl), if_neg (show ¬ (62 : Nat) = 60 by decide), if_pos (show (62 : Nat) = 62 from rfl)]
          by_cases h : s1 ≤ s2
          · rw [if_pos h]; exact ⟨0, rfl, Or.inl rfl, ⟨fun h => absurd h ne', fun h' => absurd h (Int64.not_le.mpr h')⟩⟩
          · rw [if_neg h]; exact ⟨1, rfl, Or.inr rfl, ⟨fun _ => Int64.not_le.mp h, fun _ => rfl⟩⟩
      obtain ⟨r, k1, k2, k3⟩ := key
      refine ⟨r, b2, k1, k2, p2.1, fun e1 e2 => ?_, thr⟩
      have a2 := p1.2.1 e1 e2
      unfold jD
      cases hd1 : d1 W with
      | none =>
        rw [hd1] at a2
        have a2 : b1 = 1 := a2
        exact absurd (((p2.2.2 (Or.inr a2)).trans a2).symm.trans hb2) ne
      | some v1 =>
        rw [hd1] at a2
        obtain ⟨b4, rfl⟩ := a2
        have c2 := p2.2.1 rfl b4
        cases hd2 : d2 W with
        | none =>
          rw [hd2] at c2
          have c2 : b2 = 1 := c2
          exact absurd (c2.symm.trans hb2) ne
        | some v2 =>
          rw [hd2] at c2
          obtain ⟨-, rfl⟩ := c2
          obtain ⟨r', j1, j2, j3⟩ := cmp_val hop v1 v2
          simp only [j1]
          refine ⟨hb2, ?_⟩
          have : r = 1 ↔ r' = 1 := k3.trans j3.symm
          rcases k2 with rfl | rfl <;> rcases j2 with rfl | rfl
          · rfl
          · exact absurd (this.mpr rfl) (by decide)
          · exact absurd (this.mp rfl) (by decide)
          · rfl
    · rw [if_pos hb2]
      have hb1 : b2 = 1 := p2.1.elim (fun h => absurd h hb2) id
      refine ⟨0, b2, rfl, Or.inl rfl, p2.1, fun e1 e2 => ?_, thr⟩
      have a2 := p1.2.1 e1 e2
      unfold jD
      cases hd1 : d1 W with
      | none => exact hb1
      | some v1 =>
        rw [hd1] at a2
        obtain ⟨b4, rfl⟩ := a2
        have c2 := p2.2.1 rfl b4
        cases hd2 : d2 W with
        | none => exact hb1
        | some v2 =>
          rw [hd2] at c2
          exact absurd c2.1 hb2
/-- the reference's walk along PLAIN, BOTH, TEST -/
theorem refT (x : XT) (o : Bool) (T : ST) (W : Nat → Int32) (hW : HW x o T W) (E : Nat) (hE : T.1 130 23 = iN E) (hE2 : E ≤ 2800) (cs : Nat → Int32) :
    ∀ n : Nat,
      (∀ dp i j a b k d, Gr o (cdT T) (vlT T) cs n dp 3 i j a b k d → dp ≤ 8 → j ≤ E → j - i ≤ 400 → fol T E j → ∀ D br lv, 4 * dp + 1 ≤ D → (br = 0 ∨ br = 1) → (lv = 0 ∨ lv = 1) → ∃ r br', r3 x D (ge T i br) lv = some (r, ge T j br') ∧ PT lv br (d W) r br') ∧
      (∀ dp i j a b k d, Gr o (cdT T) (vlT T) cs n dp 4 i j a b k d → dp ≤ 8 → j ≤ E → j - i ≤ 400 → fol T E j → ∀ D br lv, 4 * dp + 2 ≤ D → (br = 0 ∨ br = 1) → (lv = 0 ∨ lv = 1) → ∃ r br', r2 x D (ge T i br) lv = some (r, ge T j br') ∧ PT lv br (d W) r br') ∧
      (∀ dp i j a b k d, Gr o (cdT T) (vlT T) cs n dp 5 i j a b k d → dp ≤ 8 → j ≤ E → j - i ≤ 400 → fol T E j → ∀ D br lv, 4 * dp + 2 ≤ D → (br = 0 ∨ br = 1) → (lv = 0 ∨ lv = 1) → ∃ fuel r br', 20000 ≤ fuel + (j - i) ∧ bfX11_bothOf_130_0 x (r0 x D) (r1 x D) (r2 x D) (r3 x D) (ge T i br) lv = lfX11_bothOf_130_6 x (r0 x D) (r1 x D) (r2 x D) (r3 x D) fuel (ge T j br') lv r ∧ PT lv br (d W) r br') ∧
      (∀ dp i j a b k d, Gr o (cdT T) (vlT T) cs n dp 6 i j a b k d → dp ≤ 8 → j ≤ E → j - i ≤ 400 → fol T E j → ¬ ec T E j = iN 6 → ∀ D br lv, 4 * dp + 3 ≤ D → (br = 0 ∨ br = 1) → (lv = 0 ∨ lv = 1) → ∃ fuel r br', 20000 ≤ fuel + (j - i) ∧ bfX11_testOf_130_0 x (r0 x D) (r1 x D) (r2 x D) (r3 x D) (ge T i br) lv = lfX11_testOf_130_6 x (r0 x D) (r1 x D) (r2 x D) (r3 x D) fuel (ge T j br') lv r ∧ PT lv br (d W) r br') := by
  intro n
  induction n with
  | zero => exact ⟨fun _ _ _ _ _ _ _ h => h.elim, fun _ _ _ _ _ _ _ h => h.elim, fun _ _ _ _ _ _ _ h => h.elim, fun _ _ _ _ _ _ _ h => h.elim⟩
  | succ n ih =>
    obtain ⟨ih3, ih4, ih5, ih6⟩ := ih
    refine ⟨?_, ?_, ?_, ?_⟩
    · intro dp i j a b k d h hdp hj hl hf D br lv hD hb hlv
      obtain ⟨D, rfl⟩ : ∃ D', D = D' + 1 := ⟨D - 1, by omega⟩
      rw [r3_s]
      have hij := h.lt.1
      rcases h with ⟨h, -⟩ | ⟨h, -⟩ | ⟨h, -⟩ | ⟨-, h⟩ | ⟨h, -⟩ | ⟨h, -⟩ | ⟨h, -⟩
      case inr.inr.inr.inl =>
        rcases h with ⟨dp', j', rfl, rfl, h3, h4, h5⟩ | ⟨m, p, b', k1, k2, d1, d2, op, h1, h2, h3, h4, rfl, h6, rfl, rfl⟩
        · have e1 : ec T E i = iN 140 := (ec_lt (by omega)).trans h3
          have e2 : ec T E j' = iN 141 := (ec_lt (by omega)).trans h4
          obtain ⟨D, rfl⟩ : ∃ D', D = D' + 1 := ⟨D - 1, by omega⟩
          obtain ⟨fuel, r, br', f1, f2, f3⟩ := ih6 dp' (i + 1) j' a b k d h5 (by omega) (by omega) (by omega) (fol_of e2 (by omega) (by omega) (by omega) (by omega) (by omega) (by omega)) (by rw [e2]; exact iNn (by omega) (by omega) (by omega)) D br lv (by omega) hb hlv
          obtain ⟨fuel, rfl⟩ : ∃ z, fuel = z + 1 := ⟨fuel - 1, by omega⟩
          refine ⟨r, br', ?_, f3⟩
          unfold bfX11_positiveOf_130_0
          rw [show (40 : Int32) = iN 40 from rfl, sign_eq]
          dsimp only
          rw [passes_eq x T E hE hE2 i br (by omega), e1, if_pos rfl]
          dsimp only
          rw [if_neg (by decide), r0_s, f2, test_end x _ _ _ _ T E hE hE2 j' (by omega) (by rw [e2]; exact iNn (by omega) (by omega) (by omega)) lv br' r f3.1]
          dsimp only
          rw [show bbz r = true by rcases f3.1 with rfl | rfl <;> rfl, cond_true, ge_22, iN_succ, ge_go]
        · exact pos_cmp x _ _ _ _ o T W hW E hE hE2 cs lv hlv hdp h1 h2 h3 h4 hj hl hf br hb
      all_goals omega
    · intro dp i j a b k d h hdp hj hl hf D br lv hD hb hlv
      obtain ⟨D, rfl⟩ : ∃ D', D = D' + 1 := ⟨D - 1, by omega⟩
      rw [r2_s]
      rcases h with ⟨h, -⟩ | ⟨h, -⟩ | ⟨h, -⟩ | ⟨h, -⟩ | ⟨-, h⟩ | ⟨h, -⟩ | ⟨h, -⟩
      case inr.inr.inr.inr.inl =>
        obtain ⟨q, b', d', h1, h2, h3⟩ := h
        have l2 := h2.lt.1
        obtain ⟨c, hc, hc2⟩ := h2.first3
        have ei : ec T E (i + q) = iN c := (ec_lt (by omega)).trans hc
        obtain ⟨r, br', f1, f2⟩ := ih3 dp (i + q) j a b' k d' h2 hdp hj (by omega) hf D br lv (by omega) hb hlv
        have hn := nots x (r0 x D) (r1 x D) (r2 x D) (r3 x D) T E hE hE2 lv br q i 20000 0 (by omega) (fun z hz => (ec_lt (by omega)).trans (h1 z hz)) (by omega)
        have e1 : bfX11_plainOf_130_0 x (r0 x D) (r1 x D) (r2 x D) (r3 x D) (ge T i br) lv = if r = iN (q % 2) then some (0, ge T j br') else some (1, ge T j br') := by
          rw [bfX11_plainOf_130_0]
          rw [show (0 : Int32) = iN (0 % 2) from rfl, hn, Nat.zero_add]
          obtain ⟨f, hfu⟩ : ∃ f, 20000 - q = f + 1 := ⟨20000 - q - 1, by omega⟩
          rw [hfu]
          show bfX11_plainOf_130_2 x (r0 x D) (r1 x D) (r2 x D) (r3 x D) (lfX11_plainOf_130_2 x (r0 x D) (r1 x D) (r2 x D) (r3 x D) f) (ge T (i + q) br) lv (iN (q % 2)) = _
          unfold bfX11_plainOf_130_2 bfX11_plainOf_130_38
          rw [show (7 : Int32) = iN 7 from rfl, passes_eq x T E hE hE2 (i + q) br (by omega), ei, if_neg (iNn (by omega) (by omega) (by omega))]
          dsimp only
          rw [if_pos rfl, f1]
          rfl
        rw [e1]
        obtain ⟨g1, g2, g3, g4⟩ := f2
        rcases h3 with ⟨h3, rfl, rfl⟩ | ⟨h3, rfl, h4, rfl⟩
        · rw [h3]
          rcases g1 with rfl | rfl
          · rw [if_pos (show (0 : Int32) = iN 0 from rfl)]
            exact ⟨0, br', rfl, Or.inl rfl, g2, g3, g4⟩
          · rw [if_neg (show ¬ (1 : Int32) = iN 0 by decide)]
            exact ⟨1, br', rfl, Or.inr rfl, g2, g3, g4⟩
        · rw [h3]
          have fin : ∀ r' : Int32, (∀ v, r = v → r' = 1 - v) → lv = 1 → br = 0 → match nD d' W with
              | none => br' = 1
              | some v => br' = 0 ∧ r' = v := by
            intro r' hr e1 e2
            have g3 := g3 e1 e2
            unfold nD
            cases hd : d' W with
            | none => rw [hd] at g3; exact g3
            | some v => rw [hd] at g3; exact ⟨g3.1, hr v g3.2⟩
          rcases g1 with rfl | rfl
          · rw [if_neg (show ¬ (0 : Int32) = iN 1 by decide)]
            exact ⟨1, br', rfl, Or.inr rfl, g2, fin 1 (fun v hv => by subst hv; rfl), g4⟩
          · rw [if_pos (show (1 : Int32) = iN 1 from rfl)]
            exact ⟨0, br', rfl, Or.inl rfl, g2, fin 0 (fun v hv => by subst hv; rfl), g4⟩
      all_goals omega
    · intro dp i j a b k d h hdp hj hl hf D br lv hD hb hlv
      rcases h with ⟨h, -⟩ | ⟨h, -⟩ | ⟨h, -⟩ | ⟨h, -⟩ | ⟨h, -⟩ | ⟨-, h⟩ | ⟨h, -⟩
      case inr.inr.inr.inr.inr.inl =>
        rcases h with h | ⟨m, p, k1, k2, d1, d2, h1, h2, h3, h4, rfl, rfl⟩
        · obtain ⟨r, br', f1, f2⟩ := ih4 dp i j a b k d h hdp hj hl hf D br lv hD hb hlv
          refine ⟨20000, r, br', by omega, ?_, f2⟩
          unfold bfX11_bothOf_130_0
          rw [f1]
        · have l1 := h1.lt.1
          have l4 := h4.lt.1
          have em : ec T E m = iN 6 := (ec_lt (by omega)).trans h2
          obtain ⟨fuel, v1, br1, f1, f2, f3⟩ := ih5 dp i m a p k1 d1 h1 hdp (by omega) (by omega) (fol_of em (by omega) (by omega) (by omega) (by omega) (by omega) (by omega)) D br lv hD hb hlv
          obtain ⟨fuel, rfl⟩ : ∃ z, fuel = z + 1 := ⟨fuel - 1, by omega⟩
          obtain ⟨r', br', e1, e2⟩ := both_step x (r0 x D) (r1 x D) (r2 x D) (r3 x D) T E hE hE2 m j (by omega) em hlv hb f3 (fun lv2 hl2 => ih4 dp (m + 1) j (p + 1) b k2 d2 h4 hdp hj (by omega) hf D br1 lv2 hD f3.2.1 hl2) fuel
          exact ⟨fuel, r', br', by omega, f2.trans e1, e2⟩
      all_goals omega
    · intro dp i j a b k d h hdp hj hl hf hn6 D br lv hD hb hlv
      obtain ⟨D, rfl⟩ : ∃ D', D = D' + 1 := ⟨D - 1, by omega⟩
      rcases h with ⟨h, -⟩ | ⟨h, -⟩ | ⟨h, -⟩ | ⟨h, -⟩ | ⟨h, -⟩ | ⟨h, -⟩ | ⟨-, h⟩
      case inr.inr.inr.inr.inr.inr =>
        rcases h with h | ⟨m, p, k1, k2, d1, d2, h1, h2, h3, h4, rfl, rfl⟩
        · have l1 := h.lt.1
          obtain ⟨fuel, r, br', f1, f2, f3⟩ := ih5 dp i j a b k d h hdp hj hl hf D br lv (by omega) hb hlv
          obtain ⟨fuel, rfl⟩ : ∃ z, fuel = z + 1 := ⟨fuel - 1, by omega⟩
          refine ⟨20000, r, br', by omega, ?_, f3⟩
          rw [bfX11_testOf_130_0, r1_s, f2, both_end x _ _ _ _ T E hE hE2 j hj hn6 lv br' r f3.1]
        · have l1 := h1.lt.1
          have l4 := h4.lt.1
          have em : ec T E m = iN 5 := (ec_lt (by omega)).trans h2
          obtain ⟨fuel, v1, br1, f1, f2, f3⟩ := ih6 dp i m a p k1 d1 h1 hdp (by omega) (by omega) (fol_of em (by omega) (by omega) (by omega) (by omega) (by omega) (by omega)) (by rw [em]; exact iNn (by omega) (by omega) (by omega)) (D + 1) br lv hD hb hlv
          obtain ⟨fuel, rfl⟩ : ∃ z, fuel = z + 1 := ⟨fuel - 1, by omega⟩
          obtain ⟨r', br', e1, e2⟩ := test_step x (r0 x (D + 1)) (r1 x (D + 1)) (r2 x (D + 1)) (r3 x (D + 1)) T E hE hE2 m j (by omega) em hlv hb f3 (fun lv2 hl2 => by
            obtain ⟨fuel2, w2, br2, g1, g2, g3⟩ := ih5 dp (m + 1) j (p + 1) b k2 d2 h4 hdp hj (by omega) hf D br1 lv2 (by omega) f3.2.1 hl2
            obtain ⟨fuel2, rfl⟩ : ∃ z, fuel2 = z + 1 := ⟨fuel2 - 1, by omega⟩
            refine ⟨w2, br2, ?_, g3⟩
            rw [r1_s, g2, both_end x _ _ _ _ T E hE hE2 j hj hn6 lv2 br2 w2 g3.1]) fuel
          exact ⟨fuel, r', br', by omega, f2.trans e1, e2⟩
      all_goals omega
/-- a TEST, whole -/
theorem refTest (x : XT) (o : Bool) (T : ST) (W : Nat → Int32) (hW : HW x o T W) (E : Nat) (hE : T.1 130 23 = iN E) (hE2 : E ≤ 2800) (cs : Nat → Int32) (lv : Int32) (hlv : lv = 0 ∨ lv = 1) {n dp i j a b k : Nat} {d : DN} (h : Gr o (cdT T) (vlT T) cs n dp 6 i j a b k d) (hdp : dp ≤ 8) (hj : j ≤ E) (hl : j - i ≤ 400) (h1 : fol T E j) (h2 : ¬ ec T E j = iN 6) (h3 : ¬ ec T E j = iN 5) (br : Int32) (hb : br = 0 ∨ br = 1) : ∃ r br', gfX11_testOf_130 x (ge T i br) lv = some (r, ge T j br') ∧ PT lv br (d W) r br' := by
  obtain ⟨fuel, r, br', f1, f2, f3⟩ := (refT x o T W hW E hE hE2 cs n).2.2.2 dp i j a b k d h hdp hj hl h1 h2 59 br lv (by omega) hb hlv
  obtain ⟨fuel, rfl⟩ : ∃ z, fuel = z + 1 := ⟨fuel - 1, by omega⟩
  refine ⟨r, br', ?_, f3⟩
  show r0 x (59 + 1) (ge T i br) lv = _
  rw [r0_s, f2, test_end x _ _ _ _ T E hE hE2 j hj h3 lv br' r f3.1]
end REFTGR
