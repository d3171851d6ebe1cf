section REFGR
abbrev cdT (T : ST) : Nat → Int32 := fun k => T.2.1 132 (103 + k)
abbrev vlT (T : ST) : Nat → Int32 := fun k => T.2.1 132 (2903 + k)
def nomul (T : ST) (E j : Nat) : Prop := ¬ ec T E j = iN 142 ∧ ¬ ec T E j = iN 147 ∧ ¬ ec T E j = iN 137
def noadd (T : ST) (E j : Nat) : Prop := ¬ ec T E j = iN 143 ∧ ¬ ec T E j = iN 145
theorem iNn {m n : Nat} (h : m ≠ n) (hm : m < 1000) (hn : n < 1000) : ¬ iN m = iN n := fun e => h ((iN_eq (by omega) (by omega)).mp e)
theorem Gr.lt {o : Bool} {cd vl cs : Nat → Int32} : ∀ {n dp kd i j a b k : Nat} {d : DN}, Gr o cd vl cs n dp kd i j a b k d → i < j ∧ a < b := by
  intro n
  induction n with
  | zero => intro dp kd i j a b k d h; exact h.elim
  | succ n ih =>
    intro dp kd i j a b k d h
    rcases h with ⟨rfl, h⟩ | ⟨rfl, h⟩ | ⟨rfl, h⟩ | ⟨rfl, h⟩ | ⟨rfl, h⟩ | ⟨rfl, h⟩ | ⟨rfl, h⟩
    · rcases h with ⟨h1, rfl, rfl, h⟩ | ⟨w, h1, rfl, h⟩ | ⟨dp', j', h1, rfl, h3, h4, h5⟩
      · omega
      · have := (WD_lt h1).2; omega
      · have := ih h5; omega
    · rcases h with h | ⟨m, p, b', k1, k2, d1, d2, op, h1, h2, h3, h4, rfl, h6, rfl, rfl⟩
      · exact ih h
      · have := ih h1; have := ih h4; omega
    · rcases h with h | ⟨m, p, b', k1, k2, d1, d2, op, h1, h2, h3, h4, rfl, h6, rfl, rfl⟩
      · exact ih h
      · have := ih h1; have := ih h4; omega
    · rcases h with ⟨dp', j', h1, rfl, h3, h4, h5⟩ | ⟨m, p, b', k1, k2, d1, d2, op, h1, h2, h3, h4, rfl, h6, rfl, rfl⟩
      · have := ih h5; omega
      · have := ih h1; have := ih h4; omega
    · obtain ⟨q, b', d', h1, h2, h3⟩ := h
      have := ih h2
      rcases h3 with ⟨h3, rfl, rfl⟩ | ⟨h3, rfl, h4, rfl⟩ <;> omega
    · rcases h with h | ⟨m, p, k1, k2, d1, d2, h1, h2, h3, h4, rfl, rfl⟩
      · exact ih h
      · have := ih h1; have := ih h4; omega
    · rcases h with h | ⟨m, p, k1, k2, d1, d2, h1, h2, h3, h4, rfl, rfl⟩
      · exact ih h
      · have := ih h1; have := ih h4; omega
/-- the reference's walk along PART, TERM, SUM -/
theorem refS (x : XT) (o : Bool) (T : ST) (W : Nat → Int32) (hW : HW x o T W) (E : Nat) (hE : T.1 130 23 = iN E) (hE2 : E ≤ 2800) (cs : Nat → Int32) (lv : Int32) (hlv : lv = 0 ∨ lv = 1) :
    ∀ n : Nat,
      (∀ dp i j a b k d, Gr o (cdT T) (vlT T) cs n dp 0 i j a b k d → j ≤ E → j - i ≤ 400 → ∀ D br, 3 * dp + 1 ≤ D → (br = 0 ∨ br = 1) → ∃ r br', q2 x D (ge T i br) lv = some (r, ge T j br') ∧ PS lv br (d W) r br') ∧
      (∀ dp i j a b k d, Gr o (cdT T) (vlT T) cs n dp 1 i j a b k d → j ≤ E → j - i ≤ 400 → ∀ D br, 3 * dp + 1 ≤ D → (br = 0 ∨ br = 1) → ∃ fuel r br', 20000 ≤ fuel + (j - i) ∧ bfX11_termOf_130_0 x (q0 x D) (q1 x D) (q2 x D) (ge T i br) lv = lfX11_termOf_130_6 x (q0 x D) (q1 x D) (q2 x D) fuel (ge T j br') lv r ∧ PS lv br (d W) r br') ∧
      (∀ dp i j a b k d, Gr o (cdT T) (vlT T) cs n dp 2 i j a b k d → j ≤ E → j - i ≤ 400 → nomul T E j → ∀ D br, 3 * dp + 2 ≤ D → (br = 0 ∨ br = 1) → ∃ fuel r br', 20000 ≤ fuel + (j - i) ∧ bfX11_sumOf_130_0 x (q0 x D) (q1 x D) (q2 x D) (ge T i br) lv = lfX11_sumOf_130_6 x (q0 x D) (q1 x D) (q2 x D) fuel (ge T j br') lv r ∧ PS lv br (d W) r br') := by
  intro n
  induction n with
  | zero => exact ⟨fun _ _ _ _ _ _ _ h => h.elim, fun _ _ _ _ _ _ _ h => h.elim, fun _ _ _ _ _ _ _ h => h.elim⟩
  | succ n ih =>
    obtain ⟨ih0, ih1, ih2⟩ := ih
    refine ⟨?_, ?_, ?_⟩
    · intro dp i j a b k d h hj hl D br hD hb
      obtain ⟨D, rfl⟩ : ∃ D', D = D' + 1 := ⟨D - 1, by omega⟩
      rw [q2_s]
      have hij := (Gr.lt h).1
      rcases h with ⟨-, h⟩ | ⟨h, -⟩ | ⟨h, -⟩ | ⟨h, -⟩ | ⟨h, -⟩ | ⟨h, -⟩ | ⟨h, -⟩
      case inr.inl => omega
      case inr.inr.inl => omega
      case inr.inr.inr.inl => omega
      case inr.inr.inr.inr.inl => omega
      case inr.inr.inr.inr.inr.inl => omega
      case inr.inr.inr.inr.inr.inr => omega
      rcases h with ⟨h1, rfl, rfl, rfl, v, h2, h3, h4, rfl⟩ | ⟨w, h1, rfl, rfl, h4, rfl⟩ | ⟨dp', j', rfl, rfl, h3, h4, h5⟩
      · exact part_leaf x _ _ _ o T W hW E hE hE2 i (i + 1) hj br lv hb hlv (iN v) (Or.inl ⟨h1, rfl, h3⟩)
      · exact part_leaf x _ _ _ o T W hW E hE hE2 i j hj br lv hb hlv (W w) (Or.inr ⟨w, h1, rfl⟩)
      · have e1 : ec T E i = iN 191 := (ec_lt (by omega)).trans h3
        have e2 : ec T E j' = iN 193 := (ec_lt (by omega)).trans h4
        obtain ⟨D, rfl⟩ : ∃ D', D = D' + 1 := ⟨D - 1, by omega⟩
        obtain ⟨fuel, r, br', f1, f2, f3⟩ := ih2 dp' (i + 1) j' a b k d h5 (by omega) (by omega) (by unfold nomul; rw [e2]; exact ⟨iNn (by omega) (by omega) (by omega), iNn (by omega) (by omega) (by omega), iNn (by omega) (by omega) (by omega)⟩) D br (by omega) hb
        obtain ⟨fuel, rfl⟩ : ∃ z, fuel = z + 1 := ⟨fuel - 1, by omega⟩
        refine ⟨r, br', ?_, f3⟩
        unfold bfX11_partOf_130_0
        rw [show (91 : Int32) = iN 91 from rfl, sign_eq]
        dsimp only
        rw [passes_eq x T E hE hE2 i br (by omega), e1, if_pos rfl]
        dsimp only
        rw [if_neg (by decide), q0_s, f2, sum_end x _ _ _ T E hE hE2 j' (by omega) (by rw [e2]; exact ⟨iNn (by omega) (by omega) (by omega), iNn (by omega) (by omega) (by omega)⟩)]
        dsimp only
        rw [ge_22, iN_succ, ge_go]
    · intro dp i j a b k d h hj hl D br hD hb
      rcases h with ⟨h, -⟩ | ⟨-, h⟩ | ⟨h, -⟩ | ⟨h, -⟩ | ⟨h, -⟩ | ⟨h, -⟩ | ⟨h, -⟩
      case inl => omega
      case inr.inr.inl => omega
      case inr.inr.inr.inl => omega
      case inr.inr.inr.inr.inl => omega
      case inr.inr.inr.inr.inr.inl => omega
      case inr.inr.inr.inr.inr.inr => omega
      rcases h with h | ⟨m, p, b', k1, k2, d1, d2, op, h1, h2, h3, h4, rfl, h6, rfl, rfl⟩
      · obtain ⟨r, br', f1, f2⟩ := ih0 dp i j a b k d h hj hl D br hD hb
        refine ⟨20000, r, br', by omega, ?_, f2⟩
        unfold bfX11_termOf_130_0
        rw [f1]
      · have l1 := (Gr.lt h1).1
        have l4 := (Gr.lt h4).1
        obtain ⟨fuel, r1, br1, f1, f2, f3⟩ := ih1 dp i m a p k1 d1 h1 (by omega) (by omega) D br hD hb
        obtain ⟨r2, br2, g1, g2⟩ := ih0 dp (m + 1) j p b' k2 d2 h4 hj (by omega) D br1 hD f3.1
        obtain ⟨fuel, rfl⟩ : ∃ z, fuel = z + 1 := ⟨fuel - 1, by omega⟩
        obtain ⟨r', br', e1, e2⟩ := term_step x (q0 x D) (q1 x D) (q2 x D) T E hE hE2 m j (by omega) op h2 ((ec_lt (by omega)).trans h3) hlv hb f3 g2 g1 fuel
        exact ⟨fuel, r', br', by omega, f2.trans e1, e2⟩
    · intro dp i j a b k d h hj hl hnm D br hD hb
      obtain ⟨D, rfl⟩ : ∃ D', D = D' + 1 := ⟨D - 1, by omega⟩
      rcases h with ⟨h, -⟩ | ⟨h, -⟩ | ⟨-, h⟩ | ⟨h, -⟩ | ⟨h, -⟩ | ⟨h, -⟩ | ⟨h, -⟩
      case inl => omega
      case inr.inl => omega
      case inr.inr.inr.inl => omega
      case inr.inr.inr.inr.inl => omega
      case inr.inr.inr.inr.inr.inl => omega
      case inr.inr.inr.inr.inr.inr => omega
      rcases h with h | ⟨m, p, b', k1, k2, d1, d2, op, h1, h2, h3, h4, rfl, h6, rfl, rfl⟩
      · have l1 := (Gr.lt h).1
        obtain ⟨fuel, r, br', f1, f2, f3⟩ := ih1 dp i j a b k d h hj hl D br (by omega) hb
        obtain ⟨fuel, rfl⟩ : ∃ z, fuel = z + 1 := ⟨fuel - 1, by omega⟩
        refine ⟨20000, r, br', by omega, ?_, f3⟩
        rw [bfX11_sumOf_130_0, q1_s, f2, term_end x _ _ _ T E hE hE2 j hj hnm]
      · have l1 := (Gr.lt h1).1
        have l4 := (Gr.lt h4).1
        have em : ec T E m = iN (100 + op) := (ec_lt (by omega)).trans h3
        have nm : nomul T E m := by
          unfold nomul
          rw [em]
          exact ⟨iNn (by omega) (by omega) (by omega), iNn (by omega) (by omega) (by omega), iNn (by omega) (by omega) (by omega)⟩
        obtain ⟨fuel, r1, br1, f1, f2, f3⟩ := ih2 dp i m a p k1 d1 h1 (by omega) (by omega) nm (D + 1) br hD hb
        obtain ⟨fuel2, r2, br2, g1, g2, g3⟩ := ih1 dp (m + 1) j p b' k2 d2 h4 hj (by omega) D br1 (by omega) f3.1
        obtain ⟨fuel, rfl⟩ : ∃ z, fuel = z + 1 := ⟨fuel - 1, by omega⟩
        obtain ⟨fuel2, rfl⟩ : ∃ z, fuel2 = z + 1 := ⟨fuel2 - 1, by omega⟩
        have hq : q1 x (D + 1) (ge T (m + 1) br1) lv = some (r2, ge T j br2) := by
          rw [q1_s, g2, term_end x _ _ _ T E hE hE2 j hj hnm]
        obtain ⟨r', br', e1, e2⟩ := sum_step x (q0 x (D + 1)) (q1 x (D + 1)) (q2 x (D + 1)) T E hE hE2 m j (by omega) op h2 em hlv hb f3 g3 hq fuel
        exact ⟨fuel, r', br', by omega, f2.trans e1, e2⟩
/-- a SUM, whole -/
theorem refSum (x : XT) (o : Bool) (T : ST) (W : Nat → Int32) (hW : HW x o T W) (E : Nat) (hE : T.1 130 23 = iN E) (hE2 : E ≤ 2800) (cs : Nat → Int32) (lv : Int32) (hlv : lv = 0 ∨ lv = 1) {n dp i j a b k : Nat} {d : DN} (h : Gr o (cdT T) (vlT T) cs n dp 2 i j a b k d) (hdp : dp ≤ 8) (hj : j ≤ E) (hl : j - i ≤ 400) (h1 : nomul T E j) (h2 : noadd T E j) (br : Int32) (hb : br = 0 ∨ br = 1) : ∃ r br', gfX11_sumOf_130 x (ge T i br) lv = some (r, ge T j br') ∧ PS lv br (d W) r br' := by
  obtain ⟨fuel, r, br', f1, f2, f3⟩ := (refS x o T W hW E hE hE2 cs lv hlv n).2.2 dp i j a b k d h hj hl h1 59 br (by omega) hb
  obtain ⟨fuel, rfl⟩ : ∃ z, fuel = z + 1 := ⟨fuel - 1, by omega⟩
  refine ⟨r, br', ?_, f3⟩
  show q0 x (59 + 1) (ge T i br) lv = _
  rw [q0_s, f2, sum_end x _ _ _ T E hE hE2 j hj h2]
end REFGR
