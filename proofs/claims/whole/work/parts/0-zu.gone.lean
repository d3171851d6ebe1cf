section GONE
def bG (pl : Nat) (park many : Int32) : Bool := decide (iN (pl / 20) = park) && (decide (many = -1) || decide (iN (pl % 20) = many))
theorem isAt_eq (x : XT) (S : ST) (pl : Nat) (hl : pl < 120) (park many : Int32) : gfX6_isAt x S (iN pl) park many = some (bz (bG pl park many), S) := by
  unfold gfX6_isAt bfX6_isAt_0 bfX6_isAt_25 bfX6_isAt_21 bfX6_isAt_26 bG
  rw [mod20 pl hl, div20 pl hl]
  by_cases h1 : iN (pl / 20) = park
  · rw [if_neg (fun z => z h1), decide_eq_true h1, Bool.true_and]
    by_cases h2 : many = -1
    · rw [if_pos h2, decide_eq_true h2]; rfl
    · rw [if_neg h2, decide_eq_false h2, Bool.false_or]
      by_cases h3 : iN (pl % 20) = many
      · rw [if_neg (fun z => z h3), decide_eq_true h3]; rfl
      · rw [if_pos h3, decide_eq_false h3]; rfl
  · rw [if_pos h1, decide_eq_false h1]; rfl
theorem isGoal_eq (x : XT) (S : ST) (pl : Nat) (hl : pl < 120) (park many : Int32) : gfX11_isGoal x S (iN pl) park many = some (bz (bG pl park many), S) := by
  unfold gfX11_isGoal bfX11_isGoal_0 bfX11_isGoal_25 bfX11_isGoal_21 bfX11_isGoal_26 bG
  rw [mod20 pl hl, div20 pl hl]
  by_cases h1 : iN (pl / 20) = park
  · rw [if_neg (fun z => z h1), decide_eq_true h1, Bool.true_and]
    by_cases h2 : many = -1
    · rw [if_pos h2, decide_eq_true h2]; rfl
    · rw [if_neg h2, decide_eq_false h2, Bool.false_or]
      by_cases h3 : iN (pl % 20) = many
      · rw [if_neg (fun z => z h3), decide_eq_true h3]; rfl
      · rw [if_pos h3, decide_eq_false h3]; rfl
  · rw [if_pos h1, decide_eq_false h1]; rfl
theorem bG_none (pl : Nat) (hl : pl < 120) (many : Int32) : bG pl (-1) many = false := by
  unfold bG
  rw [decide_eq_false (show ¬ iN (pl / 20) = -1 from fun z => by have := iN_nn (n := pl / 20) (by omega); rw [z] at this; exact this (by decide)), Bool.false_and]
def pl0 (f : Nat → Int32) (p : Nat) : Nat := 20 * (f p).toNatClampNeg + (f (5 + p)).toNatClampNeg
theorem pl0_lt {f : Nat → Int32} (hW : WF f) (p : Nat) (hp : p < 5) : pl0 f p < 120 := by
  obtain ⟨a, b, -⟩ := hW.1.1 p hp
  have := (inb_is a).2
  have := (inb_is b).2
  unfold pl0
  omega
theorem pl0_eq {f : Nat → Int32} (hW : WF f) (p : Nat) (hp : p < 5) : 20 * f p + f (5 + p) = iN (pl0 f p) := by
  obtain ⟨a, b, -⟩ := hW.1.1 p hp
  unfold pl0
  rw [← iN_add, ← (inb_is b).1, ← show (20 : Int32) * iN (f p).toNatClampNeg = iN (20 * (f p).toNatClampNeg) from iN_mul 20 _, ← (inb_is a).1]
theorem start_eq (x : XT) (S : ST) (f : Nat → Int32) (R : RF) (p : Nat) (hp : p < 5) (hW : WF f) (h : BC x S f R p) : gfX6_start_54 x S = some (iN (pl0 f p), S) := by
  obtain ⟨q6, q7, -, -⟩ := h.2.1.2.2.2.2.2.2.1 p hp
  have q6 : S.2.1 61 p = f p := q6
  have q7 : S.2.1 62 p = f (5 + p) := q7
  unfold gfX6_start_54 bfX6_start_54_0
  rw [h.2.2.1, inb_t hp (by omega), cond_true, cond_true, iN_nat (by omega), q6, q7, Int32.mul_comm, pl0_eq hW p hp]
theorem placeOf_eq (x : XT) (T : ST) (f : Nat → Int32) (p : Nat) (hp : p < 5) (hW : WF f) (h : T.2.1 132 = f) : gfX11_placeOf_130 x T (iN p) = some (iN (pl0 f p), T) := by
  unfold gfX11_placeOf_130 bfX11_placeOf_130_0
  rw [show (0 : Int32) + iN p = iN (0 + p) from iN_add 0 p, show (5 : Int32) + iN p = iN (5 + p) from iN_add 5 p, Nat.zero_add, inb_t (show p < 5703 by omega) (by omega), inb_t (show 5 + p < 5703 by omega) (by omega), cond_true, cond_true, iN_nat (by omega), iN_nat (by omega), h, pl0_eq hW p hp]
def FI (x : XT) (S T : ST) (f : Nat → Int32) (R : RF) (p G n : Nat) : Prop := BC x S f R p ∧ BR T f R p G ∧ n ≤ 120 ∧ (∀ j, j < n → ∃ a d, a < 120 ∧ d < n ∧ S.2.1 71 j = iN a ∧ T.2.1 149 j = iN a ∧ S.2.1 72 a = iN d) ∧ (∀ q, q < 120 → (S.2.1 72 q = -1 ∧ T.2.1 148 q = 1000000) ∨ ∃ d, d < n ∧ S.2.1 72 q = iN d ∧ T.2.1 148 q = iN d) ∧ cnt (fun q => decide (¬ S.2.1 72 q = -1)) 120 = n
theorem iN_m1 {n : Nat} (h : n < 2147483648) : ¬ iN n = -1 := fun z => by have := iN_nn h; rw [z] at this; exact this (by decide)
theorem cnt_lt {Q : Nat → Bool} : ∀ {n k : Nat}, k < n → Q k = false → cnt Q n < n
  | n + 1, k, h, e => by
    rw [cnt]
    by_cases hk : k = n
    · subst hk
      rw [e]
      have := cnt_le Q k
      simp only [Bool.false_eq_true, if_false]
      omega
    · have := cnt_lt (Q := Q) (n := n) (k := k) (by omega) e
      by_cases q : Q n = true
      · rw [if_pos q]; omega
      · rw [if_neg q]; omega
/-- a PLACE more is found -/
theorem FI.more {x : XT} {S T : ST} {f : Nat → Int32} {R : RF} {p G n : Nat} (h : FI x S T f R p G n) {q d : Nat} (hq : q < 120) (hd : d < n) (e : S.2.1 72 q = -1) (v w : Int32) : FI x (S.1, u2 (u2 (u2 (u2 S.2.1 72 q (iN (d + 1))) 73 q v) 74 q w) 71 n (iN q), S.2.2.1, S.2.2.2) (T.1, u2 (u2 T.2.1 148 q (iN (d + 1))) 149 n (iN q), T.2.2.1, T.2.2.2) f R p G (n + 1) := by
  obtain ⟨h1, h2, h3, h4, h5, h6⟩ := h
  have aS : Agr ([], [71, 72, 73, 74], [], []) S (S.1, u2 (u2 (u2 (u2 S.2.1 72 q (iN (d + 1))) 73 q v) 74 q w) 71 n (iN q), S.2.2.1, S.2.2.2) := Agr.i (S1 := (S.1, u2 (u2 (u2 S.2.1 72 q (iN (d + 1))) 73 q v) 74 q w, S.2.2.1, S.2.2.2)) (Agr.i (S1 := (S.1, u2 (u2 S.2.1 72 q (iN (d + 1))) 73 q v, S.2.2.1, S.2.2.2)) (Agr.i (S1 := (S.1, u2 S.2.1 72 q (iN (d + 1)), S.2.2.1, S.2.2.2)) (Agr.i Agr.rf 72 q _ (by decide)) 73 q _ (by decide)) 74 q _ (by decide)) 71 n _ (by decide)
  have aT : Agr ([], [148, 149], [], []) T (T.1, u2 (u2 T.2.1 148 q (iN (d + 1))) 149 n (iN q), T.2.2.1, T.2.2.2) := Agr.i (S1 := (T.1, u2 T.2.1 148 q (iN (d + 1)), T.2.2.1, T.2.2.2)) (Agr.i Agr.rf 148 q _ (by decide)) 149 n _ (by decide)
  have s72 : (u2 (u2 (u2 (u2 S.2.1 72 q (iN (d + 1))) 73 q v) 74 q w) 71 n (iN q)) 72 = u1 (S.2.1 72) q (iN (d + 1)) := by
    rw [u2_ro _ _ _ (by decide), u2_ro _ _ _ (by decide), u2_ro _ _ _ (by decide), u2_row]
  have s71 : (u2 (u2 (u2 (u2 S.2.1 72 q (iN (d + 1))) 73 q v) 74 q w) 71 n (iN q)) 71 = u1 (S.2.1 71) n (iN q) := by
    rw [u2_row, u2_ro _ _ _ (by decide), u2_ro _ _ _ (by decide), u2_ro _ _ _ (by decide)]
  have t148 : (u2 (u2 T.2.1 148 q (iN (d + 1))) 149 n (iN q)) 148 = u1 (T.2.1 148) q (iN (d + 1)) := by
    rw [u2_ro _ _ _ (by decide), u2_row]
  have t149 : (u2 (u2 T.2.1 148 q (iN (d + 1))) 149 n (iN q)) 149 = u1 (T.2.1 149) n (iN q) := by
    rw [u2_row, u2_ro _ _ _ (by decide)]
  have hn : n < 120 := by
    rw [← h6]
    exact cnt_lt hq (by simp [e])
  refine ⟨h1.cg (aS.sm (by decide)) rfl (aS.2.1 70 (by decide)), ⟨(aT.2.1 132 (by decide)).trans h2.1, fun g m hg hm => by rw [aT.2.1 145 (by decide), aT.2.1 146 (by decide)]; exact h2.2 g m hg hm⟩, by omega, fun j hj => ?_, fun q' hq' => ?_, ?_⟩
  · dsimp only
    rw [s71, s72, t149]
    by_cases ej : j = n
    · subst ej
      exact ⟨q, d + 1, hq, by omega, u1_s _ _ _, u1_s _ _ _, u1_s _ _ _⟩
    · obtain ⟨a, d', a1, a2, a3, a4, a5⟩ := h4 j (by omega)
      have hne : a ≠ q := fun z => by rw [z, e] at a5; exact iN_m1 (by omega) a5.symm
      exact ⟨a, d', a1, by omega, (u1_n _ _ ej).trans a3, (u1_n _ _ ej).trans a4, (u1_n _ _ hne).trans a5⟩
  · dsimp only
    rw [s72, t148]
    by_cases eq : q' = q
    · subst eq
      exact Or.inr ⟨d + 1, by omega, u1_s _ _ _, u1_s _ _ _⟩
    · rw [u1_n _ _ eq, u1_n _ _ eq]
      rcases h5 q' hq' with z | ⟨d', z1, z2⟩
      · exact Or.inl z
      · exact Or.inr ⟨d', by omega, z2⟩
  · dsimp only
    refine (cnt_eq (Q := fun q1 => decide (¬ u1 (S.2.1 72) q (iN (d + 1)) q1 = -1)) (fun j _ => by simp only [s72])).trans ?_
    rw [← h6]
    refine (cnt_flip (k := q) hq ?_ ?_ (fun j hj => ?_)).symm
    · rw [u1_s]; exact decide_eq_true (iN_m1 (by omega))
    · simp [e]
    · rw [u1_n _ _ hj]
set_option maxRecDepth 4000 in
theorem isIn0 : ∀ g : Fin 10, ¬ (((0 : Int32) >>> (iN g.1 &&& 31)) &&& 1) = 1 := by decide
theorem gone_in (x : XT) (f : Nat → Int32) (R : RF) (p G : Nat) (hp : p < 5) (hW : WF f) (hG : G ≤ 10) (h91 : f 91 = iN G) (k56 : ST → Int32 → Int32 → Int32 → Int32 → Option (Int32 × ST)) (k43 : ST → Int32 → Int32 → Int32 → Option (Unit × ST)) (i a : Nat) (ha : a < 120) : ∀ (d g f1 f2 n : Nat) (S T : ST), g + d = G → d < f1 → d < f2 → i < n → S.2.1 71 i = iN a → FI x S T f R p G n → ∃ S' T' n', lfX6_find_54_84 x k56 f1 S (-1) (-1) (iN n) (iN i) (iN (a / 20)) (iN g) = k56 S' (-1) (-1) (iN n') (iN (i + 1)) ∧ lfX11_laysGone_130_52 x k43 f2 T 0 (iN n) (iN i) (iN g) = k43 T' 0 (iN n') (iN (i + 1)) ∧ i < n' ∧ FI x S' T' f R p G n'
  | 0, g, f1, f2, n, S, T, hg, l1, l2, hi, hq, hF => by
    obtain ⟨f1, rfl⟩ : ∃ z, f1 = z + 1 := ⟨f1 - 1, by omega⟩
    obtain ⟨f2, rfl⟩ : ∃ z, f2 = z + 1 := ⟨f2 - 1, by omega⟩
    have e : g = G := by omega
    subst e
    rw [lfX6_find_54_84, bfX6_find_54_84, hF.1.2.1.1, h91, if_pos ((iN_le (by omega) (by omega)).mpr (by omega)), lfX11_laysGone_130_52, bfX11_laysGone_130_52, gateMany_eq]
    dsimp only
    rw [hF.2.1.1, h91, if_pos ((iN_le (by omega) (by omega)).mpr (by omega)), iN_succ]
    exact ⟨S, T, n, rfl, rfl, hi, hF⟩
  | d + 1, g, f1, f2, n, S, T, hg, l1, l2, hi, hq, hF => by
    obtain ⟨f1, rfl⟩ : ∃ z, f1 = z + 1 := ⟨f1 - 1, by omega⟩
    obtain ⟨f2, rfl⟩ : ∃ z, f2 = z + 1 := ⟨f2 - 1, by omega⟩
    have hn := hF.2.2.1
    obtain ⟨a', da, a1, a2, a3, a4, a5⟩ := hF.2.2.2.1 i hi
    have ea : a' = a := (iN_eq (by omega) (by omega)).mp (a3.symm.trans hq)
    subst ea
    have n91 : ¬ iN G ≤ iN g := fun q => by have := (iN_le (by omega) (by omega)).mp q; omega
    have i120 : inb (iN i) 120 = true := inb_t (by omega) (by omega)
    -- the class's PLACE
    have hC : ∃ S1, bfX6_find_54_84 x k56 (lfX6_find_54_84 x k56 f1) S (-1) (-1) (iN n) (iN i) (iN (a' / 20)) (iN g) = bfX6_find_54_128 x k56 (lfX6_find_54_84 x k56 f1) S1 (-1) (-1) (iN n) (iN i) (iN (a' / 20)) (iN g) (nx R f p g a') ∧ BC x S1 f R p ∧ Agr ([], [21, 22, 70], [], []) S S1 := by
      have k1 : S.2.1 56 g = f (36 + g) := (hF.1.2.1.2.2.2.2.2.1 g (by omega)).1
      rw [bfX6_find_54_84, hF.1.2.1.1, h91, if_neg n91, inb_t (show g < 10 by omega) (by omega), cond_true, iN_nat (by omega), k1, i120, cond_true, iN_nat (by omega), a3]
      by_cases c1 : f (36 + g) = iN (a' / 20)
      · obtain ⟨S1, b1, b2, b3⟩ := behind_eq x S f R p hp hW hF.1 g a' (by omega) a1
        rw [if_neg (fun z => z c1), b1]
        exact ⟨S1, rfl, b2, b3⟩
      · rw [if_pos c1]
        exact ⟨S, by unfold nx; rw [if_neg (fun z => c1 z.1)], hF.1, Agr.rf⟩
    obtain ⟨S1, c1, c2, c3⟩ := hC
    have hF1 : FI x S1 T f R p G n := by
      refine ⟨c2, hF.2.1, hn, ?_, ?_, ?_⟩
      · rw [c3.2.1 71 (by decide), c3.2.1 72 (by decide)]; exact hF.2.2.2.1
      · rw [c3.2.1 72 (by decide)]; exact hF.2.2.2.2.1
      · rw [c3.2.1 72 (by decide)]; exact hF.2.2.2.2.2
    have e71 : S1.2.1 71 i = iN a' := (congrFun (c3.2.1 71 (by decide)) i).trans a3
    have e72 : S1.2.1 72 a' = iN da := (congrFun (c3.2.1 72 (by decide)) a').trans a5
    have hR : bfX11_laysGone_130_52 x k43 (lfX11_laysGone_130_52 x k43 f2) T 0 (iN n) (iN i) (iN g) = bfX11_laysGone_130_87 x k43 (lfX11_laysGone_130_52 x k43 f2) T 0 (iN n) (iN i) (iN g) (nx R f p g a') := by
      rw [bfX11_laysGone_130_52, gateMany_eq]
      dsimp only
      rw [hF.2.1.1, h91, if_neg n91]
      unfold gfX11_isIn bfX11_isIn_0 bfX11_isIn_14
      rw [if_pos (isIn0 ⟨g, by omega⟩), show bbz 0 = true from rfl, cond_true]
      dsimp only
      rw [if_pos rfl, i120, cond_true, iN_nat (by omega), a4, next_eq x T f R p G hG hF.2.1 g a' (by omega) a1]
    rw [lfX6_find_54_84, c1, lfX11_laysGone_130_52, hR]
    unfold bfX6_find_54_128 bfX6_find_54_224 bfX11_laysGone_130_87 bfX11_laysGone_130_142
    rw [iN_succ]
    have skip := fun S2 T2 n2 h2 h3 h4 => gone_in x f R p G hp hW hG h91 k56 k43 i a' a1 d (g + 1) f1 f2 n2 S2 T2 (by omega) (by omega) (by omega) h2 h3 h4
    rcases nx_in hW p g a' (R := R) (by omega) with en | ⟨q, hq2, en⟩
    · rw [if_pos en, if_pos en]
      exact skip S1 T n hi e71 hF1
    · rw [en, if_neg (iN_m1 (by omega)), if_neg (iN_m1 (by omega)), inb_t hq2 (by omega)]
      simp only [cond_true]
      rw [iN_nat (show q < 2147483648 by omega)]
      rcases hF1.2.2.2.2.1 q hq2 with ⟨z1, z2⟩ | ⟨dq, z1, z2, z3⟩
      · have hn2 : n < 120 := by
          rw [← hF1.2.2.2.2.2]
          exact cnt_lt hq2 (by simp [z1])
        rw [if_neg (fun z => z z1), if_pos (show iN n < 120 from (iN_lt (n := 120) (by omega) (by omega)).mpr hn2), i120, iN_nat (show i < 2147483648 by omega), e71, a4, z2, if_pos (show (1000000 : Int32) ≤ 1000000 by decide), inb_t a1 (by omega), inb_t hn2 (by omega)]
        simp only [cond_true]
        have w148 : T.2.1 148 a' = iN da := by
          rcases hF1.2.2.2.2.1 a' a1 with ⟨y1, y2⟩ | ⟨dq, y1, y2, y3⟩
          · rw [e72] at y1; exact absurd y1 (iN_m1 (by omega))
          · rw [e72] at y2; rw [y2]; exact y3
        rw [iN_nat (show a' < 2147483648 by omega), e72, w148, iN_succ da, iN_succ n, iN_nat (show n < 2147483648 by omega), isAt_eq x _ q hq2, bG_none q hq2]
        dsimp only
        rw [if_pos (show bz false = 0 from rfl)]
        have hF2 := hF1.more hq2 a2 z1 (iN g) (iN a')
        refine skip _ _ (n + 1) (by omega) ?_ hF2
        dsimp only
        rw [u2_k _ _ _ (by omega), u2_ro _ _ _ (by decide), u2_ro _ _ _ (by decide), u2_ro _ _ _ (by decide)]
        exact e71
      · rw [if_pos (show ¬ S1.2.1 72 q = -1 from fun z => by rw [z] at z2; exact iN_m1 (by omega) z2.symm), z3, if_neg (show ¬ (1000000 : Int32) ≤ iN dq from fun z => by have := (iN_le (m := 1000000) (by omega) (by omega)).mp z; omega)]
        exact skip S1 T n hi e71 hF1
end GONE
