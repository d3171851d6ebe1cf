section MASK
def bitI (v : Int32) (g : Nat) : Bool := decide (((v >>> (iN g &&& 31)) &&& 1) = 1)
/-- GATES of a set shut -/
def mF (f : Nat → Int32) (v : Int32) (k : Nat) : Int32 := if 25 ≤ k ∧ k < 35 ∧ bitI v (k - 25) = true then 0 else f k
theorem mF_o (f : Nat → Int32) (v : Int32) {k : Nat} (h : k < 25 ∨ 35 ≤ k) : mF f v k = f k := by
  unfold mF
  rw [if_neg (fun z => by omega)]
theorem mF_g (f : Nat → Int32) (v : Int32) {g : Nat} (h : g < 10) : mF f v (25 + g) = if bitI v g = true then 0 else f (25 + g) := by
  unfold mF
  rw [show 25 + g - 25 = g by omega]
  by_cases e : bitI v g = true
  · rw [if_pos ⟨by omega, by omega, e⟩, if_pos e]
  · rw [if_neg (fun z => e z.2.2), if_neg e]
theorem mF_0 (f : Nat → Int32) : mF f 0 = f := by
  funext k
  unfold mF
  refine if_neg (fun z => ?_)
  have := isIn0 ⟨k - 25, by omega⟩
  exact this (of_decide_eq_true z.2.2)
theorem mF_WF {f : Nat → Int32} (h : WF f) (v : Int32) : WF (mF f v) := by
  obtain ⟨⟨m1, m2, m3⟩, w1, w2, w3, w4, w5, w6, w7, w8, w9, w10⟩ := h
  unfold WF MW
  rw [mF_o f v (k := 35) (by omega), mF_o f v (k := 91) (by omega), mF_o f v (k := 92) (by omega), mF_o f v (k := 93) (by omega), mF_o f v (k := 94) (by omega), mF_o f v (k := 95) (by omega), mF_o f v (k := 89) (by omega), mF_o f v (k := 90) (by omega)]
  refine ⟨⟨fun p hp => ?_, fun g hg => ?_, m3⟩, w1, w2, w3, w4, w5, fun g hg => ?_, fun p hp => ?_, fun s hs => ?_, w9, w10⟩
  · rw [mF_o f v (by omega), mF_o f v (by omega), mF_o f v (by omega)]; exact m1 p hp
  · rw [mF_o f v (by omega), mF_g f v hg]
    refine ⟨(m2 g hg).1, ?_⟩
    by_cases e : bitI v g = true
    · rw [if_pos e]; rfl
    · rw [if_neg e]; exact (m2 g hg).2
  · rw [mF_o f v (by omega), mF_o f v (by omega), mF_o f v (by omega)]; exact w6 g hg
  · rw [mF_o f v (by omega)]; exact w7 p hp
  · rw [mF_o f v (by omega), mF_o f v (by omega), mF_o f v (by omega)]; exact w8 s hs
theorem mF_gO (R : RF) (f : Nat → Int32) (v : Int32) (p g m : Nat) (hp : p < 5) (hg : g < 10) : gO R (mF f v) p g m = gO R f p g m := by
  have e : qG (mF f v) p g (iN m) = qG f p g (iN m) := by
    unfold qG
    rw [mF_o f v (by omega), mF_o f v (by omega), mF_o f v (by omega), mF_o f v (by omega), mF_o f v (by omega)]
  unfold gO
  rw [e]
theorem mF_nx (R : RF) (f : Nat → Int32) (v : Int32) (p g q : Nat) (hp : p < 5) (hg : g < 10) : nx R (mF f v) p g q = if bitI v g = true then -1 else nx R f p g q := by
  unfold nx
  rw [mF_gO R f v p g _ hp hg, mF_o f v (k := 36 + g) (by omega), mF_o f v (k := 46 + g) (by omega), mF_g f v hg]
  by_cases e : bitI v g = true
  · rw [if_pos e, if_pos e, if_neg (fun z => z.2.1 rfl)]
  · rw [if_neg e, if_neg e]
theorem mF_pl (f : Nat → Int32) (v : Int32) (p : Nat) (hp : p < 5) : pl0 (mF f v) p = pl0 f p := by
  unfold pl0
  rw [mF_o f v (by omega), mF_o f v (by omega)]
/-- there is a WAY -/
def Hw (R : RF) (f : Nat → Int32) (p G : Nat) (gl : Nat → Bool) (q : Nat) : Prop := ∃ m c, Pt R f p G (wt R f p 0) gl m q c
theorem Hw.cons {R : RF} {f : Nat → Int32} {p G : Nat} {gl : Nat → Bool} {q q' g : Nat} (hg : g < G) (hq : q' < 120) (e : nx R f p g q = iN q') (h : Hw R f p G gl q') : Hw R f p G gl q := by
  obtain ⟨m, c, h⟩ := h
  exact ⟨m + 1, _, g, q', c, hg, hq, e, h, rfl⟩
def GI (T : ST) (f : Nat → Int32) (R : RF) (p G : Nat) (v : Int32) (s : Nat) (Q : Nat → Nat) (n e : Nat) : Prop :=
  BR T f R p G ∧ (1 ≤ n ∧ n ≤ 120) ∧ (∀ j, j < n → Q j < 120 ∧ T.2.1 149 j = iN (Q j) ∧ (∃ d, d < n ∧ T.2.1 148 (Q j) = iN d) ∧ ∀ gl, Hw R (mF f v) p G gl (Q j) → Hw R (mF f v) p G gl s) ∧ (∀ q, q < 120 → T.2.1 148 q = 1000000 ∨ ∃ j, j < n ∧ Q j = q) ∧ cnt (fun q => decide (¬ T.2.1 148 q = 1000000)) 120 = n ∧ Q 0 = s ∧
  (∀ e' q, e' < e → e' % 10 < G → e' / 10 < n → q < 120 → nx R (mF f v) p (e' % 10) (Q (e' / 10)) = iN q → ∃ j, j < n ∧ Q j = q)
theorem GI.skip {T : ST} {f : Nat → Int32} {R : RF} {p G : Nat} {v : Int32} {s : Nat} {Q : Nat → Nat} {n i g : Nat} (h : GI T f R p G v s Q n (10 * i + g)) (hg : g < 10) (hk : ∀ q, q < 120 → nx R (mF f v) p g (Q i) = iN q → ∃ j, j < n ∧ Q j = q) : GI T f R p G v s Q n (10 * i + (g + 1)) := by
  obtain ⟨h1, h2, h3, h4, h5, h6, h9⟩ := h
  refine ⟨h1, h2, h3, h4, h5, h6, fun e' q a b c d w => ?_⟩
  by_cases e : e' = 10 * i + g
  · subst e
    rw [show (10 * i + g) % 10 = g by omega, show (10 * i + g) / 10 = i by omega] at w
    exact hk q d w
  · exact h9 e' q (by omega) b c d w
theorem GI.next {T : ST} {f : Nat → Int32} {R : RF} {p G : Nat} {v : Int32} {s : Nat} {Q : Nat → Nat} {n i : Nat} (h : GI T f R p G v s Q n (10 * i + G)) (hG : G ≤ 10) : GI T f R p G v s Q n (10 * (i + 1)) := by
  obtain ⟨h1, h2, h3, h4, h5, h6, h9⟩ := h
  exact ⟨h1, h2, h3, h4, h5, h6, fun e' q a b c d w => h9 e' q (by omega) b c d w⟩
theorem GI.more {T : ST} {f : Nat → Int32} {R : RF} {p G : Nat} {v : Int32} {s : Nat} {Q : Nat → Nat} {n i g q d : Nat} (h : GI T f R p G v s Q n (10 * i + g)) (hi : i < n) (hg : g < G) (hG : G ≤ 10) (hq : q < 120) (hd : d < n) (e : T.2.1 148 q = 1000000) (hn : nx R (mF f v) p g (Q i) = iN q) : GI (T.1, u2 (u2 T.2.1 148 q (iN (d + 1))) 149 n (iN q), T.2.2.1, T.2.2.2) f R p G v s (u1 Q n q) (n + 1) (10 * i + (g + 1)) := by
  obtain ⟨h1, h2, h3, h4, h5, h6, h9⟩ := h
  have aT : Agr ([], [148, 149], [], []) T (T.1, u2 (u2 T.2.1 148 q (iN (d + 1))) 149 n (iN q), T.2.2.1, T.2.2.2) := Agr.i (S1 := (T.1, u2 T.2.1 148 q (iN (d + 1)), T.2.2.1, T.2.2.2)) (Agr.i Agr.rf 148 q _ (by decide)) 149 n _ (by decide)
  have t148 : (u2 (u2 T.2.1 148 q (iN (d + 1))) 149 n (iN q)) 148 = u1 (T.2.1 148) q (iN (d + 1)) := by
    rw [u2_ro _ _ _ (by decide), u2_row]
  have t149 : (u2 (u2 T.2.1 148 q (iN (d + 1))) 149 n (iN q)) 149 = u1 (T.2.1 149) n (iN q) := by
    rw [u2_row, u2_ro _ _ _ (by decide)]
  have big : ∀ d, d < 200 → ¬ iN d = 1000000 := fun d hd z => by
    have := (iN_eq (n := 1000000) (by omega) (by omega)).mp z
    omega
  have hn120 : n < 120 := by
    rw [← h5]
    exact cnt_lt hq (by simp [e])
  have qne : ∀ j, j < n → Q j ≠ q := fun j hj z => by
    obtain ⟨d', hd', e'⟩ := (h3 j hj).2.2.1
    rw [z, e] at e'
    exact big d' (by omega) e'.symm
  refine ⟨⟨(aT.2.1 132 (by decide)).trans h1.1, fun g m hg hm => by rw [aT.2.1 145 (by decide), aT.2.1 146 (by decide)]; exact h1.2 g m hg hm⟩, by omega, fun j hj => ?_, fun q' hq' => ?_, ?_, ?_, fun e' q' a b c d w => ?_⟩
  · dsimp only
    rw [t148, t149]
    by_cases ej : j = n
    · subst ej
      rw [u1_s, u1_s, u1_s]
      exact ⟨hq, rfl, ⟨d + 1, by omega, rfl⟩, fun gl hh => (h3 i hi).2.2.2 gl (Hw.cons hg hq hn hh)⟩
    · obtain ⟨r1, r2, ⟨d', r3, r4⟩, r5⟩ := h3 j (by omega)
      rw [u1_n _ _ ej, u1_n _ _ ej, u1_n _ _ (qne j (by omega))]
      exact ⟨r1, r2, ⟨d', by omega, r4⟩, r5⟩
  · dsimp only
    rw [t148]
    by_cases eq : q' = q
    · subst eq
      exact Or.inr ⟨n, by omega, u1_s _ _ _⟩
    · rw [u1_n _ _ eq]
      rcases h4 q' hq' with z | ⟨j, z1, z2⟩
      · exact Or.inl z
      · exact Or.inr ⟨j, by omega, by rw [u1_n _ _ (by omega)]; exact z2⟩
  · dsimp only
    refine (cnt_eq (Q := fun q1 => decide (¬ u1 (T.2.1 148) q (iN (d + 1)) q1 = 1000000)) (fun j _ => by simp only [t148])).trans ?_
    rw [← h5]
    refine (cnt_flip (k := q) hq ?_ ?_ (fun j hj => ?_)).symm
    · rw [u1_s]; exact decide_eq_true (big _ (by omega))
    · simp [e]
    · rw [u1_n _ _ hj]
  · rw [u1_n _ _ (by omega)]; exact h6
  · by_cases ee : e' = 10 * i + g
    · subst ee
      rw [show (10 * i + g) % 10 = g by omega, show (10 * i + g) / 10 = i by omega, u1_n Q _ (by omega), hn] at w
      have : q = q' := (iN_eq (by omega) (by omega)).mp w
      subst this
      exact ⟨n, by omega, u1_s _ _ _⟩
    · by_cases en : e' / 10 = n
      · omega
      · rw [u1_n Q _ en] at w
        obtain ⟨j, j1, j2⟩ := h9 e' q' (by omega) b (by omega) d w
        exact ⟨j, by omega, by rw [u1_n Q _ (by omega)]; exact j2⟩
theorem mask_in (x : XT) (f : Nat → Int32) (R : RF) (p G : Nat) (hp : p < 5) (hW : WF f) (hG : G ≤ 10) (h91 : f 91 = iN G) (v : Int32) (s : Nat) (k43 : ST → Int32 → Int32 → Int32 → Option (Unit × ST)) (i : Nat) : ∀ (d g f2 n : Nat) (T : ST) (Q : Nat → Nat), g + d = G → d < f2 → i < n → GI T f R p G v s Q n (10 * i + g) → ∃ T' Q' n', lfX11_laysGone_130_52 x k43 f2 T v (iN n) (iN i) (iN g) = k43 T' v (iN n') (iN (i + 1)) ∧ i < n' ∧ GI T' f R p G v s Q' n' (10 * (i + 1))
  | 0, g, f2, n, T, Q, hg, l2, hi, hF => by
    obtain ⟨f2, rfl⟩ : ∃ z, f2 = z + 1 := ⟨f2 - 1, by omega⟩
    have e : g = G := by omega
    subst e
    refine ⟨T, Q, n, ?_, hi, hF.next hG⟩
    rw [lfX11_laysGone_130_52, bfX11_laysGone_130_52, gateMany_eq]
    dsimp only
    rw [hF.1.1, h91, if_pos ((iN_le (by omega) (by omega)).mpr (by omega)), iN_succ]
  | d + 1, g, f2, n, T, Q, hg, l2, hi, hF => by
    obtain ⟨f2, rfl⟩ : ∃ z, f2 = z + 1 := ⟨f2 - 1, by omega⟩
    have hn := hF.2.1
    obtain ⟨a1, a4, ⟨da, a2, a5⟩, a6⟩ := hF.2.2.1 i hi
    have n91 : ¬ iN G ≤ iN g := fun q => by have := (iN_le (by omega) (by omega)).mp q; omega
    have i120 : inb (iN i) 120 = true := inb_t (by omega) (by omega)
    have hR : bfX11_laysGone_130_52 x k43 (lfX11_laysGone_130_52 x k43 f2) T v (iN n) (iN i) (iN g) = bfX11_laysGone_130_87 x k43 (lfX11_laysGone_130_52 x k43 f2) T v (iN n) (iN i) (iN g) (nx R (mF f v) p g (Q i)) := by
      rw [bfX11_laysGone_130_52, gateMany_eq, mF_nx R f v p g (Q i) hp (by omega)]
      dsimp only
      rw [hF.1.1, h91, if_neg n91]
      unfold gfX11_isIn bfX11_isIn_0 bfX11_isIn_14 bitI
      rw [show bbz 0 = true from rfl, show bbz 1 = true from rfl, cond_true, cond_true]
      by_cases hb : ((v >>> (iN g &&& 31)) &&& 1) = 1
      · rw [if_neg (fun z => z hb), decide_eq_true hb]
        dsimp only
        rw [if_neg (show ¬ (1 : Int32) = 0 by decide), if_pos rfl]
      · rw [if_pos hb, decide_eq_false hb]
        dsimp only
        rw [if_pos rfl, i120, cond_true, iN_nat (by omega), a4, next_eq x T f R p G hG hF.1 g (Q i) (by omega) a1, if_neg (by decide)]
    rw [lfX11_laysGone_130_52, hR]
    unfold bfX11_laysGone_130_87 bfX11_laysGone_130_142
    rw [iN_succ]
    have rest := fun T2 Q2 n2 h2 h4 => mask_in x f R p G hp hW hG h91 v s k43 i d (g + 1) f2 n2 T2 Q2 (by omega) (by omega) h2 h4
    rcases nx_in (mF_WF hW v) p g (Q i) (R := R) (by omega) with en | ⟨q, hq2, en⟩
    · rw [if_pos en]
      exact rest T Q n hi (hF.skip (by omega) (fun q hq z => by rw [en] at z; exact absurd z.symm (iN_m1 (by omega))))
    · rw [en, if_neg (iN_m1 (by omega)), inb_t hq2 (by omega)]
      simp only [cond_true]
      rw [iN_nat (show q < 2147483648 by omega)]
      rcases hF.2.2.2.1 q hq2 with z1 | ⟨jq, z1, z2⟩
      · have hn2 : n < 120 := by
          rw [← hF.2.2.2.2.1]
          exact cnt_lt hq2 (by simp [z1])
        rw [z1, if_pos (show (1000000 : Int32) ≤ 1000000 by decide), i120, iN_nat (show i < 2147483648 by omega), a4, inb_t a1 (by omega), inb_t hn2 (by omega)]
        simp only [cond_true]
        rw [iN_nat (show Q i < 2147483648 by omega), a5, iN_succ da, iN_succ n, iN_nat (show n < 2147483648 by omega)]
        exact rest _ _ (n + 1) (by omega) (hF.more hi (by omega) hG hq2 a2 z1 en)
      · obtain ⟨dq, y1, y2⟩ := (hF.2.2.1 jq z1).2.2.1
        rw [z2] at y2
        rw [y2, if_neg (show ¬ (1000000 : Int32) ≤ iN dq from fun z => by have := (iN_le (m := 1000000) (by omega) (by omega)).mp z; omega)]
        exact rest T Q n hi (hF.skip (by omega) (fun q' hq' z => ⟨jq, z1, by rw [z2]; exact (iN_eq (by omega) (by omega)).mp (en.symm.trans z)⟩))
theorem mask_out (x : XT) (f : Nat → Int32) (R : RF) (p G : Nat) (hp : p < 5) (hW : WF f) (hG : G ≤ 10) (h91 : f 91 = iN G) (v : Int32) (s : Nat) : ∀ (d i f2 n : Nat) (T : ST) (Q : Nat → Nat), i + d = 120 → d < f2 → i ≤ n → GI T f R p G v s Q n (10 * i) → ∃ T' Q' n', lfX11_laysGone_130_43 x f2 T v (iN n) (iN i) = some ((), T') ∧ GI T' f R p G v s Q' n' (10 * n')
  | 0, i, f2, n, T, Q, hi, l2, hn, hF => by
    obtain ⟨f2, rfl⟩ : ∃ z, f2 = z + 1 := ⟨f2 - 1, by omega⟩
    have := hF.2.1
    have e : i = n := by omega
    subst e
    refine ⟨T, Q, i, ?_, hF⟩
    rw [lfX11_laysGone_130_43, bfX11_laysGone_130_43, if_pos ((iN_le (by omega) (by omega)).mpr (Nat.le_refl i))]
  | d + 1, i, f2, n, T, Q, hi, l2, hn, hF => by
    obtain ⟨f2, rfl⟩ : ∃ z, f2 = z + 1 := ⟨f2 - 1, by omega⟩
    have h120 := hF.2.1
    rw [lfX11_laysGone_130_43, bfX11_laysGone_130_43]
    by_cases e : n ≤ i
    · have e : i = n := by omega
      subst e
      rw [if_pos ((iN_le (by omega) (by omega)).mpr (Nat.le_refl i))]
      exact ⟨T, Q, i, rfl, hF⟩
    · have fi := mask_in x f R p G hp hW hG h91 v s (lfX11_laysGone_130_43 x f2) i G 0 20000 n T Q (by omega) (by omega) (by omega) hF
      rw [show iN 0 = 0 from rfl] at fi
      obtain ⟨T1, Q1, n1, b1, b2, b3⟩ := fi
      rw [if_neg (fun z => e ((iN_le (by omega) (by omega)).mp z)), b1]
      exact mask_out x f R p G hp hW hG h91 v s d (i + 1) f2 n1 T1 Q1 (by omega) (by omega) (by omega) b3
theorem GI.fw {T : ST} {f : Nat → Int32} {R : RF} {p G : Nat} {v : Int32} {s : Nat} {Q : Nat → Nat} {n : Nat} (h : GI T f R p G v s Q n (10 * n)) (hG : G ≤ 10) {gl : Nat → Bool} {w : Nat → Nat → Nat} : ∀ (m j c : Nat), j < n → Pt R (mF f v) p G w gl m (Q j) c → ∃ j', j' < n ∧ gl (Q j') = true
  | 0, j, c, hj, hp => ⟨j, hj, hp.1⟩
  | m + 1, j, c, hj, ⟨g, q', c', h1, h2, h3, h4, h5⟩ => by
    obtain ⟨j', a1, a2⟩ := h.2.2.2.2.2.2 (10 * j + g) q' (by omega) (by rw [show (10 * j + g) % 10 = g by omega]; exact h1) (by rw [show (10 * j + g) / 10 = j by omega]; exact hj) h2 (by rw [show (10 * j + g) % 10 = g by omega, show (10 * j + g) / 10 = j by omega]; exact h3)
    exact GI.fw h hG m j' c' a1 (by rw [a2]; exact h4)
theorem mask_eq (x : XT) (f : Nat → Int32) (R : RF) (p G : Nat) (hp : p < 5) (hW : WF f) (hG : G ≤ 10) (h91 : f 91 = iN G) (v : Int32) (T : ST) (hT : BR T f R p G) : ∃ (T' : ST) (F : Nat → Bool), gfX11_laysGone_130 x T (iN (pl0 f p)) v = some ((), T') ∧ BR T' f R p G ∧ (∀ q, q < 120 → ((1000000 : Int32) ≤ T'.2.1 148 q ↔ F q = false)) ∧ ∀ gl : Nat → Bool, (∃ q, q < 120 ∧ F q = true ∧ gl q = true) ↔ Hw R (mF f v) p G gl (pl0 f p) := by
  have hs := pl0_lt hW p hp
  generalize hp0 : pl0 f p = s at *
  obtain ⟨T1, d1, d2, d3⟩ := gone_init x s hs v 120 0 20000 T (by omega) (by omega) (fun q hq => by omega)
  have aT : Agr ([], [148, 149], [], []) T (T1.1, u2 T1.2.1 149 0 (iN s), T1.2.2.1, T1.2.2.2) := Agr.i (d3.sub (by decide)) 149 0 _ (by decide)
  have hF : GI (T1.1, u2 T1.2.1 149 0 (iN s), T1.2.2.1, T1.2.2.2) f R p G v s (fun _ => s) 1 (10 * 0) := by
    refine ⟨⟨(aT.2.1 132 (by decide)).trans hT.1, fun g m hg hm => by rw [aT.2.1 145 (by decide), aT.2.1 146 (by decide)]; exact hT.2 g m hg hm⟩, by omega, fun j hj => ?_, fun q hq => ?_, ?_, rfl, fun e' q h1 => by omega⟩
    · have ej : j = 0 := by omega
      subst ej
      refine ⟨hs, u2_s T1.2.1 149 0 _, ⟨0, by omega, ?_⟩, fun gl hh => hh⟩
      dsimp only
      rw [u2_ro _ _ _ (by decide), d2 s hs, if_pos rfl]; rfl
    · dsimp only
      rw [u2_ro _ _ _ (by decide), d2 q hq]
      by_cases e : q = s
      · exact Or.inr ⟨0, by omega, e.symm⟩
      · rw [if_neg e]; exact Or.inl rfl
    · dsimp only
      refine (cnt_eq (Q := fun q1 => decide (¬ u1 (fun _ => (1000000 : Int32)) s 0 q1 = 1000000)) (fun j hj => ?_)).trans ?_
      · have e148 : (u2 T1.2.1 149 0 (iN s)) 148 j = u1 (fun _ => (1000000 : Int32)) s 0 j := by
          rw [u2_ro _ _ _ (by decide), d2 j hj]
          by_cases e : j = s
          · rw [if_pos e, e, u1_s]
          · rw [if_neg e, u1_n _ _ e]
        simp only [e148]
      · have w := cnt_flip (Q := fun q1 => decide (¬ u1 (fun _ => (1000000 : Int32)) s 0 q1 = 1000000)) (Q' := fun q1 => decide (¬ u1 (u1 (fun _ => (1000000 : Int32)) s 0) s 1000000 q1 = 1000000)) (n := 120) (k := s) hs (by rw [u1_s]; decide) (by rw [u1_s]; decide) (fun j hj => by rw [u1_n _ _ hj])
        rw [← w, cnt_none (fun j hj => ?_)]
        by_cases e : j = s
        · rw [e, u1_s]; decide
        · rw [u1_n _ _ e, u1_n _ _ e]; decide
  obtain ⟨T', Q, n, r1, r2⟩ := mask_out x f R p G hp hW hG h91 v s 120 0 20000 1 _ _ (by omega) (by omega) (by omega) hF
  rw [show iN 0 = 0 from rfl, show iN 1 = 1 from rfl] at r1
  rw [show iN 0 = 0 from rfl] at d1
  have h120 := r2.2.1
  have key : ∀ j, j < n → ¬ (1000000 : Int32) ≤ T'.2.1 148 (Q j) := fun j hj z => by
    obtain ⟨d, e1, e2⟩ := (r2.2.2.1 j hj).2.2.1
    rw [e2] at z
    have := (iN_le (m := 1000000) (by omega) (by omega)).mp z
    omega
  refine ⟨T', fun q => decide (¬ (1000000 : Int32) ≤ T'.2.1 148 q), ?_, r2.1, fun q hq => by simp, fun gl => ⟨fun ⟨q, q1, q2, q3⟩ => ?_, fun ⟨m, c, hh⟩ => ?_⟩⟩
  · show lfX11_laysGone_130_2 x 20000 T (iN s) v 0 = _
    rw [d1, r1]
  · rcases r2.2.2.2.1 q q1 with z | ⟨j, z1, z2⟩
    · have q2 := of_decide_eq_true q2
      rw [z] at q2
      exact absurd (show (1000000 : Int32) ≤ 1000000 by decide) q2
    · exact (r2.2.2.1 j z1).2.2.2 gl ⟨0, 0, by rw [z2]; exact q3, rfl⟩
  · obtain ⟨j, j1, j2⟩ := r2.fw hG m 0 c (by omega) (by rw [r2.2.2.2.2.2.1]; exact hh)
    exact ⟨Q j, (r2.2.2.1 j j1).1, decide_eq_true (key j j1), j2⟩
/-- the class: is there a WAY -/
theorem find_has (x : XT) (f : Nat → Int32) (R : RF) (p G : Nat) (hp : p < 5) (hW : WF f) (hG : G ≤ 10) (h91 : f 91 = iN G) (b c : Int32) (S : ST) (hS : BC x S f R p) : ∃ r S', gfX6_find_54 x S b c = some (r, S') ∧ BC x S' f R p ∧ (r = -1 ↔ ¬ Hw R f p G (fun q => bG q b c) (pl0 f p)) := by
  have hs := pl0_lt hW p hp
  rcases find_eq x f R p G hp hW hG h91 b c S hS with ⟨S', e1, e2, e3, e4⟩ | ⟨e0, S', t, e1, S1, Q, P, H, D, n, i, g, d1, d2, d3, d4, d5, d6, d7, d8⟩ | ⟨e0, S', Q, P, H, D, n, e1, e2⟩
  · refine ⟨_, S', e1, e4, fun z => absurd z (iN_m1 (by omega)), fun z => absurd ⟨0, 0, e2, rfl⟩ z⟩
  · refine ⟨_, S', e1, ?_, fun z => absurd z (iN_m1 (by omega)), fun z => absurd ?_ z⟩
    · have aS : Agr ([], [72, 73, 74], [], []) S1 S' := by
        rw [d8]
        exact Agr.i (S1 := (S1.1, u2 (u2 S1.2.1 72 t (iN (D i + 1))) 73 t (iN g), S1.2.2.1, S1.2.2.2)) (Agr.i (S1 := (S1.1, u2 S1.2.1 72 t (iN (D i + 1)), S1.2.2.1, S1.2.2.2)) (Agr.i Agr.rf 72 t _ (by decide)) 73 t _ (by decide)) 74 t _ (by decide)
      exact d1.1.cg (aS.sm (by decide)) (aS.1 54 2 (by decide)) (aS.2.1 70 (by decide))
    · have pt : Pt R f p G (wt R f p 0) (fun q => bG q b c) 1 (Q i) 1 := Pt.cons d3 d4 d5 ⟨d7, rfl⟩
      exact ⟨_, _, d1.bk i i 1 (Nat.le_refl _) d2 pt⟩
  · refine ⟨_, S', e1, e2.1, fun _ => fun ⟨m, c', z⟩ => ?_, fun _ => rfl⟩
    have h120 := e2.2.1
    exact e2.no (w := wt R f p 0) hG m 0 c' (by omega) (by rw [e2.2.2.2.2.2.1.1]; exact z)
end MASK
