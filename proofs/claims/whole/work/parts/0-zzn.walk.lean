section WALK
def chn (P : Nat → Nat) (i : Nat) : Nat → Nat
  | 0 => i
  | m + 1 => P (chn P i m)
def cpl (P Q : Nat → Nat) (i t : Nat) : Nat → Nat
  | 0 => t
  | m + 1 => Q (chn P i m)
def lgt (P H : Nat → Nat) (i g : Nat) : Nat → Nat
  | 0 => g
  | m + 1 => H (chn P i m)
theorem FG.c1 {x : XT} {S : ST} {f : Nat → Int32} {R : RF} {p G s : Nat} {gl : Nat → Bool} {Q P H D : Nat → Nat} {n e i : Nat} (h : FG x S f R p G s gl Q P H D n e) (hi : i < n) : ∀ m, m ≤ D i → chn P i m < n ∧ D (chn P i m) + m = D i
  | 0, _ => ⟨hi, rfl⟩
  | m + 1, hm => by
    obtain ⟨a1, a2⟩ := FG.c1 h hi m (by omega)
    have ne : chn P i m ≠ 0 := fun z => by
      rw [z, h.2.2.2.2.2.1.2] at a2
      omega
    obtain ⟨b1, -, -, b4, -⟩ := h.2.2.2.2.2.2.1 (chn P i m) (by omega) a1
    rw [chn]
    exact ⟨by omega, by omega⟩
theorem FG.c0 {x : XT} {S : ST} {f : Nat → Int32} {R : RF} {p G s : Nat} {gl : Nat → Bool} {Q P H D : Nat → Nat} {n e i : Nat} (h : FG x S f R p G s gl Q P H D n e) (hi : i < n) (m : Nat) (hm : m < D i) : 0 < chn P i m := by
  obtain ⟨a1, a2⟩ := h.c1 hi m (by omega)
  rcases Nat.eq_zero_or_pos (chn P i m) with z | z
  · rw [z, h.2.2.2.2.2.1.2] at a2
    omega
  · exact z
/-- an entry ahead of the chain has no row as short -/
theorem FG.c2 {x : XT} {S : ST} {f : Nat → Int32} {R : RF} {p G s : Nat} {gl : Nat → Bool} {Q P H D : Nat → Nat} {n i g : Nat} (h : FG x S f R p G s gl Q P H D n (10 * i + g)) (hG : G ≤ 10) (hi : i < n) : ∀ m, m ≤ D i → ∀ j, j < chn P i m → ¬ Pt R f p G (wt R f p 0) gl (m + 1) (Q j) (m + 1)
  | 0, _, j, hj => fun ⟨g', q', c', h1, h2, h3, h4, h5⟩ => by
    have hj : j < i := hj
    obtain ⟨j', c1, c2, c3, -⟩ := h.ch hG (by omega) h1 h2 (by omega) h3
    have := (h.2.2.1 j' c1).2.2.2.2
    rw [c2, h4.1] at this
    cases this
  | m + 1, hm, j, hj => fun ⟨g', q', c', h1, h2, h3, h4, h5⟩ => by
    obtain ⟨a1, a2⟩ := h.c1 hi m (by omega)
    have a0 := h.c0 hi m (by omega)
    obtain ⟨b1, b2, b3, b4, b5, b6, b7⟩ := h.2.2.2.2.2.2.1 (chn P i m) a0 a1
    have hj : j < P (chn P i m) := hj
    obtain ⟨j', c1, c2, c3, c4⟩ := h.ch hG (by omega) h1 h2 (by omega) h3
    have ec := Pt1 h4
    subst ec
    refine FG.c2 h hG hi m (by omega) j' ?_ (by rw [c2]; exact h4)
    rcases c4 with z | z
    · omega
    · rcases Nat.lt_or_ge j' (chn P i m) with y | y
      · exact y
      · by_cases ye : chn P i m = j'
        · rw [← ye] at z; omega
        · have := h.2.2.2.2.2.2.2.1 (chn P i m) j' a0 (by omega) c1
          omega
theorem FG.c3 {x : XT} {S : ST} {f : Nat → Int32} {R : RF} {p G s : Nat} {gl : Nat → Bool} {Q P H D : Nat → Nat} {n i g t : Nat} (h : FG x S f R p G s gl Q P H D n (10 * i + g)) (hi : i < n) (hg : g < G) (ht : t < 120) (en : nx R f p g (Q i) = iN t) (hgl : gl t = true) : ∀ m, m ≤ D i → Pt R f p G (wt R f p 0) gl (m + 1) (Q (chn P i m)) (m + 1)
  | 0, _ => Pt.cons hg ht en ⟨hgl, rfl⟩
  | m + 1, hm => by
    obtain ⟨a1, a2⟩ := h.c1 hi m (by omega)
    have a0 := h.c0 hi m (by omega)
    obtain ⟨b1, b2, b3, -⟩ := h.2.2.2.2.2.2.1 (chn P i m) a0 a1
    exact Pt.cons b2 (h.2.2.1 _ a1).1 b3 (FG.c3 h hi hg ht en hgl m (by omega))
/-- all that the walk needs, without cells of the class -/
def Wk (f : Nat → Int32) (R : RF) (p G : Nat) (L A B C : Nat → Nat) (K : Nat) : Prop := (∀ m, m ≤ K → A m < 120 ∧ C m < 120 ∧ B m < G ∧ L (A m) = m + 1 ∧ L (C m) = m ∧ nx R f p (B m) (A m) = iN (C m) ∧ ∀ g' q', g' < B m → q' < 120 → nx R f p g' (A m) = iN q' → ¬ L q' = m) ∧ (∀ m, C (m + 1) = A m)
theorem FG.wk {x : XT} {S : ST} {f : Nat → Int32} {R : RF} {p G s : Nat} {gl : Nat → Bool} {Q P H D : Nat → Nat} {n i g t : Nat} (h : FG x S f R p G s gl Q P H D n (10 * i + g)) (hG : G ≤ 10) (hi : i < n) (hg : g < G) (ht : t < 120) (en : nx R f p g (Q i) = iN t) (hgl : gl t = true) (L : Nat → Nat) (h0 : ∀ q, q < 120 → gl q = true → L q = 0) (h1 : ∀ q, q < 120 → L q = 1000000 ∨ Pth R f p G (wt R f p 0) gl q (L q)) (h2 : ∀ q g, q < 120 → g < G → OkE R f p (wt R f p 0) L g q) : Wk f R p G L (fun m => Q (chn P i m)) (lgt P H i g) (cpl P Q i t) (D i) := by
  have hn := h.2.1
  have dI := (h.2.2.1 i hi).2.2.2.1
  have lA : ∀ m, m ≤ D i → L (Q (chn P i m)) = m + 1 := by
    intro m hm
    obtain ⟨a1, a2⟩ := h.c1 hi m hm
    have hq := (h.2.2.1 _ a1).1
    have up := left_min h0 h2 _ _ _ hq (h.c3 hi hg ht en hgl m hm)
    rcases h1 _ hq with z | ⟨k, z⟩
    · omega
    · have em := Pt1 z
      rw [em] at z
      have := h.lo hG k (chn P i m) a1 z
      omega
  have lC : ∀ m, m ≤ D i → L (cpl P Q i t m) = m ∧ cpl P Q i t m < 120 := by
    intro m hm
    cases m with
    | zero => exact ⟨h0 t ht hgl, ht⟩
    | succ m => exact ⟨lA m (by omega), (h.2.2.1 _ (h.c1 hi m (by omega)).1).1⟩
  refine ⟨fun m hm => ?_, fun m => rfl⟩
  obtain ⟨a1, a2⟩ := h.c1 hi m hm
  refine ⟨(h.2.2.1 _ a1).1, (lC m hm).2, ?_, lA m hm, (lC m hm).1, ?_, fun g' q' hg' hq' e' hL => ?_⟩
  · cases m with
    | zero => exact hg
    | succ m => exact (h.2.2.2.2.2.2.1 _ (h.c0 hi m (by omega)) (h.c1 hi m (by omega)).1).2.1
  · cases m with
    | zero => exact en
    | succ m => exact (h.2.2.2.2.2.2.1 _ (h.c0 hi m (by omega)) (h.c1 hi m (by omega)).1).2.2.1
  · have pt : Pt R f p G (wt R f p 0) gl m q' m := by
      rcases h1 q' hq' with z | ⟨k, z⟩
      · omega
      · have em := Pt1 z
        have ek : k = m := by omega
        rw [em, ek] at z
        exact z
    cases m with
    | zero =>
      have hg' : g' < g := hg'
      have e' : nx R f p g' (Q i) = iN q' := e'
      obtain ⟨j', c1, c2, c3, -⟩ := h.ch hG hi (by omega) hq' (by omega) e'
      have := (h.2.2.1 j' c1).2.2.2.2
      rw [c2, pt.1] at this
      cases this
    | succ m =>
      obtain ⟨a3, a4⟩ := h.c1 hi m (by omega)
      have a0 := h.c0 hi m (by omega)
      obtain ⟨b1, b2, b3, b4, b5, b6, b7⟩ := h.2.2.2.2.2.2.1 (chn P i m) a0 a3
      have hg' : g' < H (chn P i m) := hg'
      have e' : nx R f p g' (Q (P (chn P i m))) = iN q' := e'
      obtain ⟨j', c1, c2, c3, c4⟩ := h.ch hG (by omega) (by omega) hq' (by omega) e'
      refine h.c2 hG hi m (by omega) j' ?_ (by rw [c2]; exact pt)
      rcases c4 with z | z
      · omega
      · rcases Nat.lt_or_ge j' (chn P i m) with y | y
        · exact y
        · by_cases ye : chn P i m = j'
          · rw [← ye] at z; omega
          · have := h.2.2.2.2.2.2.2.1 (chn P i m) j' a0 (by omega) c1
            omega
/-- the reference looks for the GATE -/
theorem way_in (x : XT) (T : ST) (f : Nat → Int32) (R : RF) (p G : Nat) (hW : WF f) (hG : G ≤ 10) (hT : BR T f R p G) (L : Nat → Nat) (hL : ∀ q, q < 120 → T.2.1 147 q = iN (L q)) (hL2 : ∀ q, q < 120 → L q ≤ 1000000) (k99 : ST → Int32 → Int32 → Int32 → Int32 → Option (Int32 × ST)) (v4 v7 : Int32) (a m gt q : Nat) (ha : a < 120) (hq : q < 120) (hg : gt < G) (la : L a = m + 1) (lq : L q = m) (en : nx R f p gt a = iN q) (mn : ∀ g' q', g' < gt → q' < 120 → nx R f p g' a = iN q' → ¬ L q' = m) : ∀ (d g fuel : Nat), g + d = gt → d < fuel → lfX11_way_130_109 x k99 fuel T v4 (iN a) (iN g) v7 = k99 T v4 (iN q) (iN gt) (v7 + 1)
  | 0, g, fuel, h1, h2 => by
    obtain ⟨fuel, rfl⟩ : ∃ z, fuel = z + 1 := ⟨fuel - 1, by omega⟩
    have e : g = gt := by omega
    subst e
    have w1 := hL2 a ha
    rw [lfX11_way_130_109, bfX11_way_130_109]
    simp only [next_eq x T f R p G hG hT g a hg ha, en]
    rw [if_neg (iN_m1 (by omega)), inb_t hq (by omega), inb_t ha (by omega), cond_true, cond_true, iN_nat (by omega), iN_nat (by omega), hL q hq, hL a ha, la, lq, show iN (m + 1) - 1 = iN m from iN_sub (m := m + 1) (n := 1) (by omega), if_pos rfl]
  | d + 1, g, fuel, h1, h2 => by
    obtain ⟨fuel, rfl⟩ : ∃ z, fuel = z + 1 := ⟨fuel - 1, by omega⟩
    have w1 := hL2 a ha
    have rest := way_in x T f R p G hW hG hT L hL hL2 k99 v4 v7 a m gt q ha hq hg la lq en mn d (g + 1) fuel (by omega) (by omega)
    rw [lfX11_way_130_109, bfX11_way_130_109]
    simp only [next_eq x T f R p G hG hT g a (by omega) ha]
    unfold bfX11_way_130_146
    rw [iN_succ]
    rcases nx_in hW p g a (R := R) (by omega) with z | ⟨q', z1, z2⟩
    · rw [if_pos z]
      exact rest
    · have w2 := hL2 q' z1
      rw [z2, if_neg (iN_m1 (by omega)), inb_t z1 (by omega), inb_t ha (by omega), cond_true, cond_true, iN_nat (by omega), iN_nat (by omega), hL q' z1, hL a ha, la, show iN (m + 1) - 1 = iN m from iN_sub (m := m + 1) (n := 1) (by omega), if_neg (fun y => mn g q' (by omega) z1 z2 ((iN_eq (by omega) (by omega)).mp y))]
      exact rest
theorem way_out (x : XT) (T : ST) (f : Nat → Int32) (R : RF) (p G : Nat) (hW : WF f) (hG : G ≤ 10) (hT : BR T f R p G) (L : Nat → Nat) (hL : ∀ q, q < 120 → T.2.1 147 q = iN (L q)) (hL2 : ∀ q, q < 120 → L q ≤ 1000000) (A B C : Nat → Nat) (K : Nat) (hK : K ≤ 120) (hw : Wk f R p G L A B C K) (ix : Nat) : ∀ (d m k fuel : Nat) (v6 : Int32), k + m = K → k + d = ix → d ≤ m → d + 1 < fuel → lfX11_way_130_99 x fuel T (iN ix) (iN (A m)) v6 (iN k) = some (iN (B (m - d)), T)
  | 0, m, k, fuel, v6, h1, h2, h3, h4 => by
    obtain ⟨fuel, rfl⟩ : ∃ z, fuel = z + 2 := ⟨fuel - 2, by omega⟩
    have e : k = ix := by omega
    subst e
    obtain ⟨a1, a2, a3, a4, a5, a6, a7⟩ := hw.1 m (by omega)
    have r := way_in x T f R p G hW hG hT L hL hL2 (lfX11_way_130_99 x (fuel + 1)) (iN k) (iN k) (A m) m (B m) (C m) a1 a2 a3 a4 a5 a6 a7 (B m) 0 20000 (by omega) (by omega)
    rw [show iN 0 = 0 from rfl] at r
    rw [lfX11_way_130_99, bfX11_way_130_99, if_neg (fun z => by have := (iN_lt (by omega) (by omega)).mp z; omega), r, iN_succ, lfX11_way_130_99, bfX11_way_130_99, if_pos ((iN_lt (by omega) (by omega)).mpr (by omega)), Nat.sub_zero]
  | d + 1, m, k, fuel, v6, h1, h2, h3, h4 => by
    obtain ⟨fuel, rfl⟩ : ∃ z, fuel = z + 1 := ⟨fuel - 1, by omega⟩
    obtain ⟨m, rfl⟩ : ∃ z, m = z + 1 := ⟨m - 1, by omega⟩
    obtain ⟨a1, a2, a3, a4, a5, a6, a7⟩ := hw.1 (m + 1) (by omega)
    have r := way_in x T f R p G hW hG hT L hL hL2 (lfX11_way_130_99 x fuel) (iN ix) (iN k) (A (m + 1)) (m + 1) (B (m + 1)) (C (m + 1)) a1 a2 a3 a4 a5 a6 a7 (B (m + 1)) 0 20000 (by omega) (by omega)
    rw [show iN 0 = 0 from rfl] at r
    rw [lfX11_way_130_99, bfX11_way_130_99, if_neg (fun z => by have := (iN_lt (by omega) (by omega)).mp z; omega), r, iN_succ, hw.2 m, way_out x T f R p G hW hG hT L hL hL2 A B C K hK hw ix d m (k + 1) fuel _ (by omega) (by omega) (by omega) (by omega), show m + 1 - (d + 1) = m - d by omega]
/-- the class goes back along the PLACES ahead -/
theorem gate_back (x : XT) (S : ST) (B C : Nat → Nat) (K : Nat) (hK : K ≤ 120) (h73 : ∀ m, m ≤ K → C m < 120 ∧ S.2.1 73 (C m) = iN (B m)) (h74 : ∀ m, m ≤ K → S.2.1 74 (C m) = iN (C (m + 1))) (ix : Nat) : ∀ (d m k fuel : Nat), k + m = K → ix + d = k → d < fuel → lfX6_wayGate_54_42 x fuel S (iN ix) (iN (C m)) (iN k) = some (iN (B (m + d)), S)
  | 0, m, k, fuel, h1, h2, h3 => by
    obtain ⟨fuel, rfl⟩ : ∃ z, fuel = z + 1 := ⟨fuel - 1, by omega⟩
    obtain ⟨a1, a2⟩ := h73 m (by omega)
    rw [lfX6_wayGate_54_42, bfX6_wayGate_54_42, if_pos ((iN_le (by omega) (by omega)).mpr (by omega)), inb_t a1 (by omega), cond_true, iN_nat (by omega), a2, Nat.add_zero m]
  | d + 1, m, k, fuel, h1, h2, h3 => by
    obtain ⟨fuel, rfl⟩ : ∃ z, fuel = z + 1 := ⟨fuel - 1, by omega⟩
    obtain ⟨a1, a2⟩ := h73 m (by omega)
    rw [lfX6_wayGate_54_42, bfX6_wayGate_54_42, if_neg (fun z => by have := (iN_le (by omega) (by omega)).mp z; omega), inb_t a1 (by omega), cond_true, iN_nat (by omega), h74 m (by omega), iN_pred (by omega), gate_back x S B C K hK h73 h74 ix d (m + 1) (k - 1) fuel (by omega) (by omega) (by omega), show m + 1 + d = m + (d + 1) by omega]
end WALK
