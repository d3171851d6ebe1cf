section TESTS
theorem aim_m1 (x : XT) (S : ST) : gfX9_aim_25 x S (-1) = some ((), S) := by
  unfold gfX9_aim_25 bfX9_aim_25_0 bfX9_aim_25_37
  rw [if_pos (by decide)]
def amS (S : ST) (p : Nat) (v : Int32) : ST := (S.1, u2 S.2.1 29 p v, S.2.2.1, S.2.2.2)
theorem amS_agr (S : ST) (p : Nat) (v : Int32) : Agr wPc S (amS S p v) := Agr.i Agr.rf 29 p v (by decide)
theorem aim_eq (x : XT) (S : ST) (p b r : Nat) (h : S.1 25 1 = iN b) (hp : p < b) (hb : b ≤ 400) (hr : r < 512) (hc : S.2.1 29 p = iN r) : gfX9_aim_25 x S (iN p) = some ((), amS S p (iN (r + 512 * b))) := by
  unfold gfX9_aim_25 bfX9_aim_25_0 bfX9_aim_25_37
  have e : iN r - iN r / 512 * 512 = iN r := by
    have := iN_mod (m := r) (n := 512) (by omega) (by omega)
    rw [Nat.mod_eq_of_lt hr] at this
    exact this
  rw [if_neg (iN_nn (by omega)), h, if_neg (fun z => by have := (iN_le (by omega) (by omega)).mp z; omega), inb_t (show p < 400 by omega) (by omega), cond_true, cond_true, iN_nat (by omega), hc, e, w512]
  rfl
theorem PQ.am {S T : ST} {n : Nat} {o : Bool} {tk pl vv : Nat → Nat} {i l a : Nat} (h : PQ S T n o tk pl vv i l a) (p : Nat) (v : Int32) : PQ (amS S p v) T n o tk pl vv i l a := ⟨h.1.pq (amS_agr S p v) Agr.rf, h.2⟩
theorem amS_29 (S : ST) (a : Nat) (v : Int32) : (amS S a v).2.1 29 a = v := u2_s S.2.1 29 a v
theorem amS_29n (S : ST) (a : Nat) (v : Int32) {z : Nat} (h : z ≠ a) : (amS S a v).2.1 29 z = S.2.1 29 z := u2_k S.2.1 29 v h
def tlT (x : XT) (k5 : ST → Int32 → Int32 → Int32 → Int32 → Option (Int32 × ST)) (S : ST) (v1 v2 v4 : Int32) : Option (Int32 × ST) := match gfX4_here_24 x S with
  | none => none
  | some (r7, S8) => (if r7 = v2 then (match gfX9_add_25 x S8 v2 0 with
    | none => none
    | some (r12, S13) => (k5 ((u2 S13.1 24 6 ((S13.1 24 6) + 1)), S13.2.1, S13.2.2.1, S13.2.2.2) v1 v2 r12 (v4 + 1))) else (some (1, S8)))
theorem b44 (x : XT) (r0 : ST → Int32 → Int32 → Option (Int32 × ST)) (r1 r2 : ST → Int32 → Option (Int32 × ST)) (r3 : ST → Int32 → Int32 → Option (Int32 × ST)) (r4 r5 r6 : ST → Int32 → Option (Int32 × ST)) (k5 : ST → Int32 → Int32 → Int32 → Int32 → Option (Int32 × ST)) (S S4 : ST) (v1 v2 v3 v4 : Int32) (h : gfX9_aim_25 x S v3 = some ((), S4)) : bfX4_test_24_44 x r0 r1 r2 r3 r4 r5 r6 k5 S v1 v2 v3 v4 = tlT x k5 S4 v1 v2 v4 := by
  unfold bfX4_test_24_44 tlT
  rw [h]
  dsimp only
  cases gfX4_here_24 x S4 with
  | none => rfl
  | some q =>
    obtain ⟨r7, S8⟩ := q
    dsimp only
    by_cases c : r7 = v2
    · rw [if_pos c, if_pos c]
      cases gfX9_add_25 x S8 v2 0 with
      | none => rfl
      | some q => rfl
    · rw [if_neg c, if_neg c]
theorem nf_oloop (x : XT) (q1 q2 q3 : ST → Int32 → Option (Unit × ST)) (T : ST) (h : ¬ T.1 130 21 = -1) (fuel : Nat) (v : Int32) : lfX11_readTest_130_5 x q1 q2 q3 (fuel + 1) T v = some ((), T) := by
  rw [lfX11_readTest_130_5, bfX11_readTest_130_5, takes_nf x T h]
  dsimp only
  rw [if_pos rfl]
theorem nf_bloop (x : XT) (q1 q2 q3 : ST → Int32 → Option (Unit × ST)) (T : ST) (h : ¬ T.1 130 21 = -1) (fuel : Nat) (v : Int32) : lfX11_readBoth_130_5 x q1 q2 q3 (fuel + 1) T v = some ((), T) := by
  rw [lfX11_readBoth_130_5, bfX11_readBoth_130_5, takes_nf x T h]
  dsimp only
  rw [if_pos rfl]
def HPl (x : XT) (n : Nat) (o : Bool) (tk pl vv : Nat → Nat) (dp : Nat) : Prop := ∀ S T i l a N1 N2, PQ S T n o tk pl vv i l a → 6 + 4 * dp ≤ N1 → 1 + 3 * dp ≤ N2 → Out n o tk pl vv S T 4 dp i l a (gqX4_test_24 x N1 1 S (iN (8 - dp)) 0) (gqX11_readTest_130 x N2 2 T (iN (8 - dp)) 0)
def HTA (x : XT) (n : Nat) (o : Bool) (tk pl vv : Nat → Nat) (dp : Nat) : Prop := ∀ S T i l a N1 N2, PQ S T n o tk pl vv i l a → 7 + 4 * dp ≤ N1 → 2 + 3 * dp ≤ N2 → Out n o tk pl vv S T 5 dp i l a (gqX4_test_24 x N1 0 S (iN (8 - dp)) 272) (gqX11_readTest_130 x N2 1 T (iN (8 - dp)) 0)
def HTO (x : XT) (n : Nat) (o : Bool) (tk pl vv : Nat → Nat) (dp : Nat) : Prop := ∀ S T i l a N1 N2, PQ S T n o tk pl vv i l a → 8 + 4 * dp ≤ N1 → 3 + 3 * dp ≤ N2 → Out n o tk pl vv S T 6 dp i l a (gqX4_test_24 x N1 0 S (iN (8 - dp)) 271) (gqX11_readTest_130 x N2 0 T (iN (8 - dp)) 0)
def LAnd (x : XT) (n : Nat) (o : Bool) (tk pl vv : Nat → Nat) (dp : Nat) (S0 T0 : ST) (i0 l0 a0 : Nat) (v1 : Int32) (r0 : ST → Int32 → Int32 → Option (Int32 × ST)) (r1 r2 : ST → Int32 → Option (Int32 × ST)) (r3 : ST → Int32 → Int32 → Option (Int32 × ST)) (r4 r5 r6 : ST → Int32 → Option (Int32 × ST)) (q1 q2 q3 : ST → Int32 → Option (Unit × ST)) (m : Nat) : Prop := ∀ (S T : ST) (k p : Nat) (D : DN) (N f1 f2 c : Nat), PQ S T n o tk pl vv m (l0 + k) p → p + i0 ≤ a0 + m → Gr o (T0.2.1 139) (T0.2.1 140) (S.2.1 29) N dp 5 i0 m a0 p k D → (∀ z, z < a0 → S.2.1 29 z = S0.2.1 29 z) → Agr wPc S0 S → Agr wPr T0 T → n + 1 < f1 + m → n + 1 < f2 + m → c < m → Out n o tk pl vv S0 T0 5 dp i0 l0 a0 (tlT x (lfX4_test_24_5 x r0 r1 r2 r3 r4 r5 r6 f1) S v1 272 (iN c)) (lfX11_readBoth_130_5 x q1 q2 q3 f2 T v1)
theorem andz_step (x : XT) (n : Nat) (o : Bool) (tk pl vv : Nat → Nat) (dp : Nat) (S0 T0 : ST) (i0 l0 a0 : Nat) (ha0 : a0 ≤ i0) (v1 : Int32) (r0 : ST → Int32 → Int32 → Option (Int32 × ST)) (r1 r2 : ST → Int32 → Option (Int32 × ST)) (r3 : ST → Int32 → Int32 → Option (Int32 × ST)) (r4 r5 r6 : ST → Int32 → Option (Int32 × ST)) (q1 q2 q3 : ST → Int32 → Option (Unit × ST)) (hr : ∀ S T i l a, PQ S T n o tk pl vv i l a → Out n o tk pl vv S T 4 dp i l a (r1 S v1) (q3 T v1)) (m : Nat) (IH : ∀ m', m < m' → LAnd x n o tk pl vv dp S0 T0 i0 l0 a0 v1 r0 r1 r2 r3 r4 r5 r6 q1 q2 q3 m') : LAnd x n o tk pl vv dp S0 T0 i0 l0 a0 v1 r0 r1 r2 r3 r4 r5 r6 q1 q2 q3 m := by
  intro S T k p D N f1 f2 c h hp hg hz a1 a2 hf1 hf2 hc
  have hn := h.1.1
  have hm := h.2.2.2.2.2.2.2.1
  have ht := h.t
  obtain ⟨f1, rfl⟩ : ∃ z, f1 = z + 1 := ⟨f1 - 1, by omega⟩
  obtain ⟨f2, rfl⟩ : ∃ z, f2 = z + 2 := ⟨f2 - 2, by omega⟩
  have tz := takez_eq x h 272 (by omega) (by decide)
  have tz : gfX11_takes0_130 x T 6 = if tk m = 272 then some (1, nwT T (m + 1)) else some (0, T) := tz
  rw [lfX11_readBoth_130_5, bfX11_readBoth_130_5, tz]
  unfold tlT
  rw [here_eq x h]
  dsimp only
  by_cases s0 : tk m = 272
  · have hmn := h.lt (by omega)
    have lt1 := hg.ltt
    have p400 : p < 400 := by omega
    rw [if_pos (show iN (tk m) = 272 by rw [s0]; rfl), if_pos s0, add_eq x S p 272 0 h.2.2.2.1 p400, show (272 : Int32) + 512 * 0 = iN 272 from rfl]
    dsimp only
    rw [if_neg (show ¬ (1 : Int32) = 0 by decide), adS_now S p _ m h.2.1, iN_succ c]
    have h1 := h.lf (m + 1) (by omega) (by omega) (iN 272)
    have n400 : ¬ (400 : Int32) < iN (c + 1) := fun z => by have := (iN_lt (m := 400) (by omega) (by omega)).mp z; omega
    rw [lfX4_test_24_5, bfX4_test_24_5, if_neg n400, if_pos (show ¬ (272 : Int32) = 271 by decide)]
    rcases hr _ _ _ _ _ h1 with ⟨S', T', j, k2, b, d, N', g1, g2, g3, g4, g5, g6, g7, g8⟩ | ⟨S', T', kf, a', g1, g2, g3, g4, g5, g6, g7, g8, g9⟩
    · have g1 : r1 (u2 (adS S p (iN 272)).1 24 6 (iN (m + 1)), (adS S p (iN 272)).2.1, (adS S p (iN 272)).2.2.1, (adS S p (iN 272)).2.2.2) v1 = some (1, S') := g1
      have hj := g3.2.2.2.2.2.2.2.1
      have lt2 := g5.ltt
      have g6 : ∀ z, z < p + 1 → S'.2.1 29 z = (adS S p (iN 272)).2.1 29 z := g6
      have cp : S'.2.1 29 p = iN (271 + 1) := by rw [g6 p (by omega), adS_29]
      rw [g1, g2]
      dsimp only
      rw [if_pos (show ¬ (1 : Int32) = 0 by decide), b44 x r0 r1 r2 r3 r4 r5 r6 _ S' _ v1 272 (iN p) (iN (c + 1)) (aim_eq x S' p b (271 + 1) g3.2.2.2.1 (by omega) (by have := g3.2.2.2.2.2.2.2.2.2; omega) (by omega) cp)]
      have b1 : Agr wPc S0 S' := a1.tr (((adS_agr S p _).tr (nwS_agr _ (m + 1))).tr g7)
      have b2 : Agr wPr T0 T' := a2.tr ((nwT_agr T (m + 1)).tr g8)
      have g5 : Gr o (T.2.1 139) (T.2.1 140) (S'.2.1 29) N' dp 4 (m + 1) j (p + 1) b k2 d := g5
      rw [a2.2.1 139 (by decide), a2.2.1 140 (by decide)] at g5
      have hpq := g3.am p (iN (271 + 1 + 512 * b))
      rw [Nat.add_assoc l0] at hpq
      refine IH j (by omega) (amS S' p (iN (271 + 1 + 512 * b))) T' (k + k2) b (sD 1 D d) (N + N' + 1) f1 (f2 + 1) (c + 1) hpq (by omega) ?_ (fun z hz2 => ?_) (b1.tr (amS_agr _ _ _)) b2 (by omega) (by omega) (by omega)
      · have l1 : Gr o (T0.2.1 139) (T0.2.1 140) ((amS S' p (iN (271 + 1 + 512 * b))).2.1 29) (N + N') dp 5 i0 m a0 p k D := (hg.cs (fun z z1 z2 => by rw [amS_29n S' p _ (by omega), g6 z (by omega), adS_29n S p _ (by omega)])).le (by omega)
        have l2 : Gr o (T0.2.1 139) (T0.2.1 140) ((amS S' p (iN (271 + 1 + 512 * b))).2.1 29) (N + N') dp 4 (m + 1) j (p + 1) b k2 d := (g5.cs (fun z z1 z2 => by rw [amS_29n S' p _ (by omega)])).le (by omega)
        have cdm : T0.2.1 139 m = iN 6 := by rw [← a2.2.1 139 (by decide), ht.2.2.2.1, s0]; rfl
        exact Or.inr (Or.inr (Or.inr (Or.inr (Or.inr (Or.inl ⟨rfl, Or.inr ⟨m, p, k, k2, D, d, l1, cdm, amS_29 S' p _, l2, rfl, rfl⟩⟩)))))
      · rw [amS_29n S' p _ (by omega), g6 z (by omega), adS_29n S p _ (by omega)]; exact hz z hz2
    · have g1 : r1 (u2 (adS S p (iN 272)).1 24 6 (iN (m + 1)), (adS S p (iN 272)).2.1, (adS S p (iN 272)).2.2.1, (adS S p (iN 272)).2.2.2) v1 = some (0, S') := g1
      rw [g1, g2]
      dsimp only
      rw [if_neg (show ¬ ¬ (0 : Int32) = 0 from fun z => z rfl), nf_bloop x _ _ _ T' (nf_of g4 g5)]
      unfold bfX4_test_24_42
      exact Or.inr ⟨S', T', kf, a', rfl, rfl, g3, g4, g5, g6, g7, a1.tr (((adS_agr S p _).tr (nwS_agr _ (m + 1))).tr g8), a2.tr ((nwT_agr T (m + 1)).tr g9)⟩
  · rw [if_neg (show ¬ iN (tk m) = 272 from fun z => s0 ((iN_eq (n := 272) (by omega) (by omega)).mp z)), if_neg s0]
    dsimp only
    rw [if_pos rfl]
    exact Or.inl ⟨S, T, m, k, p, D, N, rfl, rfl, h, hp, hg, hz, a1, a2⟩
theorem andz_all (x : XT) (n : Nat) (o : Bool) (tk pl vv : Nat → Nat) (dp : Nat) (S0 T0 : ST) (i0 l0 a0 : Nat) (ha0 : a0 ≤ i0) (v1 : Int32) (r0 : ST → Int32 → Int32 → Option (Int32 × ST)) (r1 r2 : ST → Int32 → Option (Int32 × ST)) (r3 : ST → Int32 → Int32 → Option (Int32 × ST)) (r4 r5 r6 : ST → Int32 → Option (Int32 × ST)) (q1 q2 q3 : ST → Int32 → Option (Unit × ST)) (hr : ∀ S T i l a, PQ S T n o tk pl vv i l a → Out n o tk pl vv S T 4 dp i l a (r1 S v1) (q3 T v1)) : ∀ (d m : Nat), n ≤ m + d → LAnd x n o tk pl vv dp S0 T0 i0 l0 a0 v1 r0 r1 r2 r3 r4 r5 r6 q1 q2 q3 m
  | 0, m, hm => andz_step x n o tk pl vv dp S0 T0 i0 l0 a0 ha0 v1 r0 r1 r2 r3 r4 r5 r6 q1 q2 q3 hr m (fun m' hlt S T k p D N f1 f2 c h => by
    have := h.2.2.2.2.2.2.2.1
    omega)
  | d + 1, m, hm => andz_step x n o tk pl vv dp S0 T0 i0 l0 a0 ha0 v1 r0 r1 r2 r3 r4 r5 r6 q1 q2 q3 hr m (fun m' hlt => andz_all x n o tk pl vv dp S0 T0 i0 l0 a0 ha0 v1 r0 r1 r2 r3 r4 r5 r6 q1 q2 q3 hr d m' (by omega))
theorem andz_ok (x : XT) (n : Nat) (o : Bool) (tk pl vv : Nat → Nat) (dp : Nat) (hP : HPl x n o tk pl vv dp) : HTA x n o tk pl vv dp := by
  intro S T i l a N1 N2 h h1 h2
  obtain ⟨N1, rfl⟩ : ∃ z, N1 = z + 1 := ⟨N1 - 1, by omega⟩
  obtain ⟨N2, rfl⟩ : ∃ z, N2 = z + 1 := ⟨N2 - 1, by omega⟩
  have hn := h.1.1
  rw [q4_test, q11_readBoth]
  unfold bfX4_test_24_0 bfX11_readBoth_130_0
  rw [lfX4_test_24_5, bfX4_test_24_5, if_neg (show ¬ (400 : Int32) < 0 by decide), if_pos (show ¬ (272 : Int32) = 271 by decide)]
  dsimp only
  rcases hP S T i l a N1 N2 h (by omega) (by omega) with ⟨S', T', j, k, b, d, N, g1, g2, g3, g4, g5, g6, g7, g8⟩ | ⟨S', T', kf, a', g1, g2, g3, g4, g5, g6, g7, g8, g9⟩
  · rw [g1, g2]
    dsimp only
    have hj := g3.2.2.2.2.2.2.2.1
    have lt2 := g5.ltt
    rw [if_pos (show ¬ (1 : Int32) = 0 by decide), b44 x _ _ _ _ _ _ _ _ S' S' _ _ (-1) 0 (aim_m1 x S')]
    have hg : Gr o (T.2.1 139) (T.2.1 140) (S'.2.1 29) (N + 1) dp 5 i j a b k d := Or.inr (Or.inr (Or.inr (Or.inr (Or.inr (Or.inl ⟨rfl, Or.inl g5⟩)))))
    have r := andz_all x n o tk pl vv dp S T i l a h.2.2.2.2.2.2.2.2.2 (iN (8 - dp)) (fun S z0 z1 => gqX4_test_24 x N1 0 S z0 z1) (fun S z0 => gqX4_test_24 x N1 1 S z0 0) (fun S z0 => gqX4_test_24 x N1 2 S z0 0) (fun S z0 z1 => gqX4_test_24 x N1 3 S z0 z1) (fun S z0 => gqX4_test_24 x N1 4 S z0 0) (fun S z0 => gqX4_test_24 x N1 5 S z0 0) (fun S z0 => gqX4_test_24 x N1 6 S z0 0) (fun S z0 => gqX11_readTest_130 x N2 0 S z0 0) (fun S z0 => gqX11_readTest_130 x N2 1 S z0 0) (fun S z0 => gqX11_readTest_130 x N2 2 S z0 0) (fun S T i l a h => hP S T i l a N1 N2 h (by omega) (by omega)) n j (by omega) S' T' k b d (N + 1) 19999 20000 0 g3 g4 hg g6 g7 g8 (by omega) (by omega) (by omega)
    rw [show iN 0 = 0 from rfl] at r
    exact r
  · rw [g1, g2]
    dsimp only
    rw [if_neg (show ¬ ¬ (0 : Int32) = 0 from fun z => z rfl), nf_bloop x _ _ _ T' (nf_of g4 g5) 19999]
    unfold bfX4_test_24_42
    exact Or.inr ⟨S', T', kf, a', rfl, rfl, g3, g4, g5, g6, g7, g8, g9⟩
def LOr (x : XT) (n : Nat) (o : Bool) (tk pl vv : Nat → Nat) (dp : Nat) (S0 T0 : ST) (i0 l0 a0 : Nat) (v1 : Int32) (r0 : ST → Int32 → Int32 → Option (Int32 × ST)) (r1 r2 : ST → Int32 → Option (Int32 × ST)) (r3 : ST → Int32 → Int32 → Option (Int32 × ST)) (r4 r5 r6 : ST → Int32 → Option (Int32 × ST)) (q1 q2 q3 : ST → Int32 → Option (Unit × ST)) (m : Nat) : Prop := ∀ (S T : ST) (k p : Nat) (D : DN) (N f1 f2 c : Nat), PQ S T n o tk pl vv m (l0 + k) p → p + i0 ≤ a0 + m → Gr o (T0.2.1 139) (T0.2.1 140) (S.2.1 29) N dp 6 i0 m a0 p k D → (∀ z, z < a0 → S.2.1 29 z = S0.2.1 29 z) → Agr wPc S0 S → Agr wPr T0 T → n + 1 < f1 + m → n + 1 < f2 + m → c < m → Out n o tk pl vv S0 T0 6 dp i0 l0 a0 (tlT x (lfX4_test_24_5 x r0 r1 r2 r3 r4 r5 r6 f1) S v1 271 (iN c)) (lfX11_readTest_130_5 x q1 q2 q3 f2 T v1)
theorem orz_step (x : XT) (n : Nat) (o : Bool) (tk pl vv : Nat → Nat) (dp : Nat) (S0 T0 : ST) (i0 l0 a0 : Nat) (ha0 : a0 ≤ i0) (v1 : Int32) (r0 : ST → Int32 → Int32 → Option (Int32 × ST)) (r1 r2 : ST → Int32 → Option (Int32 × ST)) (r3 : ST → Int32 → Int32 → Option (Int32 × ST)) (r4 r5 r6 : ST → Int32 → Option (Int32 × ST)) (q1 q2 q3 : ST → Int32 → Option (Unit × ST)) (hr : ∀ S T i l a, PQ S T n o tk pl vv i l a → Out n o tk pl vv S T 5 dp i l a (r0 S v1 272) (q2 T v1)) (m : Nat) (IH : ∀ m', m < m' → LOr x n o tk pl vv dp S0 T0 i0 l0 a0 v1 r0 r1 r2 r3 r4 r5 r6 q1 q2 q3 m') : LOr x n o tk pl vv dp S0 T0 i0 l0 a0 v1 r0 r1 r2 r3 r4 r5 r6 q1 q2 q3 m := by
  intro S T k p D N f1 f2 c h hp hg hz a1 a2 hf1 hf2 hc
  have hn := h.1.1
  have hm := h.2.2.2.2.2.2.2.1
  have ht := h.t
  obtain ⟨f1, rfl⟩ : ∃ z, f1 = z + 1 := ⟨f1 - 1, by omega⟩
  obtain ⟨f2, rfl⟩ : ∃ z, f2 = z + 2 := ⟨f2 - 2, by omega⟩
  have tz := takez_eq x h 271 (by omega) (by decide)
  have tz : gfX11_takes0_130 x T 5 = if tk m = 271 then some (1, nwT T (m + 1)) else some (0, T) := tz
  rw [lfX11_readTest_130_5, bfX11_readTest_130_5, tz]
  unfold tlT
  rw [here_eq x h]
  dsimp only
  by_cases s0 : tk m = 271
  · have hmn := h.lt (by omega)
    have lt1 := hg.ltt
    have p400 : p < 400 := by omega
    rw [if_pos (show iN (tk m) = 271 by rw [s0]; rfl), if_pos s0, add_eq x S p 271 0 h.2.2.2.1 p400, show (271 : Int32) + 512 * 0 = iN 271 from rfl]
    dsimp only
    rw [if_neg (show ¬ (1 : Int32) = 0 by decide), adS_now S p _ m h.2.1, iN_succ c]
    have h1 := h.lf (m + 1) (by omega) (by omega) (iN 271)
    have n400 : ¬ (400 : Int32) < iN (c + 1) := fun z => by have := (iN_lt (m := 400) (by omega) (by omega)).mp z; omega
    rw [lfX4_test_24_5, bfX4_test_24_5, if_neg n400, if_neg (fun z => z (show (271 : Int32) = 271 from rfl))]
    rcases hr _ _ _ _ _ h1 with ⟨S', T', j, k2, b, d, N', g1, g2, g3, g4, g5, g6, g7, g8⟩ | ⟨S', T', kf, a', g1, g2, g3, g4, g5, g6, g7, g8, g9⟩
    · have g1 : r0 (u2 (adS S p (iN 271)).1 24 6 (iN (m + 1)), (adS S p (iN 271)).2.1, (adS S p (iN 271)).2.2.1, (adS S p (iN 271)).2.2.2) v1 272 = some (1, S') := g1
      have hj := g3.2.2.2.2.2.2.2.1
      have lt2 := g5.ltt
      have g6 : ∀ z, z < p + 1 → S'.2.1 29 z = (adS S p (iN 271)).2.1 29 z := g6
      have cp : S'.2.1 29 p = iN (271 + 0) := by rw [g6 p (by omega), adS_29]
      rw [g1, g2]
      dsimp only
      rw [if_neg (show ¬ (1 : Int32) = 0 by decide), b44 x r0 r1 r2 r3 r4 r5 r6 _ S' _ v1 271 (iN p) (iN (c + 1)) (aim_eq x S' p b (271 + 0) g3.2.2.2.1 (by omega) (by have := g3.2.2.2.2.2.2.2.2.2; omega) (by omega) cp)]
      have b1 : Agr wPc S0 S' := a1.tr (((adS_agr S p _).tr (nwS_agr _ (m + 1))).tr g7)
      have b2 : Agr wPr T0 T' := a2.tr ((nwT_agr T (m + 1)).tr g8)
      have g5 : Gr o (T.2.1 139) (T.2.1 140) (S'.2.1 29) N' dp 5 (m + 1) j (p + 1) b k2 d := g5
      rw [a2.2.1 139 (by decide), a2.2.1 140 (by decide)] at g5
      have hpq := g3.am p (iN (271 + 0 + 512 * b))
      rw [Nat.add_assoc l0] at hpq
      refine IH j (by omega) (amS S' p (iN (271 + 0 + 512 * b))) T' (k + k2) b (sD 0 D d) (N + N' + 1) f1 (f2 + 1) (c + 1) hpq (by omega) ?_ (fun z hz2 => ?_) (b1.tr (amS_agr _ _ _)) b2 (by omega) (by omega) (by omega)
      · have l1 : Gr o (T0.2.1 139) (T0.2.1 140) ((amS S' p (iN (271 + 0 + 512 * b))).2.1 29) (N + N') dp 6 i0 m a0 p k D := (hg.cs (fun z z1 z2 => by rw [amS_29n S' p _ (by omega), g6 z (by omega), adS_29n S p _ (by omega)])).le (by omega)
        have l2 : Gr o (T0.2.1 139) (T0.2.1 140) ((amS S' p (iN (271 + 0 + 512 * b))).2.1 29) (N + N') dp 5 (m + 1) j (p + 1) b k2 d := (g5.cs (fun z z1 z2 => by rw [amS_29n S' p _ (by omega)])).le (by omega)
        have cdm : T0.2.1 139 m = iN 5 := by rw [← a2.2.1 139 (by decide), ht.2.2.2.1, s0]; rfl
        exact Or.inr (Or.inr (Or.inr (Or.inr (Or.inr (Or.inr ⟨rfl, Or.inr ⟨m, p, k, k2, D, d, l1, cdm, amS_29 S' p _, l2, rfl, rfl⟩⟩)))))
      · rw [amS_29n S' p _ (by omega), g6 z (by omega), adS_29n S p _ (by omega)]; exact hz z hz2
    · have g1 : r0 (u2 (adS S p (iN 271)).1 24 6 (iN (m + 1)), (adS S p (iN 271)).2.1, (adS S p (iN 271)).2.2.1, (adS S p (iN 271)).2.2.2) v1 272 = some (0, S') := g1
      rw [g1, g2]
      dsimp only
      rw [if_pos (show (0 : Int32) = 0 from rfl), nf_oloop x _ _ _ T' (nf_of g4 g5)]
      unfold bfX4_test_24_42
      exact Or.inr ⟨S', T', kf, a', rfl, rfl, g3, g4, g5, g6, g7, a1.tr (((adS_agr S p _).tr (nwS_agr _ (m + 1))).tr g8), a2.tr ((nwT_agr T (m + 1)).tr g9)⟩
  · rw [if_neg (show ¬ iN (tk m) = 271 from fun z => s0 ((iN_eq (n := 271) (by omega) (by omega)).mp z)), if_neg s0]
    dsimp only
    rw [if_pos rfl]
    exact Or.inl ⟨S, T, m, k, p, D, N, rfl, rfl, h, hp, hg, hz, a1, a2⟩
theorem orz_all (x : XT) (n : Nat) (o : Bool) (tk pl vv : Nat → Nat) (dp : Nat) (S0 T0 : ST) (i0 l0 a0 : Nat) (ha0 : a0 ≤ i0) (v1 : Int32) (r0 : ST → Int32 → Int32 → Option (Int32 × ST)) (r1 r2 : ST → Int32 → Option (Int32 × ST)) (r3 : ST → Int32 → Int32 → Option (Int32 × ST)) (r4 r5 r6 : ST → Int32 → Option (Int32 × ST)) (q1 q2 q3 : ST → Int32 → Option (Unit × ST)) (hr : ∀ S T i l a, PQ S T n o tk pl vv i l a → Out n o tk pl vv S T 5 dp i l a (r0 S v1 272) (q2 T v1)) : ∀ (d m : Nat), n ≤ m + d → LOr x n o tk pl vv dp S0 T0 i0 l0 a0 v1 r0 r1 r2 r3 r4 r5 r6 q1 q2 q3 m
  | 0, m, hm => orz_step x n o tk pl vv dp S0 T0 i0 l0 a0 ha0 v1 r0 r1 r2 r3 r4 r5 r6 q1 q2 q3 hr m (fun m' hlt S T k p D N f1 f2 c h => by
    have := h.2.2.2.2.2.2.2.1
    omega)
  | d + 1, m, hm => orz_step x n o tk pl vv dp S0 T0 i0 l0 a0 ha0 v1 r0 r1 r2 r3 r4 r5 r6 q1 q2 q3 hr m (fun m' hlt => orz_all x n o tk pl vv dp S0 T0 i0 l0 a0 ha0 v1 r0 r1 r2 r3 r4 r5 r6 q1 q2 q3 hr d m' (by omega))
theorem orz_ok (x : XT) (n : Nat) (o : Bool) (tk pl vv : Nat → Nat) (dp : Nat) (hP : HTA x n o tk pl vv dp) : HTO x n o tk pl vv dp := by
  intro S T i l a N1 N2 h h1 h2
  obtain ⟨N1, rfl⟩ : ∃ z, N1 = z + 1 := ⟨N1 - 1, by omega⟩
  obtain ⟨N2, rfl⟩ : ∃ z, N2 = z + 1 := ⟨N2 - 1, by omega⟩
  have hn := h.1.1
  rw [q4_test, q11_readTest]
  unfold bfX4_test_24_0 bfX11_readTest_130_0
  rw [lfX4_test_24_5, bfX4_test_24_5, if_neg (show ¬ (400 : Int32) < 0 by decide), if_neg (fun z => z (show (271 : Int32) = 271 from rfl))]
  dsimp only
  rcases hP S T i l a N1 N2 h (by omega) (by omega) with ⟨S', T', j, k, b, d, N, g1, g2, g3, g4, g5, g6, g7, g8⟩ | ⟨S', T', kf, a', g1, g2, g3, g4, g5, g6, g7, g8, g9⟩
  · rw [g1, g2]
    dsimp only
    have hj := g3.2.2.2.2.2.2.2.1
    have lt2 := g5.ltt
    rw [if_neg (show ¬ (1 : Int32) = 0 by decide), b44 x _ _ _ _ _ _ _ _ S' S' _ _ (-1) 0 (aim_m1 x S')]
    have hg : Gr o (T.2.1 139) (T.2.1 140) (S'.2.1 29) (N + 1) dp 6 i j a b k d := Or.inr (Or.inr (Or.inr (Or.inr (Or.inr (Or.inr ⟨rfl, Or.inl g5⟩)))))
    have r := orz_all x n o tk pl vv dp S T i l a h.2.2.2.2.2.2.2.2.2 (iN (8 - dp)) (fun S z0 z1 => gqX4_test_24 x N1 0 S z0 z1) (fun S z0 => gqX4_test_24 x N1 1 S z0 0) (fun S z0 => gqX4_test_24 x N1 2 S z0 0) (fun S z0 z1 => gqX4_test_24 x N1 3 S z0 z1) (fun S z0 => gqX4_test_24 x N1 4 S z0 0) (fun S z0 => gqX4_test_24 x N1 5 S z0 0) (fun S z0 => gqX4_test_24 x N1 6 S z0 0) (fun S z0 => gqX11_readTest_130 x N2 0 S z0 0) (fun S z0 => gqX11_readTest_130 x N2 1 S z0 0) (fun S z0 => gqX11_readTest_130 x N2 2 S z0 0) (fun S T i l a h => hP S T i l a N1 N2 h (by omega) (by omega)) n j (by omega) S' T' k b d (N + 1) 19999 20000 0 g3 g4 hg g6 g7 g8 (by omega) (by omega) (by omega)
    rw [show iN 0 = 0 from rfl] at r
    exact r
  · rw [g1, g2]
    dsimp only
    rw [if_pos (show (0 : Int32) = 0 from rfl), nf_oloop x _ _ _ T' (nf_of g4 g5) 19999]
    unfold bfX4_test_24_42
    exact Or.inr ⟨S', T', kf, a', rfl, rfl, g3, g4, g5, g6, g7, g8, g9⟩
end TESTS
