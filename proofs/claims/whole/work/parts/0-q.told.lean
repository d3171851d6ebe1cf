section TOLD
theorem hasT (x : XT) (S : ST) (t : Nat) (hx : tx x t = true) (B : Nat) (hB : mL x (t + 3) = B) (hB2 : B ≤ 48) (c a b : Nat) (hc : 4 * c + 3 < B) (hb1 : S.2.1 (t + 3) (4 * c + 2) = iN a) (hb2 : S.2.1 (t + 3) (4 * c + 3) = iN b) (ha : a ≤ 400) (hb : b ≤ 400) : gfX9_has_T x S t (iN c) 2 = some (if a < b then 1 else 0, S) := by
  have e4 : (4 * iN c + 2 : Int32) = iN (4 * c + 2) := by
    rw [show (4 : Int32) = iN 4 from rfl, show (2 : Int32) = iN 2 from rfl, iN_mul, iN_add]
  unfold gfX9_has_T bfX9_has_T_0 bfX9_has_T_30
  rw [hx, cond_true, hB, e4, iN_succ, inb_t (show 4 * c + 2 < B by omega) (by omega), cond_true, inb_t (show 4 * c + 2 + 1 < B by omega) (by omega), cond_true, iN_nat (by omega), iN_nat (by omega), hb1, show 4 * c + 2 + 1 = 4 * c + 3 by omega, hb2]
  by_cases h : a < b
  · rw [if_neg (fun h' => by have := (iN_le (by omega) (by omega)).mp h'; omega), if_pos h]; rfl
  · rw [if_pos ((iN_le (by omega) (by omega)).mpr (by omega)), if_neg h]; rfl

theorem told_end1 (x : XT) (S : ST) (v : Nat) (hv : v ≤ 2) (r : Option Int32) (hr : ∀ z, r = some z → ¬ z = -2000000000) : bfX0_told_20_1_111 x S (iN (260 + v)) (r.getD (-2000000000)) = some (tv v (S.2.1 21 2) r, S) := by
  unfold bfX0_told_20_1_111 bfX0_told_20_1_171 bfX0_told_20_1_192 bfX0_told_20_1_204
  have hv3 : v = 0 ∨ v = 1 ∨ v = 2 := by omega
  cases r with
  | none =>
    have e : ¬ ¬ (none : Option Int32).getD (-2000000000) = -2000000000 := fun h => h rfl
    rcases hv3 with rfl | rfl | rfl
    · rw [if_pos (show iN (260 + 0) = 260 from rfl), if_neg e]; rfl
    · rw [if_neg (show ¬ iN (260 + 1) = 260 by decide), if_pos (show iN (260 + 1) = 261 from rfl), if_neg e]; rfl
    · rw [if_neg (show ¬ iN (260 + 2) = 260 by decide), if_neg (show ¬ iN (260 + 2) = 261 by decide), if_neg e]; rfl
  | some z =>
    have e : ¬ (some z).getD (-2000000000) = -2000000000 := hr z rfl
    rcases hv3 with rfl | rfl | rfl
    · rw [if_pos (show iN (260 + 0) = 260 from rfl), if_pos e]; rfl
    · rw [if_neg (show ¬ iN (260 + 1) = 260 by decide), if_pos (show iN (260 + 1) = 261 from rfl), if_pos e]; rfl
    · rw [if_neg (show ¬ iN (260 + 2) = 260 by decide), if_neg (show ¬ iN (260 + 2) = 261 by decide), if_pos e]; rfl
set_option maxRecDepth 4000 in
theorem told_loop1 (x : XT) (S : ST) (t : Nat) (cd vl : Nat → Int32) (N C : Nat) (V : Nat → Nat) (dS dT : Nat → DN) (hL : LawD x S t cd vl N C V dS dT) (hW : ∀ w, w < 8 → ¬ S.2.1 21 w = -2000000000) (v : Nat) (hv : v ≤ 2) : ∀ (c fuel : Nat) (st : Nat → Int32), c ≤ C → c < fuel → ∃ st', lfX0_told_20_1_23 x fuel (wkT S st) (iN (260 + v)) (-2000000000) t (tI c) = some (tv v (S.2.1 21 2) (tl V dS dT v (S.2.1 21) c), wkT S st')
  | 0, fuel, st, hc, hf => by
    obtain ⟨fuel, rfl⟩ : ∃ z, fuel = z + 1 := ⟨fuel - 1, by omega⟩
    refine ⟨st, ?_⟩
    show bfX0_told_20_1_23 x (lfX0_told_20_1_23 x fuel) (wkT S st) (iN (260 + v)) (-2000000000) t (tI 0) = _
    unfold bfX0_told_20_1_23
    rw [hL.1, cond_true, if_pos (by decide)]
    exact told_end1 x (wkT S st) v hv none (fun z h => by cases h)
  | c + 1, fuel, st, hc, hf => by
    obtain ⟨fuel, rfl⟩ : ∃ z, fuel = z + 1 := ⟨fuel - 1, by omega⟩
    have hL' := hL
    obtain ⟨hx, ht, hN, hC1, hC2, Z, hZ, m1, m3, m4, s0, s1, P, J, hP, hcl⟩ := hL'
    obtain ⟨hP1, hJ, hLC, -, -⟩ := hcl c (by omega)
    obtain ⟨j1, a0, a1, a2, n, k1, k2, hv2, t1, t2, b0, b1, b2, b3, haZ, ha12, hsum, htest⟩ := hLC
    have ih := fun st => told_loop1 x S t cd vl N C V dS dT hL hW v hv c fuel st (by omega) (by omega)
    have go : ∀ st, ∃ st', bfX0_told_20_1_105 x (lfX0_told_20_1_23 x fuel) (wkT S st) (iN (260 + v)) (-2000000000) t (iN c) = some (tv v (S.2.1 21 2) (tl V dS dT v (S.2.1 21) c), wkT S st') := by
      intro st
      unfold bfX0_told_20_1_105
      rw [hx, cond_true]
      exact ih st
    show ∃ st', bfX0_told_20_1_23 x (lfX0_told_20_1_23 x fuel) (wkT S st) (iN (260 + v)) (-2000000000) t (tI (c + 1)) = _
    unfold bfX0_told_20_1_23
    rw [hx, cond_true, tI_p, if_neg (iN_nn (by omega)), if_neg (fun h => h rfl), m1, inb_t (show c < C by omega) (by omega), cond_true, iN_nat (by omega), wkT_n S st (by omega), t2]
    unfold tl
    by_cases hvv : V c = v
    · rw [if_neg (fun h => h (by rw [hvv]))]
      rw [hasT x (wkT S st) t hx (4 * C) m3 (by omega) c a1 a2 (by omega) (by rw [wkT_n S st (by omega)]; exact b2) (by rw [wkT_n S st (by omega)]; exact b3) (by omega) (by omega)]
      dsimp only
      -- the SUM
      have sum : ∀ st, ∃ st', bfX0_told_20_1_77 x (lfX0_told_20_1_23 x fuel) (wkT S st) (iN (260 + v)) t (iN c) = some (tv v (S.2.1 21 2) (match dS c (S.2.1 21) with
          | none => tl V dS dT v (S.2.1 21) c
          | some r => some r), wkT S st') := by
        intro st
        have fin : ∀ (st : Nat → Int32) (r : Option Int32), (∀ z, r = some z → ¬ z = -2000000000) → ∃ st', bfX0_told_20_1_104 x (lfX0_told_20_1_23 x fuel) (wkT S st) (iN (260 + v)) t (iN c) (r.getD (-2000000000)) = some (tv v (S.2.1 21 2) (match r with
          | none => tl V dS dT v (S.2.1 21) c
          | some r => some r), wkT S st') := by
          intro st r hr
          unfold bfX0_told_20_1_104
          rw [hx, cond_true]
          cases r with
          | none => exact go st
          | some z =>
            refine ⟨st, ?_⟩
            unfold bfX0_told_20_1_105
            rw [hx, cond_true]
            obtain ⟨fuel, rfl⟩ : ∃ z, fuel = z + 1 := ⟨fuel - 1, by omega⟩
            show bfX0_told_20_1_23 x (lfX0_told_20_1_23 x fuel) (wkT S st) (iN (260 + v)) z t (tI c) = _
            unfold bfX0_told_20_1_23
            rw [hx, cond_true, if_pos (hr z rfl)]
            have h1 := told_end1 x (wkT S st) v hv (some z) hr
            rw [wkT_n S st (by decide)] at h1
            by_cases hneg : tI c < 0
            · rw [if_pos hneg]; exact h1
            · rw [if_neg hneg]; exact h1
        unfold bfX0_told_20_1_77
        rw [hx, cond_true]
        rcases hsum with ⟨e1, -, e2⟩ | ⟨e1, hk1, hg⟩
        · rw [if_neg (fun h => h (by rw [← hvv, e1]; rfl)), e2]
          exact fin st (some 1) (fun z h => by cases h; decide)
        · rw [if_pos (fun h => by have := (iN_eq (m := 260 + v) (n := 262) (by omega) (by omega)).mp h; omega)]
          obtain ⟨st2, h2⟩ := reckT x (wkT S st) t hx ht Z (4 * C) m4 m3 (by omega) hZ s1 c 0 a0 a1 (by omega) (by rw [wkT_n S st (by omega)]; exact b0) (by rw [wkT_n S st (by omega)]; exact b1) (by omega) (cd := cd) (vl := vl) (by rw [wkT_n S st (by omega)]; exact hg) hk1
          rw [show (0 : Int32) = iN 0 from rfl, h2]
          dsimp only
          rw [wkT_wkT, wkT_n S st (by decide)]
          exact fin st2 (dS c (S.2.1 21)) (fun z hz => Gr.nb (o := false) hW hg (by omega) z hz)
      rcases htest with ⟨-, e1, e2⟩ | ⟨hif, hk2, hg⟩
      · rw [if_neg (show ¬ a1 < a2 by omega), if_pos rfl, if_pos ⟨hvv, by rw [e2]⟩]
        exact sum st
      · have hlt := hg.lt.2
        rw [if_pos hlt, if_neg (by decide)]
        obtain ⟨st2, h2⟩ := reckT x (wkT S st) t hx ht Z (4 * C) m4 m3 (by omega) hZ s1 c 2 a1 a2 (by omega) (by rw [wkT_n S st (by omega)]; exact b2) (by rw [wkT_n S st (by omega)]; exact b3) (by omega) (cd := cd) (vl := vl) (by rw [wkT_n S st (by omega)]; exact hg) hk2
        rw [show (2 : Int32) = iN 2 from rfl, h2]
        dsimp only
        rw [wkT_wkT, wkT_n S st (by decide)]
        by_cases hd : dT c (S.2.1 21) = some 1
        · rw [hd, if_neg (fun h => h rfl), if_pos ⟨hvv, rfl⟩]
          exact sum st2
        · rw [if_neg (fun h : V c = v ∧ dT c (S.2.1 21) = some 1 => hd h.2)]
          have hne : ¬ (dT c (S.2.1 21)).getD (-2000000000) = 1 := by
            intro h
            cases hz : dT c (S.2.1 21) with
            | none => rw [hz] at h; exact absurd h (by decide)
            | some z => rw [hz] at h; exact hd (by rw [hz, show z = 1 from h])
          rw [if_pos hne]
          exact go st2
    · rw [if_pos (fun h => hvv (by have := (iN_eq (m := 260 + V c) (n := 260 + v) (by omega) (by omega)).mp h; omega)), if_neg (fun h => hvv h.1)]
      exact go st
theorem inForce_n1 (x : XT) (S : ST) (h1 : S.1 1 18 = -1) : gfX7_inForce_1 x S = some (none, S) := by
  unfold gfX7_inForce_1 bfX7_inForce_1_0 bfX7_inForce_1_24 gfX7_hasLaw_1 bfX7_hasLaw_1_0 bfX7_hasLaw_1_16 bfX7_hasLaw_1_17
  rw [h1, if_pos (by decide)]
  rfl
theorem inForce_s1 (x : XT) (S : ST) (l L t : Nat) (hl : l < L) (hL6 : L ≤ 6) (h1 : S.1 1 18 = iN l) (h2 : S.1 1 16 = iN L) (h3 : S.2.2.2 15 l = some t) : gfX7_inForce_1 x S = some (some t, S) := by
  unfold gfX7_inForce_1 bfX7_inForce_1_0 bfX7_inForce_1_24 gfX7_hasLaw_1 bfX7_hasLaw_1_0 bfX7_hasLaw_1_17
  rw [h1, if_neg (iN_nn (by omega)), h2, if_neg (fun h => by have := (iN_le (by omega) (by omega)).mp h; omega)]
  simp only [show bbz 1 = true from rfl, cond_true, if_neg (show ¬ (1 : Int32) = 0 by decide), h1, inb_t (show l < 6 by omega) (by omega), iN_nat (show l < 2147483648 by omega), h3]
theorem told1 (x : XT) (S : ST) (f : Nat → Int32) (R : Nat → (Nat → Int32) → Option Int32) (hR : LR x S 1 f R) (hW : ∀ w, w < 8 → ¬ S.2.1 21 w = -2000000000) (v : Nat) (hv : v ≤ 2) : ∃ st', gfX0_told_20_1 x S (iN (260 + v)) = some (tv v (S.2.1 21 2) (R v (S.2.1 21)), wkT S st') := by
  rcases hR with ⟨-, h1, rfl⟩ | ⟨l, t, L, N, C, V, dS, dT, hl, hL6, -, h1, h2, h3, -, h4, rfl⟩
  · refine ⟨S.2.1 22, ?_⟩
    rw [wkT_self, gfX0_told_20_1, bfX0_told_20_1_0, inForce_n1 x S h1]
    exact told_end1 x S v hv none (fun z h => by cases h)
  · have h4' := h4
    obtain ⟨hx, ht, hN, hC1, hC2, Z, hZ, m1, m3, m4, s0, -⟩ := h4'
    have hst := told_loop1 x S t _ _ N C V dS dT h4 hW v hv C 20000 (S.2.1 22) (Nat.le_refl _) (by omega)
    rw [wkT_self] at hst
    obtain ⟨st', hst⟩ := hst
    refine ⟨st', ?_⟩
    have e2 : iN C - 1 = tI C := by
      unfold tI
      rw [Int32.sub_eq_add_neg]
    rw [gfX0_told_20_1, bfX0_told_20_1_0, inForce_s1 x S l L t hl hL6 h1 h2 h3]
    dsimp only
    rw [hx, cond_true, s0, e2, hst]

theorem told_end55 (x : XT) (S : ST) (v : Nat) (hv : v ≤ 2) (r : Option Int32) (hr : ∀ z, r = some z → ¬ z = -2000000000) : bfX0_told_20_55_111 x S (iN (260 + v)) (r.getD (-2000000000)) = some (tv v (S.2.1 21 2) r, S) := by
  unfold bfX0_told_20_55_111 bfX0_told_20_55_171 bfX0_told_20_55_192 bfX0_told_20_55_204
  have hv3 : v = 0 ∨ v = 1 ∨ v = 2 := by omega
  cases r with
  | none =>
    have e : ¬ ¬ (none : Option Int32).getD (-2000000000) = -2000000000 := fun h => h rfl
    rcases hv3 with rfl | rfl | rfl
    · rw [if_pos (show iN (260 + 0) = 260 from rfl), if_neg e]; rfl
    · rw [if_neg (show ¬ iN (260 + 1) = 260 by decide), if_pos (show iN (260 + 1) = 261 from rfl), if_neg e]; rfl
    · rw [if_neg (show ¬ iN (260 + 2) = 260 by decide), if_neg (show ¬ iN (260 + 2) = 261 by decide), if_neg e]; rfl
  | some z =>
    have e : ¬ (some z).getD (-2000000000) = -2000000000 := hr z rfl
    rcases hv3 with rfl | rfl | rfl
    · rw [if_pos (show iN (260 + 0) = 260 from rfl), if_pos e]; rfl
    · rw [if_neg (show ¬ iN (260 + 1) = 260 by decide), if_pos (show iN (260 + 1) = 261 from rfl), if_pos e]; rfl
    · rw [if_neg (show ¬ iN (260 + 2) = 260 by decide), if_neg (show ¬ iN (260 + 2) = 261 by decide), if_pos e]; rfl
set_option maxRecDepth 4000 in
theorem told_loop55 (x : XT) (S : ST) (t : Nat) (cd vl : Nat → Int32) (N C : Nat) (V : Nat → Nat) (dS dT : Nat → DN) (hL : LawD x S t cd vl N C V dS dT) (hW : ∀ w, w < 8 → ¬ S.2.1 21 w = -2000000000) (v : Nat) (hv : v ≤ 2) : ∀ (c fuel : Nat) (st : Nat → Int32), c ≤ C → c < fuel → ∃ st', lfX0_told_20_55_23 x fuel (wkT S st) (iN (260 + v)) (-2000000000) t (tI c) = some (tv v (S.2.1 21 2) (tl V dS dT v (S.2.1 21) c), wkT S st')
  | 0, fuel, st, hc, hf => by
    obtain ⟨fuel, rfl⟩ : ∃ z, fuel = z + 1 := ⟨fuel - 1, by omega⟩
    refine ⟨st, ?_⟩
    show bfX0_told_20_55_23 x (lfX0_told_20_55_23 x fuel) (wkT S st) (iN (260 + v)) (-2000000000) t (tI 0) = _
    unfold bfX0_told_20_55_23
    rw [hL.1, cond_true, if_pos (by decide)]
    exact told_end55 x (wkT S st) v hv none (fun z h => by cases h)
  | c + 1, fuel, st, hc, hf => by
    obtain ⟨fuel, rfl⟩ : ∃ z, fuel = z + 1 := ⟨fuel - 1, by omega⟩
    have hL' := hL
    obtain ⟨hx, ht, hN, hC1, hC2, Z, hZ, m1, m3, m4, s0, s1, P, J, hP, hcl⟩ := hL'
    obtain ⟨hP1, hJ, hLC, -, -⟩ := hcl c (by omega)
    obtain ⟨j1, a0, a1, a2, n, k1, k2, hv2, t1, t2, b0, b1, b2, b3, haZ, ha12, hsum, htest⟩ := hLC
    have ih := fun st => told_loop55 x S t cd vl N C V dS dT hL hW v hv c fuel st (by omega) (by omega)
    have go : ∀ st, ∃ st', bfX0_told_20_55_105 x (lfX0_told_20_55_23 x fuel) (wkT S st) (iN (260 + v)) (-2000000000) t (iN c) = some (tv v (S.2.1 21 2) (tl V dS dT v (S.2.1 21) c), wkT S st') := by
      intro st
      unfold bfX0_told_20_55_105
      rw [hx, cond_true]
      exact ih st
    show ∃ st', bfX0_told_20_55_23 x (lfX0_told_20_55_23 x fuel) (wkT S st) (iN (260 + v)) (-2000000000) t (tI (c + 1)) = _
    unfold bfX0_told_20_55_23
    rw [hx, cond_true, tI_p, if_neg (iN_nn (by omega)), if_neg (fun h => h rfl), m1, inb_t (show c < C by omega) (by omega), cond_true, iN_nat (by omega), wkT_n S st (by omega), t2]
    unfold tl
    by_cases hvv : V c = v
    · rw [if_neg (fun h => h (by rw [hvv]))]
      rw [hasT x (wkT S st) t hx (4 * C) m3 (by omega) c a1 a2 (by omega) (by rw [wkT_n S st (by omega)]; exact b2) (by rw [wkT_n S st (by omega)]; exact b3) (by omega) (by omega)]
      dsimp only
      -- the SUM
      have sum : ∀ st, ∃ st', bfX0_told_20_55_77 x (lfX0_told_20_55_23 x fuel) (wkT S st) (iN (260 + v)) t (iN c) = some (tv v (S.2.1 21 2) (match dS c (S.2.1 21) with
          | none => tl V dS dT v (S.2.1 21) c
          | some r => some r), wkT S st') := by
        intro st
        have fin : ∀ (st : Nat → Int32) (r : Option Int32), (∀ z, r = some z → ¬ z = -2000000000) → ∃ st', bfX0_told_20_55_104 x (lfX0_told_20_55_23 x fuel) (wkT S st) (iN (260 + v)) t (iN c) (r.getD (-2000000000)) = some (tv v (S.2.1 21 2) (match r with
          | none => tl V dS dT v (S.2.1 21) c
          | some r => some r), wkT S st') := by
          intro st r hr
          unfold bfX0_told_20_55_104
          rw [hx, cond_true]
          cases r with
          | none => exact go st
          | some z =>
            refine ⟨st, ?_⟩
            unfold bfX0_told_20_55_105
            rw [hx, cond_true]
            obtain ⟨fuel, rfl⟩ : ∃ z, fuel = z + 1 := ⟨fuel - 1, by omega⟩
            show bfX0_told_20_55_23 x (lfX0_told_20_55_23 x fuel) (wkT S st) (iN (260 + v)) z t (tI c) = _
            unfold bfX0_told_20_55_23
            rw [hx, cond_true, if_pos (hr z rfl)]
            have h1 := told_end55 x (wkT S st) v hv (some z) hr
            rw [wkT_n S st (by decide)] at h1
            by_cases hneg : tI c < 0
            · rw [if_pos hneg]; exact h1
            · rw [if_neg hneg]; exact h1
        unfold bfX0_told_20_55_77
        rw [hx, cond_true]
        rcases hsum with ⟨e1, -, e2⟩ | ⟨e1, hk1, hg⟩
        · rw [if_neg (fun h => h (by rw [← hvv, e1]; rfl)), e2]
          exact fin st (some 1) (fun z h => by cases h; decide)
        · rw [if_pos (fun h => by have := (iN_eq (m := 260 + v) (n := 262) (by omega) (by omega)).mp h; omega)]
          obtain ⟨st2, h2⟩ := reckT x (wkT S st) t hx ht Z (4 * C) m4 m3 (by omega) hZ s1 c 0 a0 a1 (by omega) (by rw [wkT_n S st (by omega)]; exact b0) (by rw [wkT_n S st (by omega)]; exact b1) (by omega) (cd := cd) (vl := vl) (by rw [wkT_n S st (by omega)]; exact hg) hk1
          rw [show (0 : Int32) = iN 0 from rfl, h2]
          dsimp only
          rw [wkT_wkT, wkT_n S st (by decide)]
          exact fin st2 (dS c (S.2.1 21)) (fun z hz => Gr.nb (o := false) hW hg (by omega) z hz)
      rcases htest with ⟨-, e1, e2⟩ | ⟨hif, hk2, hg⟩
      · rw [if_neg (show ¬ a1 < a2 by omega), if_pos rfl, if_pos ⟨hvv, by rw [e2]⟩]
        exact sum st
      · have hlt := hg.lt.2
        rw [if_pos hlt, if_neg (by decide)]
        obtain ⟨st2, h2⟩ := reckT x (wkT S st) t hx ht Z (4 * C) m4 m3 (by omega) hZ s1 c 2 a1 a2 (by omega) (by rw [wkT_n S st (by omega)]; exact b2) (by rw [wkT_n S st (by omega)]; exact b3) (by omega) (cd := cd) (vl := vl) (by rw [wkT_n S st (by omega)]; exact hg) hk2
        rw [show (2 : Int32) = iN 2 from rfl, h2]
        dsimp only
        rw [wkT_wkT, wkT_n S st (by decide)]
        by_cases hd : dT c (S.2.1 21) = some 1
        · rw [hd, if_neg (fun h => h rfl), if_pos ⟨hvv, rfl⟩]
          exact sum st2
        · rw [if_neg (fun h : V c = v ∧ dT c (S.2.1 21) = some 1 => hd h.2)]
          have hne : ¬ (dT c (S.2.1 21)).getD (-2000000000) = 1 := by
            intro h
            cases hz : dT c (S.2.1 21) with
            | none => rw [hz] at h; exact absurd h (by decide)
            | some z => rw [hz] at h; exact hd (by rw [hz, show z = 1 from h])
          rw [if_pos hne]
          exact go st2
    · rw [if_pos (fun h => hvv (by have := (iN_eq (m := 260 + V c) (n := 260 + v) (by omega) (by omega)).mp h; omega)), if_neg (fun h => hvv h.1)]
      exact go st
theorem inForce_n55 (x : XT) (S : ST) (h1 : S.1 55 18 = -1) : gfX7_inForce_55 x S = some (none, S) := by
  unfold gfX7_inForce_55 bfX7_inForce_55_0 bfX7_inForce_55_24 gfX7_hasLaw_55 bfX7_hasLaw_55_0 bfX7_hasLaw_55_16 bfX7_hasLaw_55_17
  rw [h1, if_pos (by decide)]
  rfl
theorem inForce_s55 (x : XT) (S : ST) (l L t : Nat) (hl : l < L) (hL6 : L ≤ 6) (h1 : S.1 55 18 = iN l) (h2 : S.1 55 16 = iN L) (h3 : S.2.2.2 69 l = some t) : gfX7_inForce_55 x S = some (some t, S) := by
  unfold gfX7_inForce_55 bfX7_inForce_55_0 bfX7_inForce_55_24 gfX7_hasLaw_55 bfX7_hasLaw_55_0 bfX7_hasLaw_55_17
  rw [h1, if_neg (iN_nn (by omega)), h2, if_neg (fun h => by have := (iN_le (by omega) (by omega)).mp h; omega)]
  simp only [show bbz 1 = true from rfl, cond_true, if_neg (show ¬ (1 : Int32) = 0 by decide), h1, inb_t (show l < 6 by omega) (by omega), iN_nat (show l < 2147483648 by omega), h3]
theorem told55 (x : XT) (S : ST) (f : Nat → Int32) (R : Nat → (Nat → Int32) → Option Int32) (hR : LR x S 55 f R) (hW : ∀ w, w < 8 → ¬ S.2.1 21 w = -2000000000) (v : Nat) (hv : v ≤ 2) : ∃ st', gfX0_told_20_55 x S (iN (260 + v)) = some (tv v (S.2.1 21 2) (R v (S.2.1 21)), wkT S st') := by
  rcases hR with ⟨-, h1, rfl⟩ | ⟨l, t, L, N, C, V, dS, dT, hl, hL6, -, h1, h2, h3, -, h4, rfl⟩
  · refine ⟨S.2.1 22, ?_⟩
    rw [wkT_self, gfX0_told_20_55, bfX0_told_20_55_0, inForce_n55 x S h1]
    exact told_end55 x S v hv none (fun z h => by cases h)
  · have h4' := h4
    obtain ⟨hx, ht, hN, hC1, hC2, Z, hZ, m1, m3, m4, s0, -⟩ := h4'
    have hst := told_loop55 x S t _ _ N C V dS dT h4 hW v hv C 20000 (S.2.1 22) (Nat.le_refl _) (by omega)
    rw [wkT_self] at hst
    obtain ⟨st', hst⟩ := hst
    refine ⟨st', ?_⟩
    have e2 : iN C - 1 = tI C := by
      unfold tI
      rw [Int32.sub_eq_add_neg]
    rw [gfX0_told_20_55, bfX0_told_20_55_0, inForce_s55 x S l L t hl hL6 h1 h2 h3]
    dsimp only
    rw [hx, cond_true, s0, e2, hst]

theorem told_end84 (x : XT) (S : ST) (v : Nat) (hv : v ≤ 2) (r : Option Int32) (hr : ∀ z, r = some z → ¬ z = -2000000000) : bfX0_told_20_84_111 x S (iN (260 + v)) (r.getD (-2000000000)) = some (tv v (S.2.1 21 2) r, S) := by
  unfold bfX0_told_20_84_111 bfX0_told_20_84_171 bfX0_told_20_84_192 bfX0_told_20_84_204
  have hv3 : v = 0 ∨ v = 1 ∨ v = 2 := by omega
  cases r with
  | none =>
    have e : ¬ ¬ (none : Option Int32).getD (-2000000000) = -2000000000 := fun h => h rfl
    rcases hv3 with rfl | rfl | rfl
    · rw [if_pos (show iN (260 + 0) = 260 from rfl), if_neg e]; rfl
    · rw [if_neg (show ¬ iN (260 + 1) = 260 by decide), if_pos (show iN (260 + 1) = 261 from rfl), if_neg e]; rfl
    · rw [if_neg (show ¬ iN (260 + 2) = 260 by decide), if_neg (show ¬ iN (260 + 2) = 261 by decide), if_neg e]; rfl
  | some z =>
    have e : ¬ (some z).getD (-2000000000) = -2000000000 := hr z rfl
    rcases hv3 with rfl | rfl | rfl
    · rw [if_pos (show iN (260 + 0) = 260 from rfl), if_pos e]; rfl
    · rw [if_neg (show ¬ iN (260 + 1) = 260 by decide), if_pos (show iN (260 + 1) = 261 from rfl), if_pos e]; rfl
    · rw [if_neg (show ¬ iN (260 + 2) = 260 by decide), if_neg (show ¬ iN (260 + 2) = 261 by decide), if_pos e]; rfl
set_option maxRecDepth 4000 in
theorem told_loop84 (x : XT) (S : ST) (t : Nat) (cd vl : Nat → Int32) (N C : Nat) (V : Nat → Nat) (dS dT : Nat → DN) (hL : LawD x S t cd vl N C V dS dT) (hW : ∀ w, w < 8 → ¬ S.2.1 21 w = -2000000000) (v : Nat) (hv : v ≤ 2) : ∀ (c fuel : Nat) (st : Nat → Int32), c ≤ C → c < fuel → ∃ st', lfX0_told_20_84_23 x fuel (wkT S st) (iN (260 + v)) (-2000000000) t (tI c) = some (tv v (S.2.1 21 2) (tl V dS dT v (S.2.1 21) c), wkT S st')
  | 0, fuel, st, hc, hf => by
    obtain ⟨fuel, rfl⟩ : ∃ z, fuel = z + 1 := ⟨fuel - 1, by omega⟩
    refine ⟨st, ?_⟩
    show bfX0_told_20_84_23 x (lfX0_told_20_84_23 x fuel) (wkT S st) (iN (260 + v)) (-2000000000) t (tI 0) = _
    unfold bfX0_told_20_84_23
    rw [hL.1, cond_true, if_pos (by decide)]
    exact told_end84 x (wkT S st) v hv none (fun z h => by cases h)
  | c + 1, fuel, st, hc, hf => by
    obtain ⟨fuel, rfl⟩ : ∃ z, fuel = z + 1 := ⟨fuel - 1, by omega⟩
    have hL' := hL
    obtain ⟨hx, ht, hN, hC1, hC2, Z, hZ, m1, m3, m4, s0, s1, P, J, hP, hcl⟩ := hL'
    obtain ⟨hP1, hJ, hLC, -, -⟩ := hcl c (by omega)
    obtain ⟨j1, a0, a1, a2, n, k1, k2, hv2, t1, t2, b0, b1, b2, b3, haZ, ha12, hsum, htest⟩ := hLC
    have ih := fun st => told_loop84 x S t cd vl N C V dS dT hL hW v hv c fuel st (by omega) (by omega)
    have go : ∀ st, ∃ st', bfX0_told_20_84_105 x (lfX0_told_20_84_23 x fuel) (wkT S st) (iN (260 + v)) (-2000000000) t (iN c) = some (tv v (S.2.1 21 2) (tl V dS dT v (S.2.1 21) c), wkT S st') := by
      intro st
      unfold bfX0_told_20_84_105
      rw [hx, cond_true]
      exact ih st
    show ∃ st', bfX0_told_20_84_23 x (lfX0_told_20_84_23 x fuel) (wkT S st) (iN (260 + v)) (-2000000000) t (tI (c + 1)) = _
    unfold bfX0_told_20_84_23
    rw [hx, cond_true, tI_p, if_neg (iN_nn (by omega)), if_neg (fun h => h rfl), m1, inb_t (show c < C by omega) (by omega), cond_true, iN_nat (by omega), wkT_n S st (by omega), t2]
    unfold tl
    by_cases hvv : V c = v
    · rw [if_neg (fun h => h (by rw [hvv]))]
      rw [hasT x (wkT S st) t hx (4 * C) m3 (by omega) c a1 a2 (by omega) (by rw [wkT_n S st (by omega)]; exact b2) (by rw [wkT_n S st (by omega)]; exact b3) (by omega) (by omega)]
      dsimp only
      -- the SUM
      have sum : ∀ st, ∃ st', bfX0_told_20_84_77 x (lfX0_told_20_84_23 x fuel) (wkT S st) (iN (260 + v)) t (iN c) = some (tv v (S.2.1 21 2) (match dS c (S.2.1 21) with
          | none => tl V dS dT v (S.2.1 21) c
          | some r => some r), wkT S st') := by
        intro st
        have fin : ∀ (st : Nat → Int32) (r : Option Int32), (∀ z, r = some z → ¬ z = -2000000000) → ∃ st', bfX0_told_20_84_104 x (lfX0_told_20_84_23 x fuel) (wkT S st) (iN (260 + v)) t (iN c) (r.getD (-2000000000)) = some (tv v (S.2.1 21 2) (match r with
          | none => tl V dS dT v (S.2.1 21) c
          | some r => some r), wkT S st') := by
          intro st r hr
          unfold bfX0_told_20_84_104
          rw [hx, cond_true]
          cases r with
          | none => exact go st
          | some z =>
            refine ⟨st, ?_⟩
            unfold bfX0_told_20_84_105
            rw [hx, cond_true]
            obtain ⟨fuel, rfl⟩ : ∃ z, fuel = z + 1 := ⟨fuel - 1, by omega⟩
            show bfX0_told_20_84_23 x (lfX0_told_20_84_23 x fuel) (wkT S st) (iN (260 + v)) z t (tI c) = _
            unfold bfX0_told_20_84_23
            rw [hx, cond_true, if_pos (hr z rfl)]
            have h1 := told_end84 x (wkT S st) v hv (some z) hr
            rw [wkT_n S st (by decide)] at h1
            by_cases hneg : tI c < 0
            · rw [if_pos hneg]; exact h1
            · rw [if_neg hneg]; exact h1
        unfold bfX0_told_20_84_77
        rw [hx, cond_true]
        rcases hsum with ⟨e1, -, e2⟩ | ⟨e1, hk1, hg⟩
        · rw [if_neg (fun h => h (by rw [← hvv, e1]; rfl)), e2]
          exact fin st (some 1) (fun z h => by cases h; decide)
        · rw [if_pos (fun h => by have := (iN_eq (m := 260 + v) (n := 262) (by omega) (by omega)).mp h; omega)]
          obtain ⟨st2, h2⟩ := reckT x (wkT S st) t hx ht Z (4 * C) m4 m3 (by omega) hZ s1 c 0 a0 a1 (by omega) (by rw [wkT_n S st (by omega)]; exact b0) (by rw [wkT_n S st (by omega)]; exact b1) (by omega) (cd := cd) (vl := vl) (by rw [wkT_n S st (by omega)]; exact hg) hk1
          rw [show (0 : Int32) = iN 0 from rfl, h2]
          dsimp only
          rw [wkT_wkT, wkT_n S st (by decide)]
          exact fin st2 (dS c (S.2.1 21)) (fun z hz => Gr.nb (o := false) hW hg (by omega) z hz)
      rcases htest with ⟨-, e1, e2⟩ | ⟨hif, hk2, hg⟩
      · rw [if_neg (show ¬ a1 < a2 by omega), if_pos rfl, if_pos ⟨hvv, by rw [e2]⟩]
        exact sum st
      · have hlt := hg.lt.2
        rw [if_pos hlt, if_neg (by decide)]
        obtain ⟨st2, h2⟩ := reckT x (wkT S st) t hx ht Z (4 * C) m4 m3 (by omega) hZ s1 c 2 a1 a2 (by omega) (by rw [wkT_n S st (by omega)]; exact b2) (by rw [wkT_n S st (by omega)]; exact b3) (by omega) (cd := cd) (vl := vl) (by rw [wkT_n S st (by omega)]; exact hg) hk2
        rw [show (2 : Int32) = iN 2 from rfl, h2]
        dsimp only
        rw [wkT_wkT, wkT_n S st (by decide)]
        by_cases hd : dT c (S.2.1 21) = some 1
        · rw [hd, if_neg (fun h => h rfl), if_pos ⟨hvv, rfl⟩]
          exact sum st2
        · rw [if_neg (fun h : V c = v ∧ dT c (S.2.1 21) = some 1 => hd h.2)]
          have hne : ¬ (dT c (S.2.1 21)).getD (-2000000000) = 1 := by
            intro h
            cases hz : dT c (S.2.1 21) with
            | none => rw [hz] at h; exact absurd h (by decide)
            | some z => rw [hz] at h; exact hd (by rw [hz, show z = 1 from h])
          rw [if_pos hne]
          exact go st2
    · rw [if_pos (fun h => hvv (by have := (iN_eq (m := 260 + V c) (n := 260 + v) (by omega) (by omega)).mp h; omega)), if_neg (fun h => hvv h.1)]
      exact go st
theorem inForce_n84 (x : XT) (S : ST) (h1 : S.1 84 18 = -1) : gfX7_inForce_84 x S = some (none, S) := by
  unfold gfX7_inForce_84 bfX7_inForce_84_0 bfX7_inForce_84_24 gfX7_hasLaw_84 bfX7_hasLaw_84_0 bfX7_hasLaw_84_16 bfX7_hasLaw_84_17
  rw [h1, if_pos (by decide)]
  rfl
theorem inForce_s84 (x : XT) (S : ST) (l L t : Nat) (hl : l < L) (hL6 : L ≤ 6) (h1 : S.1 84 18 = iN l) (h2 : S.1 84 16 = iN L) (h3 : S.2.2.2 98 l = some t) : gfX7_inForce_84 x S = some (some t, S) := by
  unfold gfX7_inForce_84 bfX7_inForce_84_0 bfX7_inForce_84_24 gfX7_hasLaw_84 bfX7_hasLaw_84_0 bfX7_hasLaw_84_17
  rw [h1, if_neg (iN_nn (by omega)), h2, if_neg (fun h => by have := (iN_le (by omega) (by omega)).mp h; omega)]
  simp only [show bbz 1 = true from rfl, cond_true, if_neg (show ¬ (1 : Int32) = 0 by decide), h1, inb_t (show l < 6 by omega) (by omega), iN_nat (show l < 2147483648 by omega), h3]
theorem told84 (x : XT) (S : ST) (f : Nat → Int32) (R : Nat → (Nat → Int32) → Option Int32) (hR : LR x S 84 f R) (hW : ∀ w, w < 8 → ¬ S.2.1 21 w = -2000000000) (v : Nat) (hv : v ≤ 2) : ∃ st', gfX0_told_20_84 x S (iN (260 + v)) = some (tv v (S.2.1 21 2) (R v (S.2.1 21)), wkT S st') := by
  rcases hR with ⟨-, h1, rfl⟩ | ⟨l, t, L, N, C, V, dS, dT, hl, hL6, -, h1, h2, h3, -, h4, rfl⟩
  · refine ⟨S.2.1 22, ?_⟩
    rw [wkT_self, gfX0_told_20_84, bfX0_told_20_84_0, inForce_n84 x S h1]
    exact told_end84 x S v hv none (fun z h => by cases h)
  · have h4' := h4
    obtain ⟨hx, ht, hN, hC1, hC2, Z, hZ, m1, m3, m4, s0, -⟩ := h4'
    have hst := told_loop84 x S t _ _ N C V dS dT h4 hW v hv C 20000 (S.2.1 22) (Nat.le_refl _) (by omega)
    rw [wkT_self] at hst
    obtain ⟨st', hst⟩ := hst
    refine ⟨st', ?_⟩
    have e2 : iN C - 1 = tI C := by
      unfold tI
      rw [Int32.sub_eq_add_neg]
    rw [gfX0_told_20_84, bfX0_told_20_84_0, inForce_s84 x S l L t hl hL6 h1 h2 h3]
    dsimp only
    rw [hx, cond_true, s0, e2, hst]
end TOLD
