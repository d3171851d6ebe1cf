section CAN
theorem inb_nb {v : Int32} {n : Nat} (h : inb v n = true) (hn : n < 2147483648) : ¬ v = -2000000000 := by
  intro e
  obtain ⟨k, hk, rfl⟩ := inb_ex h
  have := congrArg Int32.toInt e
  rw [iN_int (by omega), show (-2000000000 : Int32).toInt = -2000000000 by decide] at this
  omega
theorem cl_inb (hi : Nat) (hh : hi < 1000) (r : Int32) : inb (cl (iN hi) r) (hi + 1) = true := by
  have i3 := @Int32.lt_iff_toInt_lt (iN hi) r
  have i4 := @Int32.lt_iff_toInt_lt 0 r
  rw [iN_int (by omega)] at i3
  rw [show (0 : Int32).toInt = 0 from rfl] at i4
  unfold cl
  by_cases a : iN hi < r
  · rw [if_pos a]
    by_cases b : 0 < iN hi
    · rw [if_pos b]; exact inb_t (by omega) (by omega)
    · rw [if_neg b]; exact inb_t (k := 0) (by omega) (by omega)
  · rw [if_neg a]
    by_cases b : 0 < r
    · rw [if_pos b]
      have e : r = iN r.toNatClampNeg := (Int32.ofNat_toNatClampNeg r (Int32.le_of_lt b)).symm
      have hb := Int32.toNatClampNeg_lt r
      rw [e] at a ⊢
      have := mt (iN_lt (by omega) hb).mpr a
      exact inb_t (by omega) (by omega)
    · rw [if_neg b]; exact inb_t (k := 0) (by omega) (by omega)
theorem tV0_inb (R : RF) (W : Nat → Int32) (h : inb (W 2) 20 = true) : inb (tV R 0 W) 20 = true := by
  unfold tV
  cases R 0 W with
  | none =>
    obtain ⟨k, hk, e⟩ := inb_ex h
    show inb (if W 2 - 1 < 0 then 0 else W 2 - 1) 20 = true
    rw [e]
    cases k with
    | zero => rfl
    | succ k =>
      rw [show iN (k + 1) - 1 = iN (k + 1 - 1) from iN_sub (n := 1) (by omega), if_neg (iN_nn (by omega))]
      exact inb_t (by omega) (by omega)
  | some r => exact cl_inb 19 (by omega) r
theorem tV1_inb (R : RF) (W : Nat → Int32) : inb (tV R 1 W) 10 = true := by
  unfold tV
  cases R 1 W with
  | none => rfl
  | some r => exact cl_inb 9 (by omega) r
/-- words that are none of them BROKEN -/
def QN (Q : Nat → Int32) : Prop := ∀ w, w < 8 → ¬ Q w = -2000000000
/-- what is asked of a row: a GATE, a GOER, as so many -/
def qG (f : Nat → Int32) (p g : Nat) (m : Int32) : Nat → Int32 := QW (f (56 + g)) (f (15 + g)) m (f (66 + p)) (iN g) (iN p) (f 35) (f 90)
theorem iN_nb {n : Nat} (h : n < 2147483648) : ¬ iN n = -2000000000 := by
  intro e
  have := congrArg Int32.toInt e
  rw [iN_int h, show (-2000000000 : Int32).toInt = -2000000000 by decide] at this
  omega
theorem qG_nb {f : Nat → Int32} (h : WF f) {p g : Nat} (hp : p < 5) (hg : g < 10) {m : Int32} (hm : inb m 20 = true) : QN (qG f p g m) := by
  obtain ⟨w0, w1, w2, w3, w4, w5, w6, w7, w8, w9, w10⟩ := h
  intro w hw
  have : w = 0 ∨ w = 1 ∨ w = 2 ∨ w = 3 ∨ w = 4 ∨ w = 5 ∨ w = 6 ∨ w = 7 := by omega
  rcases this with rfl | rfl | rfl | rfl | rfl | rfl | rfl | rfl
  · exact inb_nb (w6 g hg).2.2 (by omega)
  · exact inb_nb (w0.2.1 g hg).1 (by omega)
  · exact inb_nb hm (by omega)
  · exact inb_nb (w7 p hp) (by omega)
  · exact iN_nb (by omega)
  · exact iN_nb (by omega)
  · exact inb_nb w0.2.2 (by omega)
  · exact inb_nb w10 (by omega)
/-- the reference asks -/
theorem setsGate_eq (x : XT) (T : ST) (p g : Nat) (hp : p < 5) (hg : g < 10) (m : Int32) : ∃ T', gfX11_setsGate_130 x T (iN p) (iN g) m = some ((), T') ∧ (∀ c, 8 ≤ c → c ≤ 15 → T'.2.1 142 (c - 8) = qG (T.2.1 132) p g m (lw c)) ∧ T'.2.1 132 = T.2.1 132 := by
  obtain ⟨T', h1, h2, h3⟩ := asked_eq x T (T.2.1 132 (56 + g)) (T.2.1 132 (15 + g)) m (T.2.1 132 (66 + p)) (iN g) (iN p)
  refine ⟨T', ?_, h2, h3⟩
  unfold gfX11_setsGate_130 bfX11_setsGate_130_0
  rw [show (56 : Int32) + iN g = iN (56 + g) from iN_add 56 g, show (15 : Int32) + iN g = iN (15 + g) from iN_add 15 g, show (66 : Int32) + iN p = iN (66 + p) from iN_add 66 p, inb_t (show 56 + g < 5703 by omega) (by omega), inb_t (show 15 + g < 5703 by omega) (by omega), inb_t (show 66 + p < 5703 by omega) (by omega), iN_nat (by omega), iN_nat (by omega), iN_nat (by omega), h1]
  rfl
theorem agA {W : WS} {S S' : ST} (h : Agr W S S') (hw : W.2.1 = []) : S'.2.1 = S.2.1 := by
  funext a
  exact h.2.1 a (by rw [hw]; simp)

theorem toldQ1 (x : XT) (S : ST) (f : Nat → Int32) (R : RF) (hR : LR x S 1 f R) (Q : Nat → Int32) (hq : ∀ w, w < 8 → S.2.1 21 w = Q w) (hn : QN Q) (v : Nat) (hv : v ≤ 2) : ∃ st', gfX0_told_20_1 x S (iN (260 + v)) = some (tV R v Q, wkT S st') := by
  obtain ⟨st', h⟩ := told1 x S f R hR (fun w hw => by rw [hq w hw]; exact hn w hw) v hv
  refine ⟨st', ?_⟩
  rw [h]
  have := hR.tVe (W := S.2.1 21) (W' := Q) hq v
  unfold tV at this ⊢
  rw [this]
theorem regU1 (x : XT) (S : ST) (k a m : Int32) : ∃ W, gfX0_regardUnknown_20_1 x S k a m = some ((), wA S 21 W) ∧ ∀ w, w < 8 → W w = QW k a m 0 (-1) (-1) (S.2.1 (1 + 13) 0) (S.2.1 (1 + 13) 2) w := by
  refine ⟨u1 (u1 (u1 (u1 (u1 (u1 (u1 (u1 (S.2.1 21) 0 k) 1 a) 2 m) 3 0) 4 (-1)) 5 (-1)) 6 (S.2.1 (1 + 13) 0)) 7 (S.2.1 (1 + 13) 2), ?_, ?_⟩
  · unfold gfX0_regardUnknown_20_1 bfX0_regardUnknown_20_1_0 wA
    rw [show u2 S.2.1 21 0 k = u1 S.2.1 21 (u1 (S.2.1 21) 0 k) from rfl, u2_u1, u2_u1, u2_u1, u2_u1, u2_u1, u2_u1, u2_u1]
  · intro w hw
    have : w = 0 ∨ w = 1 ∨ w = 2 ∨ w = 3 ∨ w = 4 ∨ w = 5 ∨ w = 6 ∨ w = 7 := by omega
    rcases this with rfl | rfl | rfl | rfl | rfl | rfl | rfl | rfl <;> rfl
theorem reg1 (x : XT) (S : ST) (f : Nat → Int32) (hK : KA S 1 f) (p g : Nat) (hp : p < 5) (hg : g < 10) (m : Int32) : ∃ W, gfX0_regard_20_1 x S (iN p) (iN g) m = some ((), wA S 21 W) ∧ ∀ w, w < 8 → W w = qG f p g m w := by
  obtain ⟨h0, h6, h11, h16, h18, hgs, hps, hs, ht0, ht1, ht2⟩ := hK
  obtain ⟨W, e1, e2⟩ := regU1 x S (S.2.1 (1 + 3) g) (S.2.1 (1 + 4) g) m
  have e1 : gfX0_regardUnknown_20_1 x S (S.2.1 4 g) (S.2.1 5 g) m = some ((), wA S 21 W) := e1
  refine ⟨u1 (u1 (u1 W 3 (S.2.1 (1 + 8) p)) 4 (iN g)) 5 (iN p), ?_, ?_⟩
  · unfold gfX0_regard_20_1 bfX0_regard_20_1_0
    rw [inb_t hg (by omega), inb_t hp (by omega), iN_nat (by omega), iN_nat (by omega), e1]
    simp only [cond_true]
    rw [wA_n S W (show 9 ≠ 21 by decide)]
    unfold wA
    dsimp only
    rw [u2_u1, u2_u1, u2_u1]
  · intro w hw
    obtain ⟨-, -, k3, k4, -⟩ := hgs g hg
    obtain ⟨-, -, k8, -⟩ := hps p hp
    unfold qG
    rw [← k3, ← k4, ← k8, ← ht0, ← ht2]
    have : w = 0 ∨ w = 1 ∨ w = 2 ∨ w = 3 ∨ w = 4 ∨ w = 5 ∨ w = 6 ∨ w = 7 := by omega
    rcases this with rfl | rfl | rfl | rfl | rfl | rfl | rfl | rfl
    · exact (e2 0 (by omega)).trans rfl
    · exact (e2 1 (by omega)).trans rfl
    · exact (e2 2 (by omega)).trans rfl
    · rfl
    · rfl
    · rfl
    · exact (e2 6 (by omega)).trans rfl
    · exact (e2 7 (by omega)).trans rfl
theorem LR.w1 {x : XT} {S : ST} {f : Nat → Int32} {R : RF} (h : LR x S 1 f R) (W st : Nat → Int32) : LR x (wA S 21 W) 1 f R ∧ LR x (wkT (wA S 21 W) st) 1 f R := by
  have a1 : Agr ([], [21, 22], [], []) S (wA S 21 W) := Agr.ic Agr.rf 21 W (by decide)
  have a2 : Agr ([], [21, 22], [], []) S (wkT (wA S 21 W) st) := Agr.ic a1 22 st (by decide)
  exact ⟨h.sm (a1.sm (by decide)), h.sm (a2.sm (by decide))⟩

theorem toldQ55 (x : XT) (S : ST) (f : Nat → Int32) (R : RF) (hR : LR x S 55 f R) (Q : Nat → Int32) (hq : ∀ w, w < 8 → S.2.1 21 w = Q w) (hn : QN Q) (v : Nat) (hv : v ≤ 2) : ∃ st', gfX0_told_20_55 x S (iN (260 + v)) = some (tV R v Q, wkT S st') := by
  obtain ⟨st', h⟩ := told55 x S f R hR (fun w hw => by rw [hq w hw]; exact hn w hw) v hv
  refine ⟨st', ?_⟩
  rw [h]
  have := hR.tVe (W := S.2.1 21) (W' := Q) hq v
  unfold tV at this ⊢
  rw [this]
theorem regU55 (x : XT) (S : ST) (k a m : Int32) : ∃ W, gfX0_regardUnknown_20_55 x S k a m = some ((), wA S 21 W) ∧ ∀ w, w < 8 → W w = QW k a m 0 (-1) (-1) (S.2.1 (55 + 13) 0) (S.2.1 (55 + 13) 2) w := by
  refine ⟨u1 (u1 (u1 (u1 (u1 (u1 (u1 (u1 (S.2.1 21) 0 k) 1 a) 2 m) 3 0) 4 (-1)) 5 (-1)) 6 (S.2.1 (55 + 13) 0)) 7 (S.2.1 (55 + 13) 2), ?_, ?_⟩
  · unfold gfX0_regardUnknown_20_55 bfX0_regardUnknown_20_55_0 wA
    rw [show u2 S.2.1 21 0 k = u1 S.2.1 21 (u1 (S.2.1 21) 0 k) from rfl, u2_u1, u2_u1, u2_u1, u2_u1, u2_u1, u2_u1, u2_u1]
  · intro w hw
    have : w = 0 ∨ w = 1 ∨ w = 2 ∨ w = 3 ∨ w = 4 ∨ w = 5 ∨ w = 6 ∨ w = 7 := by omega
    rcases this with rfl | rfl | rfl | rfl | rfl | rfl | rfl | rfl <;> rfl
theorem reg55 (x : XT) (S : ST) (f : Nat → Int32) (hK : KA S 55 f) (p g : Nat) (hp : p < 5) (hg : g < 10) (m : Int32) : ∃ W, gfX0_regard_20_55 x S (iN p) (iN g) m = some ((), wA S 21 W) ∧ ∀ w, w < 8 → W w = qG f p g m w := by
  obtain ⟨h0, h6, h11, h16, h18, hgs, hps, hs, ht0, ht1, ht2⟩ := hK
  obtain ⟨W, e1, e2⟩ := regU55 x S (S.2.1 (55 + 3) g) (S.2.1 (55 + 4) g) m
  have e1 : gfX0_regardUnknown_20_55 x S (S.2.1 58 g) (S.2.1 59 g) m = some ((), wA S 21 W) := e1
  refine ⟨u1 (u1 (u1 W 3 (S.2.1 (55 + 8) p)) 4 (iN g)) 5 (iN p), ?_, ?_⟩
  · unfold gfX0_regard_20_55 bfX0_regard_20_55_0
    rw [inb_t hg (by omega), inb_t hp (by omega), iN_nat (by omega), iN_nat (by omega), e1]
    simp only [cond_true]
    rw [wA_n S W (show 63 ≠ 21 by decide)]
    unfold wA
    dsimp only
    rw [u2_u1, u2_u1, u2_u1]
  · intro w hw
    obtain ⟨-, -, k3, k4, -⟩ := hgs g hg
    obtain ⟨-, -, k8, -⟩ := hps p hp
    unfold qG
    rw [← k3, ← k4, ← k8, ← ht0, ← ht2]
    have : w = 0 ∨ w = 1 ∨ w = 2 ∨ w = 3 ∨ w = 4 ∨ w = 5 ∨ w = 6 ∨ w = 7 := by omega
    rcases this with rfl | rfl | rfl | rfl | rfl | rfl | rfl | rfl
    · exact (e2 0 (by omega)).trans rfl
    · exact (e2 1 (by omega)).trans rfl
    · exact (e2 2 (by omega)).trans rfl
    · rfl
    · rfl
    · rfl
    · exact (e2 6 (by omega)).trans rfl
    · exact (e2 7 (by omega)).trans rfl
theorem LR.w55 {x : XT} {S : ST} {f : Nat → Int32} {R : RF} (h : LR x S 55 f R) (W st : Nat → Int32) : LR x (wA S 21 W) 55 f R ∧ LR x (wkT (wA S 21 W) st) 55 f R := by
  have a1 : Agr ([], [21, 22], [], []) S (wA S 21 W) := Agr.ic Agr.rf 21 W (by decide)
  have a2 : Agr ([], [21, 22], [], []) S (wkT (wA S 21 W) st) := Agr.ic a1 22 st (by decide)
  exact ⟨h.sm (a1.sm (by decide)), h.sm (a2.sm (by decide))⟩

theorem toldQ84 (x : XT) (S : ST) (f : Nat → Int32) (R : RF) (hR : LR x S 84 f R) (Q : Nat → Int32) (hq : ∀ w, w < 8 → S.2.1 21 w = Q w) (hn : QN Q) (v : Nat) (hv : v ≤ 2) : ∃ st', gfX0_told_20_84 x S (iN (260 + v)) = some (tV R v Q, wkT S st') := by
  obtain ⟨st', h⟩ := told84 x S f R hR (fun w hw => by rw [hq w hw]; exact hn w hw) v hv
  refine ⟨st', ?_⟩
  rw [h]
  have := hR.tVe (W := S.2.1 21) (W' := Q) hq v
  unfold tV at this ⊢
  rw [this]
theorem regU84 (x : XT) (S : ST) (k a m : Int32) : ∃ W, gfX0_regardUnknown_20_84 x S k a m = some ((), wA S 21 W) ∧ ∀ w, w < 8 → W w = QW k a m 0 (-1) (-1) (S.2.1 (84 + 13) 0) (S.2.1 (84 + 13) 2) w := by
  refine ⟨u1 (u1 (u1 (u1 (u1 (u1 (u1 (u1 (S.2.1 21) 0 k) 1 a) 2 m) 3 0) 4 (-1)) 5 (-1)) 6 (S.2.1 (84 + 13) 0)) 7 (S.2.1 (84 + 13) 2), ?_, ?_⟩
  · unfold gfX0_regardUnknown_20_84 bfX0_regardUnknown_20_84_0 wA
    rw [show u2 S.2.1 21 0 k = u1 S.2.1 21 (u1 (S.2.1 21) 0 k) from rfl, u2_u1, u2_u1, u2_u1, u2_u1, u2_u1, u2_u1, u2_u1]
  · intro w hw
    have : w = 0 ∨ w = 1 ∨ w = 2 ∨ w = 3 ∨ w = 4 ∨ w = 5 ∨ w = 6 ∨ w = 7 := by omega
    rcases this with rfl | rfl | rfl | rfl | rfl | rfl | rfl | rfl <;> rfl
theorem reg84 (x : XT) (S : ST) (f : Nat → Int32) (hK : KA S 84 f) (p g : Nat) (hp : p < 5) (hg : g < 10) (m : Int32) : ∃ W, gfX0_regard_20_84 x S (iN p) (iN g) m = some ((), wA S 21 W) ∧ ∀ w, w < 8 → W w = qG f p g m w := by
  obtain ⟨h0, h6, h11, h16, h18, hgs, hps, hs, ht0, ht1, ht2⟩ := hK
  obtain ⟨W, e1, e2⟩ := regU84 x S (S.2.1 (84 + 3) g) (S.2.1 (84 + 4) g) m
  have e1 : gfX0_regardUnknown_20_84 x S (S.2.1 87 g) (S.2.1 88 g) m = some ((), wA S 21 W) := e1
  refine ⟨u1 (u1 (u1 W 3 (S.2.1 (84 + 8) p)) 4 (iN g)) 5 (iN p), ?_, ?_⟩
  · unfold gfX0_regard_20_84 bfX0_regard_20_84_0
    rw [inb_t hg (by omega), inb_t hp (by omega), iN_nat (by omega), iN_nat (by omega), e1]
    simp only [cond_true]
    rw [wA_n S W (show 92 ≠ 21 by decide)]
    unfold wA
    dsimp only
    rw [u2_u1, u2_u1, u2_u1]
  · intro w hw
    obtain ⟨-, -, k3, k4, -⟩ := hgs g hg
    obtain ⟨-, -, k8, -⟩ := hps p hp
    unfold qG
    rw [← k3, ← k4, ← k8, ← ht0, ← ht2]
    have : w = 0 ∨ w = 1 ∨ w = 2 ∨ w = 3 ∨ w = 4 ∨ w = 5 ∨ w = 6 ∨ w = 7 := by omega
    rcases this with rfl | rfl | rfl | rfl | rfl | rfl | rfl | rfl
    · exact (e2 0 (by omega)).trans rfl
    · exact (e2 1 (by omega)).trans rfl
    · exact (e2 2 (by omega)).trans rfl
    · rfl
    · rfl
    · rfl
    · exact (e2 6 (by omega)).trans rfl
    · exact (e2 7 (by omega)).trans rfl
theorem LR.w84 {x : XT} {S : ST} {f : Nat → Int32} {R : RF} (h : LR x S 84 f R) (W st : Nat → Int32) : LR x (wA S 21 W) 84 f R ∧ LR x (wkT (wA S 21 W) st) 84 f R := by
  have a1 : Agr ([], [21, 22], [], []) S (wA S 21 W) := Agr.ic Agr.rf 21 W (by decide)
  have a2 : Agr ([], [21, 22], [], []) S (wkT (wA S 21 W) st) := Agr.ic a1 22 st (by decide)
  exact ⟨h.sm (a1.sm (by decide)), h.sm (a2.sm (by decide))⟩

theorem can1 (x : XT) (S T : ST) (hK : RK x S 1 (T.2.1 132)) (R : RF) (hR : LR x S 1 (T.2.1 132) R) (p g : Nat) (hp : p < 5) (hg : g < 10) : ∃ r S' T', gfX0_can_20_1 x S (iN p) (iN g) = some (r, S') ∧ gfX11_canGo_130 x T (iN p) (iN g) = some (r, T') ∧ (r = 0 ∨ r = 1) := by
  obtain ⟨k1, -, -, -, k5⟩ := hK.1.2.2.2.2.2.1 g hg
  obtain ⟨q6, q7, -, -⟩ := hK.1.2.2.2.2.2.2.1 p hp
  have k1 : S.2.1 2 g = T.2.1 132 (36 + g) := k1
  have k5 : S.2.1 6 g = T.2.1 132 (25 + g) := k5
  have q6 : S.2.1 7 p = T.2.1 132 p := q6
  have q7 : S.2.1 8 p = T.2.1 132 (5 + p) := q7
  unfold gfX0_can_20_1 bfX0_can_20_1_0 bfX0_can_20_1_24 bfX0_can_20_1_55 gfX11_canGo_130 bfX11_canGo_130_0 bfX11_canGo_130_32 bfX11_canGo_130_60
  rw [show (36 : Int32) + iN g = iN (36 + g) from iN_add 36 g, show (0 : Int32) + iN p = iN (0 + p) from iN_add 0 p, show (25 : Int32) + iN g = iN (25 + g) from iN_add 25 g, show (5 : Int32) + iN p = iN (5 + p) from iN_add 5 p, Nat.zero_add, inb_t hp (by omega), inb_t hg (by omega), inb_t (show 36 + g < 5703 by omega) (by omega), inb_t (show p < 5703 by omega) (by omega), inb_t (show 25 + g < 5703 by omega) (by omega), inb_t (show 5 + p < 5703 by omega) (by omega), iN_nat (by omega), iN_nat (by omega), iN_nat (by omega), iN_nat (by omega), iN_nat (by omega), k1, k5, q6, q7]
  simp only [cond_true]
  by_cases c1 : T.2.1 132 (36 + g) = T.2.1 132 p
  · rw [if_neg (show ¬ ¬ T.2.1 132 p = T.2.1 132 (36 + g) from fun h => h c1.symm), if_neg (show ¬ ¬ T.2.1 132 (36 + g) = T.2.1 132 p from fun h => h c1)]
    by_cases c2 : T.2.1 132 (25 + g) = 0
    · rw [if_neg (show ¬ ¬ T.2.1 132 (25 + g) = 0 from fun h => h c2), if_neg (show ¬ ¬ T.2.1 132 (25 + g) = 0 from fun h => h c2)]
      exact ⟨0, _, _, rfl, rfl, Or.inl rfl⟩
    · rw [if_pos c2, if_pos c2]
      obtain ⟨W, e1, e2⟩ := reg1 x S (T.2.1 132) hK.1 p g hp hg (T.2.1 132 (5 + p))
      have hn := qG_nb hK.2.1 hp hg (hK.2.1.1.1 p hp).2.1
      obtain ⟨st, e3⟩ := toldQ1 x (wA S 21 W) (T.2.1 132) R (hR.w1 W W).1 (qG (T.2.1 132) p g (T.2.1 132 (5 + p))) (fun w hw => by rw [wA_s]; exact e2 w hw) hn 2 (by omega)
      obtain ⟨T1, f1, f2, f3⟩ := setsGate_eq x T p g hp hg (T.2.1 132 (5 + p))
      obtain ⟨T2, f4⟩ := refBars x S 1 T1 R (by rw [f3]; exact hR) _ f2
      rw [e1, f1]
      dsimp only
      rw [show (262 : Int32) = iN (260 + 2) from rfl, e3, f4]
      dsimp only
      rcases tV_bar hR (qG (T.2.1 132) p g (T.2.1 132 (5 + p))) with e | e
      · rw [e, if_neg (fun h => h rfl), if_neg (fun h => h rfl)]
        exact ⟨1, _, _, rfl, rfl, Or.inr rfl⟩
      · rw [e, if_pos (by decide), if_pos (by decide)]
        exact ⟨0, _, _, rfl, rfl, Or.inl rfl⟩
  · rw [if_pos (show ¬ T.2.1 132 p = T.2.1 132 (36 + g) from fun h => c1 h.symm), if_pos c1]
    exact ⟨0, _, _, rfl, rfl, Or.inl rfl⟩
theorem move1 (x : XT) (S T : ST) (hK : RK x S 1 (T.2.1 132)) (R : RF) (hR : LR x S 1 (T.2.1 132) R) (p g : Nat) (hp : p < 5) (hg : g < 10) : ∃ r pd S' T', gfX0_move_20_1 x S (iN p) (iN g) = some ((), S') ∧ gfX11_goesNow_130 x T (iN p) (iN g) = some (r, T') ∧ inb r 20 = true ∧ inb pd 10000 = true ∧ T'.2.1 132 = u1 (u1 (u1 (T.2.1 132) p (T.2.1 132 (46 + g))) (5 + p) r) (10 + p) pd ∧ KA S' 1 (T'.2.1 132) ∧ S'.2.1 8 p = r := by
  obtain ⟨-, k2, -, -, -⟩ := hK.1.2.2.2.2.2.1 g hg
  obtain ⟨q6, q7, -, q9⟩ := hK.1.2.2.2.2.2.2.1 p hp
  have k2 : S.2.1 3 g = T.2.1 132 (46 + g) := k2
  have q7 : S.2.1 8 p = T.2.1 132 (5 + p) := q7
  have q9 : S.2.1 10 p = T.2.1 132 (10 + p) := q9
  obtain ⟨W, e1, e2⟩ := reg1 x S (T.2.1 132) hK.1 p g hp hg (T.2.1 132 (5 + p))
  have hm := (hK.2.1.1.1 p hp).2.1
  have hn := qG_nb hK.2.1 hp hg hm
  obtain ⟨st, e3⟩ := toldQ1 x (wA S 21 W) (T.2.1 132) R (hR.w1 W W).1 (qG (T.2.1 132) p g (T.2.1 132 (5 + p))) (fun w hw => by rw [wA_s]; exact e2 w hw) hn 0 (by omega)
  obtain ⟨st2, e4⟩ := toldQ1 x (wkT (wA S 21 W) st) (T.2.1 132) R (hR.w1 W st).2 (qG (T.2.1 132) p g (T.2.1 132 (5 + p))) (fun w hw => by rw [wkT_n _ _ (by decide), wA_s]; exact e2 w hw) hn 1 (by omega)
  obtain ⟨T1, f1, f2, f3⟩ := setsGate_eq x T p g hp hg (T.2.1 132 (5 + p))
  obtain ⟨T2, f4⟩ := refTurns x S 1 T1 R (by rw [f3]; exact hR) _ f2
  have a2 := agA (frX11_turnsNow_130 x T1 _ _ f4) rfl
  obtain ⟨T3, f5⟩ := refPays x S 1 T2 R (by rw [a2, f3]; exact hR) _ (by rw [a2]; exact f2)
  have a3 := agA (frX11_paysNow_130 x T2 _ _ f5) rfl
  have t3 : T3.2.1 132 = T.2.1 132 := by rw [a3, a2, f3]
  generalize hr : tV R 0 (qG (T.2.1 132) p g (T.2.1 132 (5 + p))) = r at e3 f4
  generalize hy : tV R 1 (qG (T.2.1 132) p g (T.2.1 132 (5 + p))) = y at e4 f5
  have ir : inb r 20 = true := by rw [← hr]; exact tV0_inb R _ hm
  have iy : inb y 10 = true := by rw [← hy]; exact tV1_inb R _
  generalize hS3 : wkT (wkT (wA S 21 W) st) st2 = S3 at e4
  have s3 : ∀ a, a ≠ 21 → a ≠ 22 → S3.2.1 a = S.2.1 a := fun a h1 h2 => by rw [← hS3, wkT_n _ _ h2, wkT_n _ _ h2, wA_n _ _ h1]
  have K3 : KA S3 1 (T.2.1 132) := by
    have a1 : Agr ([], [21, 22], [], []) S (wA S 21 W) := Agr.ic Agr.rf 21 W (by decide)
    have a2 : Agr ([], [21, 22], [], []) S S3 := by rw [← hS3]; exact Agr.ic (Agr.ic a1 22 st (by decide)) 22 st2 (by decide)
    exact hK.1.cg (a2.sm (by decide))
  obtain ⟨py, hpy, epy⟩ := inb_ex (hK.2.1.1.1 p hp).2.2
  obtain ⟨yy, hyy, eyy⟩ := inb_ex iy
  refine ⟨r, (if 9999 < T.2.1 132 (10 + p) + y then 9999 else T.2.1 132 (10 + p) + y), (S3.1, u2 (u2 (u2 S3.2.1 7 p (T.2.1 132 (46 + g))) 8 p r) 10 p (if 9999 < T.2.1 132 (10 + p) + y then 9999 else T.2.1 132 (10 + p) + y), S3.2.2.1, S3.2.2.2), (T3.1, u2 (u2 (u2 T3.2.1 132 p (T.2.1 132 (46 + g))) 132 (5 + p) r) 132 (10 + p) (if 9999 < T.2.1 132 (10 + p) + y then 9999 else T.2.1 132 (10 + p) + y), T3.2.2.1, T3.2.2.2), ?_, ?_, ir, ?_, ?_, ?_, ?_⟩
  · unfold gfX0_move_20_1 bfX0_move_20_1_0
    rw [inb_t hp (by omega), inb_t hg (by omega), iN_nat (by omega), iN_nat (by omega), q7, e1]
    dsimp only
    rw [show (260 : Int32) = iN (260 + 0) from rfl, e3]
    dsimp only
    rw [show (261 : Int32) = iN (260 + 1) from rfl, e4]
    simp only [cond_true]
    rw [s3 3 (by decide) (by decide), s3 10 (by decide) (by decide), k2, q9]
  · unfold gfX11_goesNow_130 bfX11_goesNow_130_0
    rw [show (5 : Int32) + iN p = iN (5 + p) from iN_add 5 p, show (46 : Int32) + iN g = iN (46 + g) from iN_add 46 g, show (0 : Int32) + iN p = iN (0 + p) from iN_add 0 p, show (10 : Int32) + iN p = iN (10 + p) from iN_add 10 p, Nat.zero_add, inb_t (show 5 + p < 5703 by omega) (by omega), inb_t (show 46 + g < 5703 by omega) (by omega), inb_t (show p < 5703 by omega) (by omega), inb_t (show 10 + p < 5703 by omega) (by omega), iN_nat (by omega), iN_nat (by omega), iN_nat (by omega), iN_nat (by omega), f1]
    dsimp only
    rw [f4]
    dsimp only
    rw [f5]
    simp only [cond_true]
    rw [u2_k _ _ _ (show 10 + p ≠ 5 + p by omega), u2_k _ _ _ (show 10 + p ≠ p by omega), t3]
    unfold gfX11_lesser bfX11_lesser_0 bfX11_lesser_10
    by_cases c : 9999 < T.2.1 132 (10 + p) + y
    · rw [if_neg (Int32.not_le.mpr c), if_pos c]
    · rw [if_pos (Int32.not_lt.mp c), if_neg c]
  · rw [epy, eyy, iN_add]
    by_cases c : 9999 < iN (py + yy)
    · rw [if_pos c]; rfl
    · rw [if_neg c]
      have := mt (iN_lt (m := 9999) (by omega) (by omega)).mpr c
      exact inb_t (by omega) (by omega)
  · show (u2 (u2 (u2 T3.2.1 132 p _) 132 (5 + p) r) 132 (10 + p) _) 132 = _
    rw [u2_row, u2_row, u2_row, t3]
  · show KA _ 1 ((u2 (u2 (u2 T3.2.1 132 p _) 132 (5 + p) r) 132 (10 + p) _) 132)
    rw [u2_row, u2_row, u2_row, t3]
    exact ((K3.a6 p hp _).a7 p hp r).a9 p hp _
  · dsimp only
    rw [u2_ro _ _ _ (by decide), u2_s]

theorem can84 (x : XT) (S T : ST) (hK : RK x S 84 (T.2.1 132)) (R : RF) (hR : LR x S 84 (T.2.1 132) R) (p g : Nat) (hp : p < 5) (hg : g < 10) : ∃ r S' T', gfX0_can_20_84 x S (iN p) (iN g) = some (r, S') ∧ gfX11_canGo_130 x T (iN p) (iN g) = some (r, T') ∧ (r = 0 ∨ r = 1) := by
  obtain ⟨k1, -, -, -, k5⟩ := hK.1.2.2.2.2.2.1 g hg
  obtain ⟨q6, q7, -, -⟩ := hK.1.2.2.2.2.2.2.1 p hp
  have k1 : S.2.1 85 g = T.2.1 132 (36 + g) := k1
  have k5 : S.2.1 89 g = T.2.1 132 (25 + g) := k5
  have q6 : S.2.1 90 p = T.2.1 132 p := q6
  have q7 : S.2.1 91 p = T.2.1 132 (5 + p) := q7
  unfold gfX0_can_20_84 bfX0_can_20_84_0 bfX0_can_20_84_24 bfX0_can_20_84_55 gfX11_canGo_130 bfX11_canGo_130_0 bfX11_canGo_130_32 bfX11_canGo_130_60
  rw [show (36 : Int32) + iN g = iN (36 + g) from iN_add 36 g, show (0 : Int32) + iN p = iN (0 + p) from iN_add 0 p, show (25 : Int32) + iN g = iN (25 + g) from iN_add 25 g, show (5 : Int32) + iN p = iN (5 + p) from iN_add 5 p, Nat.zero_add, inb_t hp (by omega), inb_t hg (by omega), inb_t (show 36 + g < 5703 by omega) (by omega), inb_t (show p < 5703 by omega) (by omega), inb_t (show 25 + g < 5703 by omega) (by omega), inb_t (show 5 + p < 5703 by omega) (by omega), iN_nat (by omega), iN_nat (by omega), iN_nat (by omega), iN_nat (by omega), iN_nat (by omega), k1, k5, q6, q7]
  simp only [cond_true]
  by_cases c1 : T.2.1 132 (36 + g) = T.2.1 132 p
  · rw [if_neg (show ¬ ¬ T.2.1 132 p = T.2.1 132 (36 + g) from fun h => h c1.symm), if_neg (show ¬ ¬ T.2.1 132 (36 + g) = T.2.1 132 p from fun h => h c1)]
    by_cases c2 : T.2.1 132 (25 + g) = 0
    · rw [if_neg (show ¬ ¬ T.2.1 132 (25 + g) = 0 from fun h => h c2), if_neg (show ¬ ¬ T.2.1 132 (25 + g) = 0 from fun h => h c2)]
      exact ⟨0, _, _, rfl, rfl, Or.inl rfl⟩
    · rw [if_pos c2, if_pos c2]
      obtain ⟨W, e1, e2⟩ := reg84 x S (T.2.1 132) hK.1 p g hp hg (T.2.1 132 (5 + p))
      have hn := qG_nb hK.2.1 hp hg (hK.2.1.1.1 p hp).2.1
      obtain ⟨st, e3⟩ := toldQ84 x (wA S 21 W) (T.2.1 132) R (hR.w84 W W).1 (qG (T.2.1 132) p g (T.2.1 132 (5 + p))) (fun w hw => by rw [wA_s]; exact e2 w hw) hn 2 (by omega)
      obtain ⟨T1, f1, f2, f3⟩ := setsGate_eq x T p g hp hg (T.2.1 132 (5 + p))
      obtain ⟨T2, f4⟩ := refBars x S 84 T1 R (by rw [f3]; exact hR) _ f2
      rw [e1, f1]
      dsimp only
      rw [show (262 : Int32) = iN (260 + 2) from rfl, e3, f4]
      dsimp only
      rcases tV_bar hR (qG (T.2.1 132) p g (T.2.1 132 (5 + p))) with e | e
      · rw [e, if_neg (fun h => h rfl), if_neg (fun h => h rfl)]
        exact ⟨1, _, _, rfl, rfl, Or.inr rfl⟩
      · rw [e, if_pos (by decide), if_pos (by decide)]
        exact ⟨0, _, _, rfl, rfl, Or.inl rfl⟩
  · rw [if_pos (show ¬ T.2.1 132 p = T.2.1 132 (36 + g) from fun h => c1 h.symm), if_pos c1]
    exact ⟨0, _, _, rfl, rfl, Or.inl rfl⟩
theorem move84 (x : XT) (S T : ST) (hK : RK x S 84 (T.2.1 132)) (R : RF) (hR : LR x S 84 (T.2.1 132) R) (p g : Nat) (hp : p < 5) (hg : g < 10) : ∃ r pd S' T', gfX0_move_20_84 x S (iN p) (iN g) = some ((), S') ∧ gfX11_goesNow_130 x T (iN p) (iN g) = some (r, T') ∧ inb r 20 = true ∧ inb pd 10000 = true ∧ T'.2.1 132 = u1 (u1 (u1 (T.2.1 132) p (T.2.1 132 (46 + g))) (5 + p) r) (10 + p) pd ∧ KA S' 84 (T'.2.1 132) ∧ S'.2.1 91 p = r := by
  obtain ⟨-, k2, -, -, -⟩ := hK.1.2.2.2.2.2.1 g hg
  obtain ⟨q6, q7, -, q9⟩ := hK.1.2.2.2.2.2.2.1 p hp
  have k2 : S.2.1 86 g = T.2.1 132 (46 + g) := k2
  have q7 : S.2.1 91 p = T.2.1 132 (5 + p) := q7
  have q9 : S.2.1 93 p = T.2.1 132 (10 + p) := q9
  obtain ⟨W, e1, e2⟩ := reg84 x S (T.2.1 132) hK.1 p g hp hg (T.2.1 132 (5 + p))
  have hm := (hK.2.1.1.1 p hp).2.1
  have hn := qG_nb hK.2.1 hp hg hm
  obtain ⟨st, e3⟩ := toldQ84 x (wA S 21 W) (T.2.1 132) R (hR.w84 W W).1 (qG (T.2.1 132) p g (T.2.1 132 (5 + p))) (fun w hw => by rw [wA_s]; exact e2 w hw) hn 0 (by omega)
  obtain ⟨st2, e4⟩ := toldQ84 x (wkT (wA S 21 W) st) (T.2.1 132) R (hR.w84 W st).2 (qG (T.2.1 132) p g (T.2.1 132 (5 + p))) (fun w hw => by rw [wkT_n _ _ (by decide), wA_s]; exact e2 w hw) hn 1 (by omega)
  obtain ⟨T1, f1, f2, f3⟩ := setsGate_eq x T p g hp hg (T.2.1 132 (5 + p))
  obtain ⟨T2, f4⟩ := refTurns x S 84 T1 R (by rw [f3]; exact hR) _ f2
  have a2 := agA (frX11_turnsNow_130 x T1 _ _ f4) rfl
  obtain ⟨T3, f5⟩ := refPays x S 84 T2 R (by rw [a2, f3]; exact hR) _ (by rw [a2]; exact f2)
  have a3 := agA (frX11_paysNow_130 x T2 _ _ f5) rfl
  have t3 : T3.2.1 132 = T.2.1 132 := by rw [a3, a2, f3]
  generalize hr : tV R 0 (qG (T.2.1 132) p g (T.2.1 132 (5 + p))) = r at e3 f4
  generalize hy : tV R 1 (qG (T.2.1 132) p g (T.2.1 132 (5 + p))) = y at e4 f5
  have ir : inb r 20 = true := by rw [← hr]; exact tV0_inb R _ hm
  have iy : inb y 10 = true := by rw [← hy]; exact tV1_inb R _
  generalize hS3 : wkT (wkT (wA S 21 W) st) st2 = S3 at e4
  have s3 : ∀ a, a ≠ 21 → a ≠ 22 → S3.2.1 a = S.2.1 a := fun a h1 h2 => by rw [← hS3, wkT_n _ _ h2, wkT_n _ _ h2, wA_n _ _ h1]
  have K3 : KA S3 84 (T.2.1 132) := by
    have a1 : Agr ([], [21, 22], [], []) S (wA S 21 W) := Agr.ic Agr.rf 21 W (by decide)
    have a2 : Agr ([], [21, 22], [], []) S S3 := by rw [← hS3]; exact Agr.ic (Agr.ic a1 22 st (by decide)) 22 st2 (by decide)
    exact hK.1.cg (a2.sm (by decide))
  obtain ⟨py, hpy, epy⟩ := inb_ex (hK.2.1.1.1 p hp).2.2
  obtain ⟨yy, hyy, eyy⟩ := inb_ex iy
  refine ⟨r, (if 9999 < T.2.1 132 (10 + p) + y then 9999 else T.2.1 132 (10 + p) + y), (S3.1, u2 (u2 (u2 S3.2.1 90 p (T.2.1 132 (46 + g))) 91 p r) 93 p (if 9999 < T.2.1 132 (10 + p) + y then 9999 else T.2.1 132 (10 + p) + y), S3.2.2.1, S3.2.2.2), (T3.1, u2 (u2 (u2 T3.2.1 132 p (T.2.1 132 (46 + g))) 132 (5 + p) r) 132 (10 + p) (if 9999 < T.2.1 132 (10 + p) + y then 9999 else T.2.1 132 (10 + p) + y), T3.2.2.1, T3.2.2.2), ?_, ?_, ir, ?_, ?_, ?_, ?_⟩
  · unfold gfX0_move_20_84 bfX0_move_20_84_0
    rw [inb_t hp (by omega), inb_t hg (by omega), iN_nat (by omega), iN_nat (by omega), q7, e1]
    dsimp only
    rw [show (260 : Int32) = iN (260 + 0) from rfl, e3]
    dsimp only
    rw [show (261 : Int32) = iN (260 + 1) from rfl, e4]
    simp only [cond_true]
    rw [s3 86 (by decide) (by decide), s3 93 (by decide) (by decide), k2, q9]
  · unfold gfX11_goesNow_130 bfX11_goesNow_130_0
    rw [show (5 : Int32) + iN p = iN (5 + p) from iN_add 5 p, show (46 : Int32) + iN g = iN (46 + g) from iN_add 46 g, show (0 : Int32) + iN p = iN (0 + p) from iN_add 0 p, show (10 : Int32) + iN p = iN (10 + p) from iN_add 10 p, Nat.zero_add, inb_t (show 5 + p < 5703 by omega) (by omega), inb_t (show 46 + g < 5703 by omega) (by omega), inb_t (show p < 5703 by omega) (by omega), inb_t (show 10 + p < 5703 by omega) (by omega), iN_nat (by omega), iN_nat (by omega), iN_nat (by omega), iN_nat (by omega), f1]
    dsimp only
    rw [f4]
    dsimp only
    rw [f5]
    simp only [cond_true]
    rw [u2_k _ _ _ (show 10 + p ≠ 5 + p by omega), u2_k _ _ _ (show 10 + p ≠ p by omega), t3]
    unfold gfX11_lesser bfX11_lesser_0 bfX11_lesser_10
    by_cases c : 9999 < T.2.1 132 (10 + p) + y
    · rw [if_neg (Int32.not_le.mpr c), if_pos c]
    · rw [if_pos (Int32.not_lt.mp c), if_neg c]
  · rw [epy, eyy, iN_add]
    by_cases c : 9999 < iN (py + yy)
    · rw [if_pos c]; rfl
    · rw [if_neg c]
      have := mt (iN_lt (m := 9999) (by omega) (by omega)).mpr c
      exact inb_t (by omega) (by omega)
  · show (u2 (u2 (u2 T3.2.1 132 p _) 132 (5 + p) r) 132 (10 + p) _) 132 = _
    rw [u2_row, u2_row, u2_row, t3]
  · show KA _ 84 ((u2 (u2 (u2 T3.2.1 132 p _) 132 (5 + p) r) 132 (10 + p) _) 132)
    rw [u2_row, u2_row, u2_row, t3]
    exact ((K3.a6 p hp _).a7 p hp r).a9 p hp _
  · dsimp only
    rw [u2_ro _ _ _ (by decide), u2_s]
end CAN
