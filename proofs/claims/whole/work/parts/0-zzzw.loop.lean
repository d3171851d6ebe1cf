section RUNLOOP
/-- the ORDERS that both have read -/
def OX (S0 T0 : ST) (cd vl : Nat → Int32) (n Z C : Nat) (P J V M : Nat → Nat) (dA dB dT : Nat → DN) : Prop := Ld (T0.2.1 132) cd vl n ∧ S0.1 25 0 = iN C ∧ S0.1 25 1 = iN Z ∧ Z ≤ 400 ∧ 1 ≤ C ∧ C ≤ 12 ∧ P 0 = 0 ∧ ∀ c, c < C → P (c + 1) = J c + 1 ∧ J c ≤ n ∧ OCl cd vl (S0.2.1 29) (S0.2.1 26) (S0.2.1 27) (S0.2.1 28) Z c (P c) (J c) (V c) (M c) (dA c) (dB c) (dT c) ∧ (c + 1 < C → J c < n ∧ cd (J c) = iN 159) ∧ (c + 1 = C → J c = n)
theorem OCl.in {cd vl cs vb tm bd : Nat → Int32} {Z c i j u t : Nat} {dA dB dT : DN} (h : OCl cd vl cs vb tm bd Z c i j u t dA dB dT) : i < j ∧ tm c = iN t ∧ 1 ≤ t ∧ t ≤ 20 := by
  obtain ⟨j1, j2, a0, a1, a2, a3, N, k1, k2, hu, hci, -, htm, -, -, -, -, -, hA, hB, hT⟩ := h
  have lT := (tail_le hT).1
  have lB : j1 ≤ j2 := by
    rcases hB with ⟨-, y, -⟩ | ⟨-, -, y⟩
    · omega
    · have := y.lt; omega
  have lA : i < j1 := by
    rcases hA with ⟨-, y, -⟩ | ⟨-, -, y⟩
    · omega
    · have := y.lt; omega
  obtain ⟨j3, N3, k3, t1, t2, -⟩ := hT
  exact ⟨by omega, htm, t1, t2⟩
theorem run_in (x : XT) {S0 T0 : ST} {cd vl : Nat → Int32} {n Z c i j u t : Nat} {dA dB dT : DN} (hL : Ld (T0.2.1 132) cd vl n) (hsz : S0.1 25 1 = iN Z) (hZ : Z ≤ 400) (hc : c < 12) (hO : OCl cd vl (S0.2.1 29) (S0.2.1 26) (S0.2.1 27) (S0.2.1 28) Z c i j u t dA dB dT) (hj : j ≤ n) (he : cd j = iN 159 ∨ j = n) (K : ST → Int32 → Option (Int32 × ST)) : ∀ (d m k f1 f2 : Nat) (S T : ST), m + d = t → d < f1 → d < f2 → k + d < 1000 → OI x S0 T0 S T k → T.1 130 44 = iN (i + 2400) →
    (∃ S' T' k', lfX5_run_51_25_22 x K f1 S (iN c) (iN m) = K S' (iN (c + 1)) ∧ lfX11_runs_130_19 x f2 T (iN (2400 + n)) (iN t) (iN (j + 2401)) (iN m) = some (1, T') ∧ OI x S0 T0 S' T' k' ∧ k' ≤ k + d ∧ T'.1 130 44 = iN (j + 2401)) ∨ (∃ S' T', lfX5_run_51_25_22 x K f1 S (iN c) (iN m) = some (iN c, S') ∧ lfX11_runs_130_19 x f2 T (iN (2400 + n)) (iN t) (iN (j + 2401)) (iN m) = some (0, T') ∧ OF x S0 T0 S' T')
  | 0, m, k, f1, f2, S, T, hm, hf1, hf2, hk, hI, e44 => by
    obtain ⟨f1, rfl⟩ : ∃ z, f1 = z + 1 := ⟨f1 - 1, by omega⟩
    obtain ⟨f2, rfl⟩ : ∃ z, f2 = z + 1 := ⟨f2 - 1, by omega⟩
    have : m = t := by omega
    subst this
    have htm := hO.in.2.1
    have s27 : S.2.1 27 = S0.2.1 27 := hI.2.1.2.1 27 (by decide)
    rw [lfX5_run_51_25_22, bfX5_run_51_25_22, lfX11_runs_130_19, bfX11_runs_130_19, inb_t hc (by omega), cond_true, iN_nat (by omega), s27, htm, if_pos (Int32.le_refl _), if_pos (Int32.le_refl _), iN_succ]
    exact Or.inl ⟨S, _, k, rfl, rfl, hI.p44 _, by omega, u2_s T.1 130 44 _⟩
  | d + 1, m, k, f1, f2, S, T, hm, hf1, hf2, hk, hI, e44 => by
    obtain ⟨f1, rfl⟩ : ∃ z, f1 = z + 1 := ⟨f1 - 1, by omega⟩
    obtain ⟨f2, rfl⟩ : ∃ z, f2 = z + 1 := ⟨f2 - 1, by omega⟩
    have htm := hO.in.2
    have s27 : S.2.1 27 = S0.2.1 27 := hI.2.1.2.1 27 (by decide)
    have hmt : ¬ iN t ≤ iN m := fun z => by have := (iN_le (by omega) (by omega)).mp z; omega
    rw [lfX5_run_51_25_22, bfX5_run_51_25_22, lfX11_runs_130_19, inb_t hc (by omega), cond_true, iN_nat (by omega), s27, htm.1, if_neg hmt]
    rcases once x hI (by omega) hL hsz hZ hc hO hj he e44 (lfX11_runs_130_19 x f2) (iN t) (iN (j + 2401)) (iN m) hmt with ⟨S', T', k', q1, q2, q3, q4, q5⟩ | ⟨S', T', q1, q2, q3⟩
    · rw [q1, q2]
      dsimp only
      rw [if_pos (show ¬ (1 : Int32) = 0 by decide), iN_succ]
      rcases run_in x hL hsz hZ hc hO hj he K d (m + 1) k' f1 f2 S' T' (by omega) (by omega) (by omega) (by omega) q3 (q5.trans e44) with ⟨S2, T2, k2, w1, w2, w3, w4, w5⟩ | ⟨S2, T2, w1, w2, w3⟩
      · exact Or.inl ⟨S2, T2, k2, w1, w2, w3, by omega, w5⟩
      · exact Or.inr ⟨S2, T2, w1, w2, w3⟩
    · rw [q1, q2]
      dsimp only
      rw [if_neg (show ¬ ¬ (0 : Int32) = 0 from fun z => z rfl)]
      exact Or.inr ⟨S', T', rfl, rfl, q3⟩
theorem runs_eq (x : XT) {S0 T0 : ST} {cd vl : Nat → Int32} {n Z c i j u t : Nat} {dA dB dT : DN} (hL : Ld (T0.2.1 132) cd vl n) (hsz : S0.1 25 1 = iN Z) (hZ : Z ≤ 400) (hc : c < 12) (hO : OCl cd vl (S0.2.1 29) (S0.2.1 26) (S0.2.1 27) (S0.2.1 28) Z c i j u t dA dB dT) (hj : j ≤ n) (he : cd j = iN 159 ∨ j = n) (K : ST → Int32 → Option (Int32 × ST)) (k : Nat) (hk : k + 20 < 1000) (S T : ST) (hI : OI x S0 T0 S T k) (e44 : T.1 130 44 = iN (i + 2400)) :
    (∃ S' T' k', lfX5_run_51_25_22 x K 20000 S (iN c) 0 = K S' (iN (c + 1)) ∧ gfX11_runs_130 x T (iN (2400 + n)) = some (1, T') ∧ OI x S0 T0 S' T' k' ∧ k' ≤ k + 20 ∧ T'.1 130 44 = iN (j + 2401)) ∨ (∃ S' T', lfX5_run_51_25_22 x K 20000 S (iN c) 0 = some (iN c, S') ∧ gfX11_runs_130 x T (iN (2400 + n)) = some (0, T') ∧ OF x S0 T0 S' T') := by
  obtain ⟨G, hG, g1, g2⟩ := hI.1.gates
  obtain ⟨P, hP, p1, p2⟩ := hI.1.goers
  obtain ⟨X, r1, r2, r3, r4⟩ := goes x T cd vl _ _ _ _ n (hL.hi hI.2.2.2.1) G P hG hP g2 p2 Z c i j u t dA dB dT hO hj he e44 0 (Or.inl rfl)
  have fT := frX11_goesAlong_130 x T _ _ _ _ r1
  have hX := hI.sc Agr.rf fT
  have t20 := hO.in.2.2.2
  unfold gfX11_runs_130 bfX11_runs_130_0
  rw [r1]
  dsimp only
  rw [r3, r2.1]
  have := run_in x hL hsz hZ hc hO hj he K t 0 k 20000 20000 S X (by omega) (by omega) (by omega) (by omega) hX ((fT.1 130 44 (by decide)).trans e44)
  rw [show iN 0 = 0 from rfl] at this
  rcases this with ⟨S2, T2, k2, w1, w2, w3, w4, w5⟩ | ⟨S2, T2, w1, w2, w3⟩
  · exact Or.inl ⟨S2, T2, k2, w1, w2, w3, by omega, w5⟩
  · exact Or.inr ⟨S2, T2, w1, w2, w3⟩
theorem run_out (x : XT) {S0 T0 : ST} {cd vl : Nat → Int32} {n Z C : Nat} {P J V M : Nat → Nat} {dA dB dT : Nat → DN} (hX : OX S0 T0 cd vl n Z C P J V M dA dB dT) (v1 : Int32) : ∀ (d c k f1 f2 : Nat) (S T : ST), c + d = C → d < f1 → d < f2 → k + 20 * d < 900 → OI x S0 T0 S T k → T.1 130 44 = iN (P c + 2400) →
    (∃ S' T' k', lfX5_run_51_25_12 x f1 S (iN c) = some (-1, S') ∧ lfX11_orders_130_95 x f2 T v1 (iN (2400 + n)) (iN c) = some (iN k', gG T') ∧ OI x S0 T0 S' T' k' ∧ k' < 900) ∨ (∃ S' T' c', lfX5_run_51_25_12 x f1 S (iN c) = some (iN c', S') ∧ c' < 12 ∧ lfX11_orders_130_95 x f2 T v1 (iN (2400 + n)) (iN c) = lfX11_orders_130_122 x 20000 (wA T' 132 (va_cpy (T'.2.1 135) (T'.2.1 132) 36 0 36)) v1 (iN c') 0 ∧ OF x S0 T0 S' T')
  | 0, c, k, f1, f2, S, T, hc, hf1, hf2, hk, hI, e44 => by
    obtain ⟨f1, rfl⟩ : ∃ z, f1 = z + 1 := ⟨f1 - 1, by omega⟩
    obtain ⟨f2, rfl⟩ : ∃ z, f2 = z + 1 := ⟨f2 - 1, by omega⟩
    obtain ⟨hL, x0, x1, hZ, C1, C12, P0, hcl⟩ := hX
    have hn := hL.1
    have e : c = C := by omega
    have s25 : S.1 25 0 = iN c := by rw [hI.2.1.1 25 0 (by decide), e]; exact x0
    obtain ⟨y1, y2, y3, y4, y5⟩ := hcl (C - 1) (by omega)
    rw [show C - 1 + 1 = C by omega] at y1 y4 y5
    have y6 := y5 rfl
    rw [lfX5_run_51_25_12, bfX5_run_51_25_12, lfX11_orders_130_95, bfX11_orders_130_95, s25, if_pos (Int32.le_refl _), e44, if_pos ((iN_le (by omega) (by rw [e, y1]; omega)).mpr (by rw [e, y1]; omega)), hI.2.2.2.2.2.1, good_eq]
    exact Or.inl ⟨S, T, k, rfl, rfl, hI, by omega⟩
  | d + 1, c, k, f1, f2, S, T, hc, hf1, hf2, hk, hI, e44 => by
    obtain ⟨f1, rfl⟩ : ∃ z, f1 = z + 1 := ⟨f1 - 1, by omega⟩
    obtain ⟨f2, rfl⟩ : ∃ z, f2 = z + 1 := ⟨f2 - 1, by omega⟩
    have hX' := hX
    obtain ⟨hL, x0, x1, hZ, C1, C12, P0, hcl⟩ := hX
    have hn := hL.1
    have s25 : S.1 25 0 = iN C := by rw [hI.2.1.1 25 0 (by decide)]; exact x0
    obtain ⟨y1, y2, y3, y4, y5⟩ := hcl c (by omega)
    have hin := y3.in
    have he : cd (J c) = iN 159 ∨ J c = n := by
      by_cases z : c + 1 < C
      · exact Or.inl (y4 z).2
      · exact Or.inr (y5 (by omega))
    rw [lfX5_run_51_25_12, bfX5_run_51_25_12, lfX11_orders_130_95, bfX11_orders_130_95, s25, if_neg (fun z => by have := (iN_le (by omega) (by omega)).mp z; omega), e44, if_neg (fun z => by have := (iN_le (by omega) (by omega)).mp z; omega)]
    rcases runs_eq x hL x1 hZ (by omega) y3 y2 he (lfX5_run_51_25_12 x f1) k (by omega) S T hI e44 with ⟨S2, T2, k2, w1, w2, w3, w4, w5⟩ | ⟨S2, T2, w1, w2, w3⟩
    · rw [w1, w2]
      dsimp only
      rw [if_neg (show ¬ (1 : Int32) = 0 by decide), iN_succ]
      exact run_out x hX' v1 d (c + 1) k2 f1 f2 S2 T2 (by omega) (by omega) (by omega) (by omega) w3 (by rw [w5, y1])
    · rw [w1, w2]
      dsimp only
      have tk := takes_eq x T2 1 (by omega)
      rw [show iN 1 = 1 from rfl] at tk
      rw [if_pos (show (0 : Int32) = 0 from rfl), tk]
      exact Or.inr ⟨S2, T2, c, rfl, by omega, rfl, w3⟩
end RUNLOOP
