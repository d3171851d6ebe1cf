section DAYS
/-! small numbers as Int64 -/
def jN (n : Nat) : Int64 := Int64.ofNat n
theorem jN_int {n : Nat} (h : n < 9223372036854775808) : (jN n).toInt = (n : Int) := Int64.toInt_ofNat_of_lt h
theorem jN_add (m n : Nat) : jN m + jN n = jN (m + n) := (Int64.ofNat_add m n).symm
theorem jN_mul (m n : Nat) : jN m * jN n = jN (m * n) := (Int64.ofNat_mul m n).symm
theorem jN_sub {m n : Nat} (h : n ≤ m) : jN m - jN n = jN (m - n) := by
  have h1 : jN (m - n) + jN n = jN m := by rw [jN_add, Nat.sub_add_cancel h]
  rw [← h1, Int64.add_sub_cancel]
theorem jN_div {m n : Nat} (hm : m < 9223372036854775808) (hn : n < 9223372036854775808) : jN m / jN n = jN (m / n) := by
  apply Int64.toInt_inj.mp
  have hd : m / n < 9223372036854775808 := Nat.lt_of_le_of_lt (Nat.div_le_self m n) hm
  rw [Int64.toInt_div_of_ne_right _ _ (by
    intro h
    have := congrArg Int64.toInt h
    rw [jN_int hn] at this
    have h1 : (-1 : Int64).toInt = -1 := rfl
    omega), jN_int hm, jN_int hn, jN_int hd]
  rfl
theorem jN_mod {m n : Nat} (hm : m < 9223372036854775808) (hn : n < 9223372036854775808) : jN m - jN m / jN n * jN n = jN (m % n) := by
  rw [jN_div hm hn, jN_mul, jN_sub (Nat.div_mul_le_self m n)]
  congr 1
  have := Nat.div_add_mod m n
  rw [Nat.mul_comm] at this
  omega
theorem jN_iN {n : Nat} (h : n < 2147483648) : (iN n).toInt64 = jN n := by
  apply Int64.toInt_inj.mp
  rw [Int32.toInt_toInt64, iN_int h, jN_int (by omega)]
theorem iN_lN {n : Nat} (h : n < 2147483648) : (jN n).toInt32 = iN n := by
  rw [← jN_iN h, Int32.toInt32_toInt64]
def nS (s : Nat) : Nat := (1103 * s + 12345) % 1000003
theorem nS_lt (s : Nat) : nS s < 1000003 := Nat.mod_lt _ (by decide)
theorem drawC (x : XT) (S : ST) (s L : Nat) (hs : s < 1000003) (hL : 1 ≤ L) (hL2 : L ≤ 10) (h : S.1 83 2 = iN s) : gfX2_draw_83 x S (iN L) = some (iN (nS s % L), (u2 S.1 83 2 (iN (nS s)), S.2.1, S.2.2.1, S.2.2.2)) := by
  have e1 : iN s * 1103 + 12345 = iN (1103 * s + 12345) := by
    rw [show (1103 : Int32) = iN 1103 from rfl, iN_mul, show (12345 : Int32) = iN 12345 from rfl, iN_add, Nat.mul_comm]
  have e2 : iN (1103 * s + 12345) - iN (1103 * s + 12345) / 1000003 * 1000003 = iN (nS s) := iN_mod (n := 1000003) (by omega) (by omega)
  have e3 : iN (nS s) - iN (nS s) / iN L * iN L = iN (nS s % L) := iN_mod (by have := nS_lt s; omega) (by omega)
  unfold gfX2_draw_83 bfX2_draw_83_0 bfX2_draw_83_33
  rw [h, e1, e2, e3, if_neg (fun hh => by have := (iN_le (n := 0) (by omega) (by omega)).mp hh; omega), show nzi (iN L) = true by unfold nzi; rw [decide_eq_false (fun hh => by have := (iN_eq (n := 0) (by omega) (by omega)).mp hh; omega)]; rfl, cond_true]
theorem drawR (x : XT) (T : ST) (s L : Nat) (hs : s < 1000003) (hL : 1 ≤ L) (hL2 : L ≤ 10) (h : T.1 130 52 = iN s) : gfX11_draws_130 x T (iN L) = some (iN (nS s % L), (u2 T.1 130 52 (iN (nS s)), T.2.1, T.2.2.1, T.2.2.2)) := by
  have e1 : 1103 * (iN s).toInt64 + 12345 = jN (1103 * s + 12345) := by
    rw [jN_iN (by omega), show (1103 : Int64) = jN 1103 from rfl, jN_mul, show (12345 : Int64) = jN 12345 from rfl, jN_add]
  have e2 : jN (1103 * s + 12345) - jN (1103 * s + 12345) / 1000003 * 1000003 = jN (nS s) := jN_mod (n := 1000003) (by omega) (by omega)
  have e3 : iN (nS s) - iN (nS s) / iN L * iN L = iN (nS s % L) := iN_mod (by have := nS_lt s; omega) (by omega)
  unfold gfX11_draws_130 bfX11_draws_130_0
  rw [h, e1, e2, iN_lN (by have := nS_lt s; omega), e3, show nzi (iN L) = true by unfold nzi; rw [decide_eq_false (fun hh => by have := (iN_eq (n := 0) (by omega) (by omega)).mp hh; omega)]; rfl, cond_true]
theorem MW.go {f : Nat → Int32} (h : MW f) {p : Nat} (hp : p < 5) {a r pd : Int32} (ha : inb a 6 = true) (hr : inb r 20 = true) (hd : inb pd 10000 = true) : MW (u1 f p a) ∧ MW (u1 (u1 f p a) (5 + p) r) ∧ MW (u1 (u1 (u1 f p a) (5 + p) r) (10 + p) pd) := by
  have h1 := h.put p a (fun p' hp' => ⟨fun _ => ha, fun e => by omega, fun e => by omega⟩) (fun g' hg' => ⟨fun e => by omega, fun e => by omega⟩) (fun e => by omega)
  have h2 := h1.put (5 + p) r (fun p' hp' => ⟨fun e => by omega, fun _ => hr, fun e => by omega⟩) (fun g' hg' => ⟨fun e => by omega, fun e => by omega⟩) (fun e => by omega)
  have h3 := h2.put (10 + p) pd (fun p' hp' => ⟨fun e => by omega, fun e => by omega, fun _ => hd⟩) (fun g' hg' => ⟨fun e => by omega, fun e => by omega⟩) (fun e => by omega)
  exact ⟨h1, h2, h3⟩
theorem WF.go {f : Nat → Int32} (h : WF f) {p : Nat} (hp : p < 5) {a r pd : Int32} (ha : inb a 6 = true) (hr : inb r 20 = true) (hd : inb pd 10000 = true) : WF (u1 (u1 (u1 f p a) (5 + p) r) (10 + p) pd) := by
  obtain ⟨m1, m2, m3⟩ := h.1.go hp ha hr hd
  exact ((h.m p a (by omega) m1).m (5 + p) r (by omega) m2).m (10 + p) pd (by omega) m3
def wDS : WS := ([(83, 2)], [21, 22, 90, 91, 93, 97], [], [])
def wDT : WS := ([(130, 52), (130, 22), (130, 23), (130, 24), (130, 25)], [132, 142], [], [])
set_option maxRecDepth 4000 in
theorem days_loop (x : XT) (n P G : Nat) (hn : n ≤ 60) (hP : 1 ≤ P) (hP5 : P ≤ 5) (hG : 1 ≤ G) (hG10 : G ≤ 10) : ∀ (m k fuel : Nat) (S T : ST) (s c : Nat), k + m = n → m < fuel → RK x S 84 (T.2.1 132) → S.1 83 2 = iN s → T.1 130 52 = iN s → s < 1000003 → T.2.1 132 92 = iN P → T.2.1 132 91 = iN G → c ≤ k → ∃ S1 T1 c', lfX2_run_83_1_19 x fuel S (iN n) (iN c) (iN k) = some (iN c', S1) ∧ lfX11_days_130_76 x fuel T (iN n) (iN c) (iN k) = bfX11_days_130_158 x T1 (iN c') ∧ RK x S1 84 (T1.2.1 132) ∧ Agr wDS S S1 ∧ Agr wDT T T1 ∧ (∀ i, 36 ≤ i → T1.2.1 132 i = T.2.1 132 i) ∧ c' ≤ n := by
  intro m
  induction m with
  | zero =>
    intro k fuel S T s c hk hf hK hs hr hs2 h92 h91 hc
    obtain ⟨fuel, rfl⟩ : ∃ z, fuel = z + 1 := ⟨fuel - 1, by omega⟩
    refine ⟨S, T, c, ?_, ?_, hK, Agr.rf, Agr.rf, fun _ _ => rfl, by omega⟩
    · rw [lfX2_run_83_1_19, bfX2_run_83_1_19, if_pos ((iN_le (by omega) (by omega)).mpr (by omega))]; rfl
    · rw [lfX11_days_130_76, bfX11_days_130_76, if_pos ((iN_le (by omega) (by omega)).mpr (by omega))]
  | succ m ih =>
    intro k fuel S T s c hk hf hK hs hr hs2 h92 h91 hc
    obtain ⟨fuel, rfl⟩ : ∃ z, fuel = z + 1 := ⟨fuel - 1, by omega⟩
    have s6 : S.1 84 6 = iN P := hK.1.2.1.trans h92
    have s0 : S.1 84 0 = iN G := hK.1.1.trans h91
    obtain ⟨dd, hd, ed⟩ := inb_ex hK.2.1.1.2.2
    have k8 : S.2.1 97 0 = T.2.1 132 35 := hK.1.2.2.2.2.2.2.2.2.1
    rw [lfX2_run_83_1_19, bfX2_run_83_1_19, lfX11_days_130_76, bfX11_days_130_76, if_neg (show ¬ iN n ≤ iN k from fun h => by have := (iN_le (by omega) (by omega)).mp h; omega), if_neg (show ¬ iN n ≤ iN k from fun h => by have := (iN_le (by omega) (by omega)).mp h; omega), k8, ed]
    by_cases h999 : 999 ≤ dd
    · have e : (999 : Int32) ≤ iN dd := (iN_le (m := 999) (by omega) (by omega)).mpr h999
      rw [if_pos e, if_pos e]
      exact ⟨S, T, c, rfl, rfl, hK, Agr.rf, Agr.rf, fun _ _ => rfl, by omega⟩
    · have e : ¬ (999 : Int32) ≤ iN dd := fun h => h999 ((iN_le (m := 999) (by omega) (by omega)).mp h)
      rw [if_neg e, if_neg e, s6, h92, drawC x S s P hs2 hP (by omega) hs, drawR x T s P hs2 hP (by omega) hr]
      dsimp only
      rw [gateMany_eq]
      dsimp only
      have hs1 := nS_lt s
      generalize nS s = s1 at hs1
      have s0' : (u2 S.1 83 2 (iN s1)) 84 0 = iN G := by rw [u2_n _ _ _ _ (by decide)]; exact s0
      have sd1 : (u2 S.1 83 2 (iN s1)) 83 2 = iN s1 := u2_s _ _ _ _
      have sd2 : (u2 T.1 130 52 (iN s1)) 130 52 = iN s1 := u2_s _ _ _ _
      rw [s0', h91, drawC x (u2 S.1 83 2 (iN s1), S.2.1, S.2.2.1, S.2.2.2) s1 G hs1 hG hG10 sd1, drawR x (u2 T.1 130 52 (iN s1), T.2.1, T.2.2.1, T.2.2.2) s1 G hs1 hG hG10 sd2]
      dsimp only
      rw [u2_u2, u2_u2]
      have hp : s1 % P < P := Nat.mod_lt _ (by omega)
      have hs3 := nS_lt s1
      generalize nS s1 = s2 at hs3
      have hg : s2 % G < G := Nat.mod_lt _ (by omega)
      generalize s1 % P = p at hp
      generalize s2 % G = g at hg
      have aS : Agr wDS S (u2 S.1 83 2 (iN (s2)), S.2.1, S.2.2.1, S.2.2.2) := Agr.f Agr.rf 83 2 _ (by decide)
      have aT : Agr wDT T (u2 T.1 130 52 (iN (s2)), T.2.1, T.2.2.1, T.2.2.2) := Agr.f Agr.rf 130 52 _ (by decide)
      have K2 : RK x (u2 S.1 83 2 (iN (s2)), S.2.1, S.2.2.1, S.2.2.2) 84 (T.2.1 132) := hK.cg ((Agr.f (W := ([(83, 2)], [], [], [])) Agr.rf 83 2 _ (by decide)).sm (by decide))
      have s6' : (u2 S.1 83 2 (iN (s2))) 84 6 = iN P := by rw [u2_n _ _ _ _ (by decide)]; exact s6
      have s0'' : (u2 S.1 83 2 (iN (s2))) 84 0 = iN G := by rw [u2_n _ _ _ _ (by decide)]; exact s0
      have seed : (u2 S.1 83 2 (iN (s2))) 83 2 = iN (s2) := u2_s _ _ _ _
      have seed2 : (u2 T.1 130 52 (iN (s2))) 130 52 = iN (s2) := u2_s _ _ _ _
      rw [hasGoer_eq84 x (u2 S.1 83 2 (iN (s2)), S.2.1, S.2.2.1, S.2.2.2) (iN p) P (by omega) s6', inb_t hp (by omega)]
      dsimp only
      rw [if_neg (show ¬ bz true = 0 by decide), hasGate_eq84 x (u2 S.1 83 2 (iN (s2)), S.2.1, S.2.2.1, S.2.2.2) (iN g) G (by omega) s0'', inb_t hg (by omega)]
      dsimp only
      rw [if_neg (show ¬ bz true = 0 by decide)]
      generalize hS2 : ((u2 S.1 83 2 (iN (s2)), S.2.1, S.2.2.1, S.2.2.2) : ST) = S2 at aS K2
      generalize hT2 : ((u2 T.1 130 52 (iN (s2)), T.2.1, T.2.2.1, T.2.2.2) : ST) = T2 at aT
      have t2 : T2.2.1 = T.2.1 := by rw [← hT2]
      have seed : S2.1 83 2 = iN (s2) := by rw [← hS2]; exact seed
      have seed2 : T2.1 130 52 = iN (s2) := by rw [← hT2]; exact seed2
      have K2 : RK x S2 84 (T2.2.1 132) := by rw [t2]; exact K2
      obtain ⟨R, hR⟩ := K2.lr
      obtain ⟨r, S3, T3, e1, e2, e3⟩ := can84 x S2 T2 K2 R hR p g (by omega) (by omega)
      have f1 := frX0_can_20_84 x S2 _ _ _ _ e1
      have f2 := frX11_canGo_130 x T2 _ _ _ _ e2
      have t3 : T3.2.1 132 = T2.2.1 132 := f2.2.1 132 (by decide)
      have K3 : RK x S3 84 (T3.2.1 132) := by rw [t3]; exact K2.cg (f1.sm (by decide))
      -- the day passes
      have tick : ∀ (S4 T4 : ST) (c : Nat), c ≤ k + 1 → RK x S4 84 (T4.2.1 132) → Agr wDS S S4 → Agr wDT T T4 → S4.1 83 2 = iN (s2) → T4.1 130 52 = iN (s2) → T4.2.1 132 35 = iN dd → (∀ i, 36 ≤ i → T4.2.1 132 i = T.2.1 132 i) → ∃ S1 T1 c', bfX2_run_83_1_126 x (lfX2_run_83_1_19 x fuel) S4 (iN n) (iN c) (iN k) = some (iN c', S1) ∧ bfX11_days_130_141 x (lfX11_days_130_76 x fuel) T4 (iN n) (iN c) (iN k) = bfX11_days_130_158 x T1 (iN c') ∧ RK x S1 84 (T1.2.1 132) ∧ Agr wDS S S1 ∧ Agr wDT T T1 ∧ (∀ i, 36 ≤ i → T1.2.1 132 i = T.2.1 132 i) ∧ c' ≤ n := by
        intro S4 T4 c hc K4 a4 b4 sd sd2 d4 o4
        have k84 : S4.2.1 97 0 = T4.2.1 132 35 := K4.1.2.2.2.2.2.2.2.2.1
        unfold bfX2_run_83_1_126 bfX11_days_130_141
        rw [k84, d4, iN_succ, iN_succ]
        have K5 : RK x (S4.1, u2 S4.2.1 97 0 (iN (dd + 1)), S4.2.2.1, S4.2.2.2) 84 (u1 (T4.2.1 132) 35 (iN (dd + 1))) := by
          refine ⟨K4.1.t0 _, K4.2.1.m 35 _ (by omega) (K4.2.1.1.put 35 _ (fun p hp => ⟨fun e => by omega, fun e => by omega, fun e => by omega⟩) (fun g hg => ⟨fun e => by omega, fun e => by omega⟩) (fun _ => inb_t (by omega) (by omega))), K4.2.2.cgf rfl ((Agr.i (W := ([], [97], [], [])) Agr.rf 97 0 _ (by decide)).sm (L := ([], [], [], [])) (by decide)).2.2.2 (u1_n _ _ (by omega)) (fun k hk => u1_n _ _ (by omega))⟩
        have r5 : (u2 T4.2.1 132 35 (iN (dd + 1))) 132 = u1 (T4.2.1 132) 35 (iN (dd + 1)) := u2_row _ _ _ _
        have hst := ih (k + 1) fuel (S4.1, u2 S4.2.1 97 0 (iN (dd + 1)), S4.2.2.1, S4.2.2.2) (T4.1, u2 T4.2.1 132 35 (iN (dd + 1)), T4.2.2.1, T4.2.2.2) (s2) c (by omega) (by omega) (by show RK x _ 84 (u2 T4.2.1 132 35 (iN (dd + 1)) 132); rw [r5]; exact K5) sd sd2 hs3 (by show u2 T4.2.1 132 35 (iN (dd + 1)) 132 92 = _; rw [r5, u1_n _ _ (by omega), o4 92 (by omega)]; exact h92) (by show u2 T4.2.1 132 35 (iN (dd + 1)) 132 91 = _; rw [r5, u1_n _ _ (by omega), o4 91 (by omega)]; exact h91) hc
        obtain ⟨S1, T1, c', q1, q2, q3, q4, q5, q6, q7⟩ := hst
        refine ⟨S1, T1, c', q1, q2, q3, (Agr.i a4 97 0 _ (by decide)).tr q4, (Agr.i b4 132 35 _ (by decide)).tr q5, fun i hi => ?_, q7⟩
        rw [q6 i hi]
        show u2 T4.2.1 132 35 (iN (dd + 1)) 132 i = _
        rw [r5, u1_n _ _ (by omega)]
        exact o4 i hi
      have d3 : T3.2.1 132 35 = iN dd := by rw [t3, t2]; exact ed
      have o3 : ∀ i, 36 ≤ i → T3.2.1 132 i = T.2.1 132 i := fun i _ => by rw [t3, t2]
      have a3 : Agr wDS S S3 := aS.tr (f1.sub (by decide))
      have b3 : Agr wDT T T3 := aT.tr (f2.sub (by decide))
      have sd3 : S3.1 83 2 = iN (s2) := (f1.1 83 2 (by decide)).trans seed
      have sd3' : T3.1 130 52 = iN (s2) := (f2.1 130 52 (by decide)).trans seed2
      rw [e1, e2]
      dsimp only
      rcases e3 with rfl | rfl
      · rw [if_pos rfl, if_pos rfl]
        exact tick S3 T3 c (by omega) K3 a3 b3 sd3 sd3' d3 o3
      · rw [if_neg (by decide), if_neg (by decide)]
        obtain ⟨R3, hR3⟩ := K3.lr
        obtain ⟨r, pd, S4, T4, v1, v2, ir, ip, v3, v4, v5⟩ := move84 x S3 T3 K3 R3 hR3 p g (by omega) (by omega)
        have f3 := frX0_move_20_84 x S3 _ _ _ _ v1
        have f4 := frX11_goesNow_130 x T3 _ _ _ _ v2
        rw [v1, v2]
        dsimp only
        rw [iN_succ]
        have o4 : ∀ i, 15 ≤ i → T4.2.1 132 i = T3.2.1 132 i := fun i hi => by rw [v3, u1_n _ _ (by omega), u1_n _ _ (by omega), u1_n _ _ (by omega)]
        refine tick S4 T4 (c + 1) (by omega) ⟨v4, by rw [v3]; exact K3.2.1.go (by omega) (K3.2.1.2.2.2.2.2.2.1 g (by omega)).2.1 ir ip, K3.2.2.cgf (f3.2.2.2 98 (by decide)) (f3.sm (L := ([], [], [], [])) (by decide)).2.2.2 (o4 94 (by omega)) (fun k hk => o4 k (by omega))⟩ (a3.tr (f3.sub (by decide))) (b3.tr (f4.sub (by decide))) ((f3.1 83 2 (by decide)).trans sd3) ((f4.1 130 52 (by decide)).trans sd3') ((o4 35 (by omega)).trans d3) (fun i hi => (o4 i (by omega)).trans (o3 i hi))
end DAYS
