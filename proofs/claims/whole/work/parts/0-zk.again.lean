section AGAIN
theorem fill23_l (x : XT) (v : Int32) : ∀ (m k fuel : Nat) (S : ST), k + m = 20 → m < fuel → (∀ j, j < k → S.2.1 23 j = v) → ∃ S1, lfJ7_fill_53178_23_5 x fuel S v (iN k) 20 = some ((), S1) ∧ ∀ j, j < 20 → S1.2.1 23 j = v
  | 0, k, fuel, S, hk, hf, h => by
    obtain ⟨fuel, rfl⟩ : ∃ z, fuel = z + 1 := ⟨fuel - 1, by omega⟩
    have : k = 20 := by omega
    subst this
    refine ⟨S, ?_, h⟩
    rw [lfJ7_fill_53178_23_5, bfJ7_fill_53178_23_5, if_pos (show (20 : Int32) ≤ iN 20 by decide)]
  | m + 1, k, fuel, S, hk, hf, h => by
    obtain ⟨fuel, rfl⟩ : ∃ z, fuel = z + 1 := ⟨fuel - 1, by omega⟩
    rw [lfJ7_fill_53178_23_5, bfJ7_fill_53178_23_5, if_neg (show ¬ (20 : Int32) ≤ iN k from fun hh => by have := (iN_le (m := 20) (by omega) (by omega)).mp hh; omega), inb_t (show k < 20 by omega) (by omega), cond_true, iN_nat (by omega), iN_succ]
    exact fill23_l x v m (k + 1) fuel _ (by omega) (by omega) (cp1 (B := fun _ => v) h rfl)
theorem fill23 (x : XT) (S : ST) (v : Int32) : ∃ S1, gfJ7_fill_53178_23 x S v = some ((), S1) ∧ ∀ j, j < 20 → S1.2.1 23 j = v := by
  unfold gfJ7_fill_53178_23 bfJ7_fill_53178_23_0
  exact fill23_l x v 20 0 20000 S (by omega) (by omega) (fun j hj => by omega)
theorem fill70_l (x : XT) (v : Int32) : ∀ (m k fuel : Nat) (S : ST), k + m = 200 → m < fuel → (∀ j, j < k → S.2.1 70 j = v) → ∃ S1, lfJ7_fill_53178_70_5 x fuel S v (iN k) 200 = some ((), S1) ∧ ∀ j, j < 200 → S1.2.1 70 j = v
  | 0, k, fuel, S, hk, hf, h => by
    obtain ⟨fuel, rfl⟩ : ∃ z, fuel = z + 1 := ⟨fuel - 1, by omega⟩
    have : k = 200 := by omega
    subst this
    refine ⟨S, ?_, h⟩
    rw [lfJ7_fill_53178_70_5, bfJ7_fill_53178_70_5, if_pos (show (200 : Int32) ≤ iN 200 by decide)]
  | m + 1, k, fuel, S, hk, hf, h => by
    obtain ⟨fuel, rfl⟩ : ∃ z, fuel = z + 1 := ⟨fuel - 1, by omega⟩
    rw [lfJ7_fill_53178_70_5, bfJ7_fill_53178_70_5, if_neg (show ¬ (200 : Int32) ≤ iN k from fun hh => by have := (iN_le (m := 200) (by omega) (by omega)).mp hh; omega), inb_t (show k < 200 by omega) (by omega), cond_true, iN_nat (by omega), iN_succ]
    exact fill70_l x v m (k + 1) fuel _ (by omega) (by omega) (cp1 (B := fun _ => v) h rfl)
theorem fill70 (x : XT) (S : ST) (v : Int32) : ∃ S1, gfJ7_fill_53178_70 x S v = some ((), S1) ∧ ∀ j, j < 200 → S1.2.1 70 j = v := by
  unfold gfJ7_fill_53178_70 bfJ7_fill_53178_70_0
  exact fill70_l x v 200 0 20000 S (by omega) (by omega) (fun j hj => by omega)
theorem fill72_l (x : XT) (v : Int32) : ∀ (m k fuel : Nat) (S : ST), k + m = 120 → m < fuel → (∀ j, j < k → S.2.1 72 j = v) → ∃ S1, lfJ7_fill_53178_72_5 x fuel S v (iN k) 120 = some ((), S1) ∧ ∀ j, j < 120 → S1.2.1 72 j = v
  | 0, k, fuel, S, hk, hf, h => by
    obtain ⟨fuel, rfl⟩ : ∃ z, fuel = z + 1 := ⟨fuel - 1, by omega⟩
    have : k = 120 := by omega
    subst this
    refine ⟨S, ?_, h⟩
    rw [lfJ7_fill_53178_72_5, bfJ7_fill_53178_72_5, if_pos (show (120 : Int32) ≤ iN 120 by decide)]
  | m + 1, k, fuel, S, hk, hf, h => by
    obtain ⟨fuel, rfl⟩ : ∃ z, fuel = z + 1 := ⟨fuel - 1, by omega⟩
    rw [lfJ7_fill_53178_72_5, bfJ7_fill_53178_72_5, if_neg (show ¬ (120 : Int32) ≤ iN k from fun hh => by have := (iN_le (m := 120) (by omega) (by omega)).mp hh; omega), inb_t (show k < 120 by omega) (by omega), cond_true, iN_nat (by omega), iN_succ]
    exact fill72_l x v m (k + 1) fuel _ (by omega) (by omega) (cp1 (B := fun _ => v) h rfl)
theorem fill72 (x : XT) (S : ST) (v : Int32) : ∃ S1, gfJ7_fill_53178_72 x S v = some ((), S1) ∧ ∀ j, j < 120 → S1.2.1 72 j = v := by
  unfold gfJ7_fill_53178_72 bfJ7_fill_53178_72_0
  exact fill72_l x v 120 0 20000 S (by omega) (by omega) (fun j hj => by omega)
theorem fill76_l (x : XT) (v : Int32) : ∀ (m k fuel : Nat) (S : ST), k + m = 120 → m < fuel → (∀ j, j < k → S.2.1 76 j = v) → ∃ S1, lfJ7_fill_53178_76_5 x fuel S v (iN k) 120 = some ((), S1) ∧ ∀ j, j < 120 → S1.2.1 76 j = v
  | 0, k, fuel, S, hk, hf, h => by
    obtain ⟨fuel, rfl⟩ : ∃ z, fuel = z + 1 := ⟨fuel - 1, by omega⟩
    have : k = 120 := by omega
    subst this
    refine ⟨S, ?_, h⟩
    rw [lfJ7_fill_53178_76_5, bfJ7_fill_53178_76_5, if_pos (show (120 : Int32) ≤ iN 120 by decide)]
  | m + 1, k, fuel, S, hk, hf, h => by
    obtain ⟨fuel, rfl⟩ : ∃ z, fuel = z + 1 := ⟨fuel - 1, by omega⟩
    rw [lfJ7_fill_53178_76_5, bfJ7_fill_53178_76_5, if_neg (show ¬ (120 : Int32) ≤ iN k from fun hh => by have := (iN_le (m := 120) (by omega) (by omega)).mp hh; omega), inb_t (show k < 120 by omega) (by omega), cond_true, iN_nat (by omega), iN_succ]
    exact fill76_l x v m (k + 1) fuel _ (by omega) (by omega) (cp1 (B := fun _ => v) h rfl)
theorem fill76 (x : XT) (S : ST) (v : Int32) : ∃ S1, gfJ7_fill_53178_76 x S v = some ((), S1) ∧ ∀ j, j < 120 → S1.2.1 76 j = v := by
  unfold gfJ7_fill_53178_76 bfJ7_fill_53178_76_0
  exact fill76_l x v 120 0 20000 S (by omega) (by omega) (fun j hj => by omega)
theorem fill77_l (x : XT) (v : Int32) : ∀ (m k fuel : Nat) (S : ST), k + m = 120 → m < fuel → (∀ j, j < k → S.2.1 77 j = v) → ∃ S1, lfJ7_fill_53178_77_5 x fuel S v (iN k) 120 = some ((), S1) ∧ ∀ j, j < 120 → S1.2.1 77 j = v
  | 0, k, fuel, S, hk, hf, h => by
    obtain ⟨fuel, rfl⟩ : ∃ z, fuel = z + 1 := ⟨fuel - 1, by omega⟩
    have : k = 120 := by omega
    subst this
    refine ⟨S, ?_, h⟩
    rw [lfJ7_fill_53178_77_5, bfJ7_fill_53178_77_5, if_pos (show (120 : Int32) ≤ iN 120 by decide)]
  | m + 1, k, fuel, S, hk, hf, h => by
    obtain ⟨fuel, rfl⟩ : ∃ z, fuel = z + 1 := ⟨fuel - 1, by omega⟩
    rw [lfJ7_fill_53178_77_5, bfJ7_fill_53178_77_5, if_neg (show ¬ (120 : Int32) ≤ iN k from fun hh => by have := (iN_le (m := 120) (by omega) (by omega)).mp hh; omega), inb_t (show k < 120 by omega) (by omega), cond_true, iN_nat (by omega), iN_succ]
    exact fill77_l x v m (k + 1) fuel _ (by omega) (by omega) (cp1 (B := fun _ => v) h rfl)
theorem fill77 (x : XT) (S : ST) (v : Int32) : ∃ S1, gfJ7_fill_53178_77 x S v = some ((), S1) ∧ ∀ j, j < 120 → S1.2.1 77 j = v := by
  unfold gfJ7_fill_53178_77 bfJ7_fill_53178_77_0
  exact fill77_l x v 120 0 20000 S (by omega) (by omega) (fun j hj => by omega)
/-- the same scratch of asking, on both sides -/
def wQ : WS := ([], [21, 22, 23], [], [])
def wV : WS := ([(130, 22), (130, 23), (130, 24), (130, 25)], [142, 152], [], [])
set_option maxRecDepth 4000 in
theorem again_loop (x : XT) (p g : Nat) (hp : p < 5) (hg : g < 10) (va vr : Int32) (hv : va = 0 ↔ ¬ vr = 0) : ∀ (q k fuel : Nat) (S T : ST) (m : Nat), Rel x S T → m < 20 → k + q = 20 → q + 1 < fuel → (∀ j, j < 20 → S.2.1 23 j = T.2.1 152 j) → cnt (fun j => decide (S.2.1 23 j = -1)) 20 = q → ∃ r S' T', lfX0_roundAndRound_20_1_19 x fuel S (iN p) (iN g) va (iN m) (iN k) = some (r, S') ∧ lfX11_again_130_64 x fuel T (iN p) (iN g) vr (iN m) (iN k) = some (r, T') := by
  intro q
  induction q with
  | zero =>
    intro k fuel S T m h hm hk hf he hc
    obtain ⟨fuel, rfl⟩ : ∃ z, fuel = z + 1 := ⟨fuel - 1, by omega⟩
    have hm1 : ¬ S.2.1 23 m = -1 := fun e => by
      have := cnt_pos (Q := fun j => decide (S.2.1 23 j = -1)) hm (decide_eq_true e)
      omega
    rw [lfX0_roundAndRound_20_1_19, bfX0_roundAndRound_20_1_19, lfX11_again_130_64, bfX11_again_130_64]
    unfold bfX0_roundAndRound_20_1_62 bfX11_again_130_128
    rw [if_neg (show ¬ (20 : Int32) < iN k from fun hh => by have := (iN_lt (m := 20) (by omega) (by omega)).mp hh; omega), inb_t hm (by omega), cond_true, iN_nat (by omega), ← he m hm, if_neg hm1, if_pos hm1, cond_true]
    by_cases e : va = 0
    · rw [if_pos e, if_pos (hv.mp e)]; exact ⟨_, _, _, rfl, rfl⟩
    · rw [if_neg e, if_neg (fun hh => e (hv.mpr hh))]; exact ⟨_, _, _, rfl, rfl⟩
  | succ q ih =>
    intro k fuel S T m h hm hk hf he hc
    obtain ⟨fuel, rfl⟩ : ∃ z, fuel = z + 1 := ⟨fuel - 1, by omega⟩
    rw [lfX0_roundAndRound_20_1_19, bfX0_roundAndRound_20_1_19, lfX11_again_130_64, bfX11_again_130_64]
    unfold bfX0_roundAndRound_20_1_62 bfX11_again_130_128
    rw [if_neg (show ¬ (20 : Int32) < iN k from fun hh => by have := (iN_lt (m := 20) (by omega) (by omega)).mp hh; omega), inb_t hm (by omega), cond_true, iN_nat (by omega), ← he m hm]
    by_cases hm1 : S.2.1 23 m = -1
    · rw [if_pos hm1, if_neg (fun hh => hh hm1)]
      simp only [cond_true]
      have aS : Agr wQ S (S.1, u2 S.2.1 23 m (iN k), S.2.2.1, S.2.2.2) := Agr.i Agr.rf 23 m _ (by decide)
      have aT : Agr wV T (T.1, u2 T.2.1 152 m (iN k), T.2.2.1, T.2.2.2) := Agr.i Agr.rf 152 m _ (by decide)
      have h1 : Rel x (S.1, u2 S.2.1 23 m (iN k), S.2.2.1, S.2.2.2) (T.1, u2 T.2.1 152 m (iN k), T.2.2.1, T.2.2.2) := h.scr aS (by decide) aT (by decide)
      have c23 : (u2 S.2.1 23 m (iN k)) 23 = u1 (S.2.1 23) m (iN k) := u2_row _ _ _ _
      have c152 : (u2 T.2.1 152 m (iN k)) 152 = u1 (T.2.1 152) m (iN k) := u2_row _ _ _ _
      generalize hS1 : ((S.1, u2 S.2.1 23 m (iN k), S.2.2.1, S.2.2.2) : ST) = S1 at h1 aS
      generalize hT1 : ((T.1, u2 T.2.1 152 m (iN k), T.2.2.1, T.2.2.2) : ST) = T1 at h1 aT
      have c23 : S1.2.1 23 = u1 (S.2.1 23) m (iN k) := by rw [← hS1]; exact c23
      have c152 : T1.2.1 152 = u1 (T.2.1 152) m (iN k) := by rw [← hT1]; exact c152
      obtain ⟨R, hR⟩ := h1.1.lr
      have im : inb (iN m) 20 = true := inb_t hm (by omega)
      obtain ⟨W, e1, e2⟩ := reg1 x S1 (T1.2.1 132) h1.1.1 p g hp hg (iN m)
      have hn := qG_nb h1.1.2.1 hp hg im
      obtain ⟨st, e3⟩ := toldQ1 x (wA S1 21 W) (T1.2.1 132) R (hR.w1 W W).1 _ (fun w hw => by rw [wA_s]; exact e2 w hw) hn 0 (by omega)
      obtain ⟨T2, f1, f2, f3⟩ := setsGate_eq x T1 p g hp hg (iN m)
      obtain ⟨T3, f4⟩ := refTurns x S1 1 T2 R (by rw [f3]; exact hR) _ f2
      have fr1 := frX0_regard_20_1 x S1 _ _ _ _ _ e1
      have fr2 := frX0_told_20_1 x _ _ _ _ e3
      have fr3 := frX11_setsGate_130 x T1 _ _ _ _ _ f1
      have fr4 := frX11_turnsNow_130 x T2 _ _ f4
      rw [e1, f1]
      dsimp only
      rw [show (260 : Int32) = iN (260 + 0) from rfl, e3, f4]
      dsimp only
      obtain ⟨m', hm', em'⟩ := inb_ex (tV0_inb R (qG (T1.2.1 132) p g (iN m)) im)
      rw [em', iN_succ]
      have g23 : (wkT (wA S1 21 W) st).2.1 23 = S1.2.1 23 := by rw [fr2.2.1 23 (by decide), fr1.2.1 23 (by decide)]
      have g152 : T3.2.1 152 = T1.2.1 152 := by rw [fr4.2.1 152 (by decide), fr3.2.1 152 (by decide)]
      refine ih (k + 1) fuel _ T3 m' (h1.scr ((fr1.sub (W := wQ) (by decide)).tr (fr2.sub (by decide))) (by decide) ((fr3.sub (W := wV) (by decide)).tr (fr4.sub (by decide))) (by decide)) hm' (by omega) (by omega) (fun j hj => ?_) ?_
      · rw [g23, g152, c23, c152, u1_if, u1_if, he j hj]
      · rw [g23, c23]
        have := cnt_flip (Q := fun j => decide (S.2.1 23 j = -1)) (Q' := fun j => decide (u1 (S.2.1 23) m (iN k) j = -1)) hm (decide_eq_true hm1) (decide_eq_false (by rw [u1_s]; exact iN_ne1 (by omega))) (fun j hj => by rw [u1_n _ _ hj])
        omega
    · rw [if_neg hm1, if_pos hm1, cond_true]
      by_cases e : va = 0
      · rw [if_pos e, if_pos (hv.mp e)]; exact ⟨_, _, _, rfl, rfl⟩
      · rw [if_neg e, if_neg (fun hh => e (hv.mpr hh))]; exact ⟨_, _, _, rfl, rfl⟩
theorem again_fill (x : XT) (v1 v2 v3 : Int32) : ∀ (m k fuel : Nat) (T : ST), k + m = 20 → m < fuel → (∀ j, j < k → T.2.1 152 j = -1) → ∃ T1, lfX11_again_130_30 x fuel T v1 v2 v3 (iN k) = lfX11_again_130_30 x 1 T1 v1 v2 v3 20 ∧ Agr ([], [152], [], []) T T1 ∧ ∀ j, j < 20 → T1.2.1 152 j = -1
  | 0, k, fuel, T, hk, hf, h => by
    obtain ⟨fuel, rfl⟩ : ∃ z, fuel = z + 1 := ⟨fuel - 1, by omega⟩
    have : k = 20 := by omega
    subst this
    refine ⟨T, ?_, Agr.rf, h⟩
    rw [lfX11_again_130_30, bfX11_again_130_30, if_pos (show (20 : Int32) ≤ iN 20 by decide), lfX11_again_130_30, bfX11_again_130_30, if_pos (show (20 : Int32) ≤ 20 by decide)]
  | m + 1, k, fuel, T, hk, hf, h => by
    obtain ⟨fuel, rfl⟩ : ∃ z, fuel = z + 1 := ⟨fuel - 1, by omega⟩
    obtain ⟨T1, a1, a2, a3⟩ := again_fill x v1 v2 v3 m (k + 1) fuel (T.1, u2 T.2.1 152 k (-1), T.2.2.1, T.2.2.2) (by omega) (by omega) (cp1 (B := fun _ => -1) h rfl)
    refine ⟨T1, ?_, (Agr.i Agr.rf 152 k _ (by decide)).tr a2, a3⟩
    rw [← a1, lfX11_again_130_30, bfX11_again_130_30, if_neg (show ¬ (20 : Int32) ≤ iN k from fun hh => by have := (iN_le (m := 20) (by omega) (by omega)).mp hh; omega), inb_t (show k < 20 by omega) (by omega), cond_true, iN_nat (by omega), iN_succ]
set_option maxRecDepth 4000 in
theorem c_again (x : XT) (S T : ST) (h : Rel x S T) (a b w : Int32) : Call x S T (gfX10_again_0 x S a b w) (gfX11_again_130 x T a b w) := by
  obtain ⟨P, hP, p1, p2⟩ := h.goers
  obtain ⟨G, hG, g1, g2⟩ := h.gates
  have w2 : gfX10_within x S w 2 = some (bz (inb w 2), S) := within_eq x S w 2 (by omega)
  have l2 : gfX11_lies x T w 0 1 = some (bz (inb w 2), T) := lies_eq x T w 2 (by omega)
  have bt : ¬ bz true = 0 := by decide
  have no : (gfX10_again_0 x S a b w = some (-1, S) ∧ gfX11_again_130 x T a b w = some (-1, T)) ∨ (inb a P = true ∧ inb b G = true ∧ inb w 2 = true) := by
    unfold gfX10_again_0 bfX10_again_0_0 bfX10_again_0_30 gfX11_again_130 bfX11_again_130_0 bfX11_again_130_25
    rw [hasGoer_eq1 x S a P (by omega) p1, isGoer_eq x T a P (by omega) p2]
    dsimp only
    rw [hasGate_eq1 x S b G (by omega) g1, isGate_eq x T b G (by omega) g2]
    dsimp only
    rw [w2, l2]
    dsimp only
    cases inb a P
    · left; exact ⟨by rw [if_pos (show bz false = 0 from rfl)], by rw [if_pos (show bz false = 0 from rfl)]⟩
    · rw [if_neg bt, if_neg bt]
      cases inb b G
      · left; exact ⟨by rw [if_pos (show bz false = 0 from rfl)], by rw [if_pos (show bz false = 0 from rfl)]⟩
      · rw [if_neg bt, if_neg bt]
        cases inb w 2
        · left; exact ⟨by rw [if_neg (show ¬ ¬ bz false = 0 by decide)], by rw [if_neg (show ¬ ¬ bz false = 0 by decide)]⟩
        · right; exact ⟨rfl, rfl, rfl⟩
  rcases no with ⟨n1, n2⟩ | ⟨ha, hb, hw⟩
  · exact ⟨-1, S, T, n1, n2, h⟩
  · obtain ⟨p, hp, rfl⟩ := inb_ex ha
    obtain ⟨g, hg, rfl⟩ := inb_ex hb
    obtain ⟨z, hz, rfl⟩ := inb_ex hw
    obtain ⟨S1, s1, s2⟩ := fill23 x S (-1)
    obtain ⟨T1, t1, t2, t3⟩ := again_fill x (iN p) (iN g) (iN z) 20 0 20000 T (by omega) (by omega) (fun j hj => by omega)
    have fS := frJ7_fill_53178_23 x S _ _ _ s1
    have h1 : Rel x S1 T1 := h.scr fS (by decide) t2 (by decide)
    have q7 : S1.2.1 8 p = T1.2.1 132 (5 + p) := (h1.1.1.2.2.2.2.2.2.1 p (by omega)).2.1
    obtain ⟨m, hm, em⟩ := inb_ex (h1.1.2.1.1.1 p (by omega)).2.1
    have hcnt : cnt (fun j => decide (S1.2.1 23 j = -1)) 20 = 20 := cnt_all (fun j hj => decide_eq_true (s2 j hj))
    have run : ∀ va, (va = 0 ↔ ¬ iN z = 0) → ∃ r S' T', lfX0_roundAndRound_20_1_19 x 20000 S1 (iN p) (iN g) va (iN m) 0 = some (r, S') ∧ lfX11_again_130_64 x 20000 T1 (iN p) (iN g) (iN z) (iN m) 0 = some (r, T') := fun va hva => again_loop x p g (by omega) (by omega) va (iN z) hva 20 0 20000 S1 T1 m h1 hm (by omega) (by omega) (fun j hj => by rw [s2 j hj, t3 j hj]) hcnt
    have ref : ∀ r T', lfX11_again_130_64 x 20000 T1 (iN p) (iN g) (iN z) (iN m) 0 = some (r, T') → gfX11_again_130 x T (iN p) (iN g) (iN z) = some (r, T') := by
      intro r T' hr
      rw [show iN 0 = 0 from rfl] at t1
      unfold gfX11_again_130 bfX11_again_130_0
      rw [isGoer_eq x T (iN p) P (by omega) p2, ha]
      dsimp only
      rw [if_neg bt, isGate_eq x T (iN g) G (by omega) g2, hb]
      dsimp only
      rw [if_neg bt, l2, hw]
      dsimp only
      rw [if_pos bt, t1, lfX11_again_130_30, bfX11_again_130_30, if_pos (show (20 : Int32) ≤ 20 by decide), show (5 : Int32) + iN p = iN (5 + p) from iN_add 5 p, inb_t (show 5 + p < 5703 by omega) (by omega), cond_true, iN_nat (by omega), em, hr]
    have cls : ∀ va r S', (va = 0 ↔ ¬ iN z = 0) → (va = 0 ∨ va = 1) → lfX0_roundAndRound_20_1_19 x 20000 S1 (iN p) (iN g) va (iN m) 0 = some (r, S') → gfX10_again_0 x S (iN p) (iN g) (iN z) = some (r, S') := by
      intro va r S' hva hv2 hr
      have hrr : ∀ v, v = va → bfX10_again_0_51 x S (iN p) (iN g) v = some (r, S') := by
        intro v hv
        subst hv
        unfold bfX10_again_0_51 gfX0_roundAndRound_20_1 bfX0_roundAndRound_20_1_0
        rw [s1]
        dsimp only
        rw [inb_t (show p < 5 by omega) (by omega), cond_true, iN_nat (by omega), q7, em, hr]
      unfold gfX10_again_0 bfX10_again_0_0
      rw [hasGoer_eq1 x S (iN p) P (by omega) p1, ha]
      dsimp only
      rw [if_neg bt, hasGate_eq1 x S (iN g) G (by omega) g1, hb]
      dsimp only
      rw [if_neg bt, w2, hw]
      dsimp only
      rw [if_pos bt]
      by_cases e : iN z = 0
      · rw [if_neg (fun q => q e)]
        refine hrr 1 ?_
        rcases hv2 with e2 | e2
        · exact absurd e (hva.mp e2)
        · exact e2.symm
      · rw [if_pos e]
        exact hrr 0 (hva.mpr e).symm
    have fin : ∀ va : Int32, (va = 0 ↔ ¬ iN z = 0) → (va = 0 ∨ va = 1) → Call x S T (gfX10_again_0 x S (iN p) (iN g) (iN z)) (gfX11_again_130 x T (iN p) (iN g) (iN z)) := by
      intro va hva hv2
      obtain ⟨r, S', T', e1, e2⟩ := run va hva
      have c1 := cls va r S' hva hv2 e1
      have c2 := ref r T' e2
      exact Call.of h c1 c2 (frX10_again_0 x S _ _ _ _ _ c1) (by decide) (frX11_again_130 x T _ _ _ _ _ c2) (by decide)
    by_cases e : iN z = 0
    · exact fin 1 ⟨fun q => absurd q (by decide), fun q => absurd e q⟩ (Or.inr rfl)
    · exact fin 0 ⟨fun _ => e, fun _ => rfl⟩ (Or.inl rfl)
end AGAIN
