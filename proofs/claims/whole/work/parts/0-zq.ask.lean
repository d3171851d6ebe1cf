section ASKC
def cV (t : Nat → Int32) (v : Int32) (N : Nat) : Nat := cnt (fun j => decide (t j = v)) N
theorem cV_s (t : Nat → Int32) (v : Int32) (N : Nat) : cV t v (N + 1) = cV t v N + (if t N = v then 1 else 0) := by
  unfold cV
  rw [cnt]
  by_cases h : t N = v
  · rw [if_pos h, if_pos (decide_eq_true h)]
  · rw [if_neg h, if_neg (by rw [decide_eq_false h]; decide)]
theorem cV_le (t : Nat → Int32) (v : Int32) (N : Nat) : cV t v N ≤ N := cnt_le _ N
theorem cV_0 (t : Nat → Int32) (v : Int32) : ∀ N, (∀ j, j < N → ¬ t j = v) → cV t v N = 0
  | 0, _ => rfl
  | N + 1, h => by rw [cV_s, if_neg (h N (by omega)), cV_0 t v N (fun j hj => h j (by omega))]
def IsM (t : Nat → Int32) (r N : Nat) : Prop := (∀ v, ¬ v = -2 → cV t v N ≤ r) ∧ (r = 0 ∨ ∃ v, ¬ v = -2 ∧ cV t v N = r)
theorem IsM.uniq {t : Nat → Int32} {r s N : Nat} (h : IsM t r N) (g : IsM t s N) : r = s := by
  have a : r ≤ s := by
    rcases h.2 with e | ⟨v, e1, e2⟩
    · omega
    · have := g.1 v e1; omega
  have b : s ≤ r := by
    rcases g.2 with e | ⟨v, e1, e2⟩
    · omega
    · have := h.1 v e1; omega
  omega
theorem IsM.le {t : Nat → Int32} {r N : Nat} (h : IsM t r N) : r ≤ N := by
  rcases h.2 with e | ⟨v, e1, e2⟩
  · omega
  · have := cV_le t v N; omega
theorem IsM.cg {t t' : Nat → Int32} {r N : Nat} (h : IsM t r N) (e : ∀ j, j < N → t' j = t j) : IsM t' r N := by
  have q : ∀ v, cV t' v N = cV t v N := fun v => cnt_eq (fun j hj => by rw [e j hj])
  refine ⟨fun v hv => by rw [q]; exact h.1 v hv, ?_⟩
  rcases h.2 with z | ⟨v, e1, e2⟩
  · exact Or.inl z
  · exact Or.inr ⟨v, e1, by rw [q]; exact e2⟩
def cc (t : Nat → Int32) (k j : Nat) : Nat := if t k = -2 then 0 else cV t (t k) j
theorem cc_le (t : Nat → Int32) (k j : Nat) : cc t k j ≤ j := by
  unfold cc
  by_cases h : t k = -2
  · rw [if_pos h]; omega
  · rw [if_neg h]; exact cV_le _ _ _
theorem most_in (x : XT) (S : ST) (k4 : ST → Int32 → Int32 → Option (Int32 × ST)) (v1 : Int32) (k : Nat) (hk : k < 8) : ∀ (m j fuel : Nat), j + m = 8 → m < fuel → lfX3_mostAlike_80_15 x k4 fuel S v1 (iN k) (iN (cc (S.2.1 81) k j)) (iN j) = k4 S (if v1 < iN (cc (S.2.1 81) k 8) then iN (cc (S.2.1 81) k 8) else v1) (iN (k + 1))
  | 0, j, fuel, hj, hf => by
    obtain ⟨fuel, rfl⟩ : ∃ z, fuel = z + 1 := ⟨fuel - 1, by omega⟩
    have e : j = 8 := by omega
    subst e
    rw [lfX3_mostAlike_80_15, bfX3_mostAlike_80_15, if_pos (show (8 : Int32) ≤ iN 8 by decide), iN_succ]
  | m + 1, j, fuel, hj, hf => by
    obtain ⟨fuel, rfl⟩ : ∃ z, fuel = z + 1 := ⟨fuel - 1, by omega⟩
    rw [lfX3_mostAlike_80_15, bfX3_mostAlike_80_15, if_neg (show ¬ (8 : Int32) ≤ iN j from fun q => by have := (iN_le (m := 8) (by omega) (by omega)).mp q; omega), inb_t (show j < 8 by omega) (by omega), inb_t hk (by omega), cond_true, cond_true, cond_true, iN_nat (by omega), iN_nat (by omega)]
    unfold bfX3_mostAlike_80_54 bfX3_mostAlike_80_55
    rw [iN_succ, Int32.add_zero, iN_succ, ← most_in x S k4 v1 k hk m (j + 1) fuel (by omega) (by omega)]
    by_cases h2 : S.2.1 81 k = -2
    · have e : cc (S.2.1 81) k (j + 1) = cc (S.2.1 81) k j := by unfold cc; rw [if_pos h2, if_pos h2]
      rw [e, if_pos h2]
      by_cases h3 : S.2.1 81 j = S.2.1 81 k
      · rw [if_neg (fun z => z h3)]
      · rw [if_pos h3]
    · rw [if_neg h2]
      by_cases h3 : S.2.1 81 j = S.2.1 81 k
      · have e : cc (S.2.1 81) k (j + 1) = cc (S.2.1 81) k j + 1 := by unfold cc; rw [if_neg h2, if_neg h2, cV_s, if_pos h3]
        rw [e, if_neg (fun z => z h3)]
      · have e : cc (S.2.1 81) k (j + 1) = cc (S.2.1 81) k j := by unfold cc; rw [if_neg h2, if_neg h2, cV_s, if_neg h3, Nat.add_zero]
        rw [e, if_pos h3]
theorem most_out (x : XT) (S : ST) : ∀ (m k fuel r : Nat), k + m = 8 → m < fuel → r ≤ 8 → (∀ q, q < k → cc (S.2.1 81) q 8 ≤ r) → (r = 0 ∨ ∃ v, ¬ v = -2 ∧ cV (S.2.1 81) v 8 = r) → ∃ A, IsM (S.2.1 81) A 8 ∧ lfX3_mostAlike_80_4 x fuel S (iN r) (iN k) = some (iN A, S)
  | 0, k, fuel, r, hk, hf, hr, h1, h2 => by
    obtain ⟨fuel, rfl⟩ : ∃ z, fuel = z + 1 := ⟨fuel - 1, by omega⟩
    have e : k = 8 := by omega
    subst e
    refine ⟨r, ⟨fun v hv => ?_, h2⟩, ?_⟩
    · by_cases q : ∃ j, j < 8 ∧ S.2.1 81 j = v
      · obtain ⟨j, hj, rfl⟩ := q
        have := h1 j hj
        unfold cc at this
        rw [if_neg hv] at this
        exact this
      · rw [cV_0 _ _ _ (fun j hj e => q ⟨j, hj, e⟩)]; omega
    · rw [lfX3_mostAlike_80_4, bfX3_mostAlike_80_4, if_pos (show (8 : Int32) ≤ iN 8 by decide)]
  | m + 1, k, fuel, r, hk, hf, hr, h1, h2 => by
    obtain ⟨fuel, rfl⟩ : ∃ z, fuel = z + 1 := ⟨fuel - 1, by omega⟩
    have e0 : cc (S.2.1 81) k 0 = 0 := Nat.le_zero.mp (cc_le _ _ _)
    have q := most_in x S (lfX3_mostAlike_80_4 x fuel) (iN r) k (by omega) 8 0 20000 (by omega) (by omega)
    rw [e0, show iN 0 = 0 from rfl] at q
    rw [lfX3_mostAlike_80_4, bfX3_mostAlike_80_4, if_neg (show ¬ (8 : Int32) ≤ iN k from fun q => by have := (iN_le (m := 8) (by omega) (by omega)).mp q; omega), q]
    have c8 := cc_le (S.2.1 81) k 8
    by_cases hc : r < cc (S.2.1 81) k 8
    · rw [if_pos ((iN_lt (by omega) (by omega)).mpr hc)]
      refine most_out x S m (k + 1) fuel (cc (S.2.1 81) k 8) (by omega) (by omega) c8 (fun q hq => ?_) ?_
      · by_cases e : q = k
        · subst e; omega
        · have := h1 q (by omega); omega
      · unfold cc
        by_cases h3 : S.2.1 81 k = -2
        · rw [if_pos h3]; exact Or.inl rfl
        · rw [if_neg h3]; exact Or.inr ⟨_, h3, rfl⟩
    · rw [if_neg (fun z => hc ((iN_lt (by omega) (by omega)).mp z))]
      refine most_out x S m (k + 1) fuel r (by omega) (by omega) hr (fun q hq => ?_) h2
      by_cases e : q = k
      · subst e; omega
      · exact h1 q (by omega)
theorem most_eq (x : XT) (S : ST) : ∃ A, IsM (S.2.1 81) A 8 ∧ gfX3_mostAlike_80 x S = some (iN A, S) := most_out x S 8 0 20000 0 (by omega) (by omega) (by omega) (fun q hq => by omega) (Or.inl rfl)
/-- as how many each KIND comes out, -2 where it can't be this KIND -/
def tn (R : RF) (f : Nat → Int32) (bits a m : Int32) (k : Nat) : Int32 := if ((bits >>> (iN k &&& 31)) &&& 1) = 1 then oV R f (iN k) a m else -2
def wTr : WS := ([], [21, 22, 81], [], [])
theorem trial_in (x : XT) (f : Nat → Int32) (R : RF) (hW : WF f) (k24 : ST → Int32 → Int32 → Int32 → Int32 → Int32 → Int32 → Option (Int32 × ST)) (a v3 bits v5 v6 m : Int32) (ha : inb a 10 = true) (hm : inb m 20 = true) : ∀ (d k fuel : Nat) (S : ST), k + d = 8 → d < fuel → PC x S f R → (∀ j, j < k → S.2.1 81 j = tn R f bits a m j) → ∃ A S', IsM (tn R f bits a m) A 8 ∧ lfX3_bestTrial_80_1_34 x k24 fuel S a v3 bits v5 v6 m (iN k) = (if v6 ≤ iN A then k24 S' a v3 bits v5 v6 (m + 1) else k24 S' a v3 bits m (iN A) (m + 1)) ∧ Agr wTr S S'
  | 0, k, fuel, S, hk, hf, hP, h8 => by
    obtain ⟨fuel, rfl⟩ : ∃ z, fuel = z + 1 := ⟨fuel - 1, by omega⟩
    have e : k = 8 := by omega
    subst e
    obtain ⟨A, q1, q2⟩ := most_eq x S
    refine ⟨A, S, q1.cg (fun j hj => (h8 j hj).symm), ?_, Agr.rf⟩
    rw [lfX3_bestTrial_80_1_34, bfX3_bestTrial_80_1_34, if_pos (show (8 : Int32) ≤ iN 8 by decide), q2]
    rfl
  | d + 1, k, fuel, S, hk, hf, hP, h8 => by
    obtain ⟨fuel, rfl⟩ : ∃ z, fuel = z + 1 := ⟨fuel - 1, by omega⟩
    rw [lfX3_bestTrial_80_1_34, bfX3_bestTrial_80_1_34, if_neg (show ¬ (8 : Int32) ≤ iN k from fun q => by have := (iN_le (m := 8) (by omega) (by omega)).mp q; omega)]
    unfold bfX3_bestTrial_80_1_73
    rw [inb_t (show k < 8 by omega) (by omega), iN_nat (by omega), iN_succ]
    simp only [cond_true]
    have go : ∀ (S1 : ST) (v : Int32), Agr ([], [21, 22], [], []) S S1 → v = tn R f bits a m k → ∃ A S', IsM (tn R f bits a m) A 8 ∧ lfX3_bestTrial_80_1_34 x k24 fuel (S1.1, u2 S1.2.1 81 k v, S1.2.2.1, S1.2.2.2) a v3 bits v5 v6 m (iN (k + 1)) = (if v6 ≤ iN A then k24 S' a v3 bits v5 v6 (m + 1) else k24 S' a v3 bits m (iN A) (m + 1)) ∧ Agr wTr S S' := by
      intro S1 v a1 hv
      have a2 : Agr wTr S (S1.1, u2 S1.2.1 81 k v, S1.2.2.1, S1.2.2.2) := Agr.i (a1.sub (by decide)) 81 k v (by decide)
      obtain ⟨A, S', r1, r2, r3⟩ := trial_in x f R hW k24 a v3 bits v5 v6 m ha hm d (k + 1) fuel (S1.1, u2 S1.2.1 81 k v, S1.2.2.1, S1.2.2.2) (by omega) (by omega) (hP.cg (a2.sm (by decide))) (fun j hj => by
        dsimp only
        by_cases e : j = k
        · subst e; rw [u2_s]; exact hv
        · rw [u2_k _ _ _ e, a1.2.1 81 (by decide)]; exact h8 j (by omega))
      exact ⟨A, S', r1, r2, a2.tr r3⟩
    by_cases hb : ((bits >>> (iN k &&& 31)) &&& 1) = 1
    · obtain ⟨S1, c1, c2⟩ := comes_eq x S f R hP hW (inb_t (show k < 8 by omega) (by omega)) ha hm
      rw [if_neg (fun z => z hb), c1]
      exact go S1 _ c2 (by unfold tn; rw [if_pos hb])
    · rw [if_pos hb]
      exact go S _ Agr.rf (by unfold tn; rw [if_neg hb])
theorem zero_in (x : XT) (p1 p2 p3 : Int32) : ∀ (d k fuel : Nat) (T : ST), k + d = 21 → d < fuel → (∀ i, i < k → T.2.1 154 i = 0) → ∃ T', lfX11_mostAlike_130_3 x fuel T p1 p2 p3 (iN k) = lfX11_mostAlike_130_30 x 20000 T' p1 p2 p3 0 0 ∧ (∀ i, i < 21 → T'.2.1 154 i = 0) ∧ Agr ([], [154], [], []) T T'
  | 0, k, fuel, T, hk, hf, h0 => by
    obtain ⟨fuel, rfl⟩ : ∃ z, fuel = z + 1 := ⟨fuel - 1, by omega⟩
    have e : k = 21 := by omega
    subst e
    rw [lfX11_mostAlike_130_3, bfX11_mostAlike_130_3, if_pos (show (20 : Int32) < iN 21 by decide)]
    exact ⟨T, rfl, h0, Agr.rf⟩
  | d + 1, k, fuel, T, hk, hf, h0 => by
    obtain ⟨fuel, rfl⟩ : ∃ z, fuel = z + 1 := ⟨fuel - 1, by omega⟩
    rw [lfX11_mostAlike_130_3, bfX11_mostAlike_130_3, if_neg (show ¬ (20 : Int32) < iN k from fun q => by have := (iN_lt (m := 20) (by omega) (by omega)).mp q; omega), inb_t (show k < 21 by omega) (by omega), cond_true, iN_nat (by omega), iN_succ]
    obtain ⟨T', r1, r2, r3⟩ := zero_in x p1 p2 p3 d (k + 1) fuel (T.1, u2 T.2.1 154 k 0, T.2.2.1, T.2.2.2) (by omega) (by omega) (fun i hi => by
      dsimp only
      by_cases e : i = k
      · subst e; rw [u2_s]
      · rw [u2_k _ _ _ e]; exact h0 i (by omega))
    exact ⟨T', r1, r2, (Agr.i Agr.rf 154 k 0 (by decide)).tr r3⟩
theorem o_idx {v : Int32} (h : v = -1 ∨ inb v 20 = true) : ∃ i, i < 21 ∧ v + 1 = iN i := by
  rcases h with rfl | h
  · exact ⟨0, by omega, rfl⟩
  · obtain ⟨k, hk, rfl⟩ := inb_ex h
    exact ⟨k + 1, by omega, iN_succ k⟩
theorem o_n2 {v : Int32} (h : v = -1 ∨ inb v 20 = true) : ¬ v = -2 := by
  rcases h with rfl | h
  · decide
  · intro e; subst e; exact absurd h (by decide)
def wMo : WS := ([(130, 22), (130, 23), (130, 24), (130, 25)], [142, 154], [], [])
theorem alike_in (x : XT) (S0 : ST) (f : Nat → Int32) (R : RF) (hR : LR x S0 1 f R) (bits a m : Int32) (hm : inb m 20 = true) : ∀ (d k fuel r : Nat) (T : ST), k + d = 8 → d < fuel → T.2.1 132 = f → (∀ i, i < 21 → T.2.1 154 i = iN (cV (tn R f bits a m) (iN i - 1) k)) → IsM (tn R f bits a m) r k → ∃ A T', IsM (tn R f bits a m) A 8 ∧ lfX11_mostAlike_130_30 x fuel T bits a m (iN r) (iN k) = some (iN A, T') ∧ Agr wMo T T'
  | 0, k, fuel, r, T, hk, hf, hT, hc, hM => by
    obtain ⟨fuel, rfl⟩ : ∃ z, fuel = z + 1 := ⟨fuel - 1, by omega⟩
    have e : k = 8 := by omega
    subst e
    refine ⟨r, T, hM, ?_, Agr.rf⟩
    rw [lfX11_mostAlike_130_30, bfX11_mostAlike_130_30, if_pos (show (8 : Int32) ≤ iN 8 by decide)]
  | d + 1, k, fuel, r, T, hk, hf, hT, hc, hM => by
    obtain ⟨fuel, rfl⟩ : ∃ z, fuel = z + 1 := ⟨fuel - 1, by omega⟩
    have hr := hM.le
    rw [lfX11_mostAlike_130_30, bfX11_mostAlike_130_30, if_neg (show ¬ (8 : Int32) ≤ iN k from fun q => by have := (iN_le (m := 8) (by omega) (by omega)).mp q; omega)]
    unfold gfX11_isIn bfX11_isIn_0 bfX11_isIn_14
    rw [show bbz 0 = true from rfl, show bbz 1 = true from rfl]
    simp only [cond_true]
    unfold bfX11_mostAlike_130_86
    rw [iN_succ]
    by_cases hb : ((bits >>> (iN k &&& 31)) &&& 1) = 1
    · have et : tn R f bits a m k = oV R f (iN k) a m := by unfold tn; rw [if_pos hb]
      have ho := oV_in R f (iN k) a m hm
      obtain ⟨T1, c1, c2⟩ := out_eq x S0 T f R hR hT (iN k) a m
      obtain ⟨i, hi, ei⟩ := o_idx ho
      have ev : oV R f (iN k) a m = iN i - 1 := by rw [← ei, Int32.add_sub_cancel]
      have hcn := hc i hi
      rw [← ev] at hcn
      have cle := cV_le (tn R f bits a m) (oV R f (iN k) a m) k
      rw [if_neg (fun z => z hb)]
      dsimp only
      rw [if_pos (show ¬ (1 : Int32) = 0 by decide), c1]
      dsimp only
      rw [ei, inb_t hi (by omega), cond_true, cond_true, cond_true, iN_nat (by omega), u2_s, c2.2.1 154 (by decide), hcn, iN_succ]
      unfold gfX11_greater bfX11_greater_0 bfX11_greater_10
      have hC : ∀ v, cV (tn R f bits a m) v (k + 1) = cV (tn R f bits a m) v k + (if oV R f (iN k) a m = v then 1 else 0) := fun v => by rw [cV_s, et]
      have hMn : IsM (tn R f bits a m) (max r (cV (tn R f bits a m) (oV R f (iN k) a m) k + 1)) (k + 1) := by
        refine ⟨fun v hv => ?_, ?_⟩
        · rw [hC]
          by_cases e : oV R f (iN k) a m = v
          · rw [if_pos e, e]; exact Nat.le_max_right _ _
          · rw [if_neg e]; exact Nat.le_trans (hM.1 v hv) (Nat.le_max_left _ _)
        · by_cases hl : r ≤ cV (tn R f bits a m) (oV R f (iN k) a m) k + 1
          · rw [Nat.max_eq_right hl]
            exact Or.inr ⟨_, o_n2 ho, by rw [hC, if_pos rfl]⟩
          · rw [Nat.max_eq_left (by omega)]
            rcases hM.2 with z | ⟨v, z1, z2⟩
            · exact Or.inl z
            · refine Or.inr ⟨v, z1, ?_⟩
              rw [hC]
              by_cases e : oV R f (iN k) a m = v
              · rw [e] at hl; omega
              · rw [if_neg e]; omega
      have a2 : Agr wMo T (T1.1, u2 T1.2.1 154 i (iN (cV (tn R f bits a m) (oV R f (iN k) a m) k + 1)), T1.2.2.1, T1.2.2.2) := Agr.i (c2.sub (by decide)) 154 i _ (by decide)
      have hc2 : ∀ i', i' < 21 → (u2 T1.2.1 154 i (iN (cV (tn R f bits a m) (oV R f (iN k) a m) k + 1))) 154 i' = iN (cV (tn R f bits a m) (iN i' - 1) (k + 1)) := by
        intro i' hi'
        by_cases e : i' = i
        · rw [e, u2_s, ← ev, hC, if_pos rfl]
        · rw [u2_k _ _ _ e, c2.2.1 154 (by decide), hc i' hi', hC, if_neg (fun z => e ?_), Nat.add_zero]
          rw [ev] at z
          have z2 : iN i - 1 + 1 = iN i' - 1 + 1 := by rw [z]
          rw [Int32.sub_add_cancel, Int32.sub_add_cancel] at z2
          exact ((iN_eq (by omega) (by omega)).mp z2).symm
      obtain ⟨A, T', r1, r2, r3⟩ := alike_in x S0 f R hR bits a m hm d (k + 1) fuel (max r (cV (tn R f bits a m) (oV R f (iN k) a m) k + 1)) (T1.1, u2 T1.2.1 154 i (iN (cV (tn R f bits a m) (oV R f (iN k) a m) k + 1)), T1.2.2.1, T1.2.2.2) (by omega) (by omega) ((a2.2.1 132 (by decide)).trans hT) hc2 hMn
      refine ⟨A, T', r1, ?_, a2.tr r3⟩
      rw [← r2]
      by_cases hl : r ≤ cV (tn R f bits a m) (oV R f (iN k) a m) k + 1
      · rw [if_pos ((iN_le (by omega) (by omega)).mpr hl), Nat.max_eq_right hl]
      · rw [if_neg (fun z => hl ((iN_le (by omega) (by omega)).mp z)), Nat.max_eq_left (by omega)]
    · have et : tn R f bits a m k = -2 := by unfold tn; rw [if_neg hb]
      rw [if_pos hb]
      dsimp only
      rw [if_neg (show ¬ ¬ (0 : Int32) = 0 from fun z => z rfl)]
      have hC : ∀ v, ¬ v = -2 → cV (tn R f bits a m) v (k + 1) = cV (tn R f bits a m) v k := fun v hv => by rw [cV_s, et, if_neg (fun e => hv e.symm), Nat.add_zero]
      refine alike_in x S0 f R hR bits a m hm d (k + 1) fuel r T (by omega) (by omega) hT (fun i hi => ?_) ⟨fun v hv => ?_, ?_⟩
      · rw [hC _ ?_]; exact hc i hi
        intro z
        have z2 : iN i - 1 + 1 = -2 + 1 := by rw [z]
        rw [Int32.sub_add_cancel] at z2
        have := iN_nn (n := i) (by omega)
        rw [z2] at this
        exact this (by decide)
      · rw [hC v hv]; exact hM.1 v hv
      · rcases hM.2 with z | ⟨v, z1, z2⟩
        · exact Or.inl z
        · exact Or.inr ⟨v, z1, by rw [hC v z1]; exact z2⟩
theorem alike_eq (x : XT) (S0 T : ST) (f : Nat → Int32) (R : RF) (hR : LR x S0 1 f R) (hT : T.2.1 132 = f) (bits a m : Int32) (hm : inb m 20 = true) : ∃ A T', IsM (tn R f bits a m) A 8 ∧ gfX11_mostAlike_130 x T bits a m = some (iN A, T') ∧ Agr wMo T T' := by
  obtain ⟨T1, c1, c2, c3⟩ := zero_in x bits a m 21 0 20000 T (by omega) (by omega) (fun i hi => by omega)
  obtain ⟨A, T', r1, r2, r3⟩ := alike_in x S0 f R hR bits a m hm 8 0 20000 0 T1 (by omega) (by omega) ((c3.2.1 132 (by decide)).trans hT) (fun i hi => c2 i hi) ⟨fun v hv => Nat.le_of_eq rfl, Or.inl rfl⟩
  rw [show iN 0 = 0 from rfl] at c1 r2
  exact ⟨A, T', r1, c1.trans r2, (c3.sub (by decide)).tr r3⟩
end ASKC
