section FEW
/-- both sides end with one answer, and neither remembers the call -/
theorem Call.of {α : Type} {x : XT} {S T : ST} (h : Rel x S T) {a b : Option (α × ST)} {r : α} {S' T' : ST} (h1 : a = some (r, S')) (h2 : b = some (r, T')) {W V : WS} (f1 : Agr W S S') (d1 : dj W lC = true) (f2 : Agr V T T') (d2 : dj V lR = true) : Call x S T a b := ⟨r, S', T', h1, h2, h.scr f1 d1 f2 d2⟩
def wJ (S : ST) (c : Nat) (g : Nat → Int64) : ST := (S.1, S.2.1, u1 S.2.2.1 c g, S.2.2.2)
theorem wJ_s (S : ST) (c : Nat) (g : Nat → Int64) : (wJ S c g).2.2.1 c = g := u1_s _ _ _
theorem wJ_n (S : ST) (g : Nat → Int64) {c a : Nat} (h : a ≠ c) : (wJ S c g).2.2.1 a = S.2.2.1 a := u1_n _ _ h
theorem wJ_self (S : ST) (c : Nat) : wJ S c (S.2.2.1 c) = S := by unfold wJ; rw [u1_self]
theorem wJ_u2 (S : ST) (c : Nat) (g : Nat → Int64) (k : Nat) (v : Int64) : ((wJ S c g).1, (wJ S c g).2.1, u2 (wJ S c g).2.2.1 c k v, (wJ S c g).2.2.2) = wJ S c (u1 g k v) := by
  unfold wJ; dsimp only; rw [u2_u1]
/-- one more goer who is bitten or not -/
def nxt (b : Int32) (g : Nat → Int64) (j : Nat) : Int64 := g j * (10 - b).toInt64 / 10 + (if j = 0 then 0 else g (j - 1) * b.toInt64 / 10)
theorem few_in (x : XT) (S : ST) (b K n t : Int32) (k20 : ST → Int32 → Int32 → Int32 → Int32 → Option (Int64 × ST)) (g : Nat → Int64) : ∀ (q fuel : Nat) (a : Nat → Int64), q ≤ 20 → q < fuel → (∀ j, j < q → a j = g j) → (∀ j, q ≤ j → j < 20 → a j = nxt b g j) → ∃ S1, lfX3_fewerBitten_80_30 x k20 fuel (wJ S 82 a) b K n t (tI q) = k20 S1 b K n (t + 1) ∧ ∀ j, j < 20 → S1.2.2.1 82 j = nxt b g j
  | 0, fuel, a, hq, hf, h1, h2 => by
    obtain ⟨fuel, rfl⟩ : ∃ z, fuel = z + 1 := ⟨fuel - 1, by omega⟩
    refine ⟨wJ S 82 a, ?_, fun j hj => by rw [wJ_s]; exact h2 j (by omega) hj⟩
    rw [lfX3_fewerBitten_80_30, bfX3_fewerBitten_80_30, if_pos (show tI 0 < 0 by decide)]
  | q + 1, fuel, a, hq, hf, h1, h2 => by
    obtain ⟨fuel, rfl⟩ : ∃ z, fuel = z + 1 := ⟨fuel - 1, by omega⟩
    have go : ∀ v, v = nxt b g q → ∃ S1, lfX3_fewerBitten_80_30 x k20 fuel (wJ S 82 (u1 a q v)) b K n t (tI q) = k20 S1 b K n (t + 1) ∧ ∀ j, j < 20 → S1.2.2.1 82 j = nxt b g j := by
      intro v hv
      refine few_in x S b K n t k20 g q fuel _ (by omega) (by omega) (fun j hj => ?_) (fun j hj1 hj2 => ?_)
      · rw [u1_n _ _ (by omega)]; exact h1 j (by omega)
      · by_cases e : j = q
        · subst e; rw [u1_s]; exact hv
        · rw [u1_n _ _ e]; exact h2 j (by omega) hj2
    rw [lfX3_fewerBitten_80_30, bfX3_fewerBitten_80_30, tI_p, if_neg (iN_nn (by omega)), inb_t (show q < 20 by omega) (by omega), cond_true, iN_nat (by omega), wJ_s]
    unfold bfX3_fewerBitten_80_83
    rw [inb_t (show q < 20 by omega) (by omega), cond_true, iN_nat (by omega), show iN q + (-1) = tI q from rfl]
    by_cases e : q = 0
    · subst e
      rw [if_pos (show iN 0 ≤ 0 by decide), wJ_u2]
      refine go _ ?_
      rw [h1 0 (by omega)]
      rfl
    · have e1 : iN q - 1 = iN (q - 1) := iN_sub (n := 1) (by omega)
      rw [if_neg (fun hh => by have := (iN_le (n := 0) (by omega) (by omega)).mp hh; omega), e1, inb_t (show q - 1 < 20 by omega) (by omega), cond_true, iN_nat (by omega), cond_true, wJ_u2]
      refine go _ ?_
      unfold nxt
      rw [if_neg e, h1 q (by omega), h1 (q - 1) (by omega)]
theorem few_rin (x : XT) (T : ST) (K : Nat) (hK : K ≤ 20) (n t : Int32) (k57 : ST → Int32 → Int32 → Int32 → Option (Int64 × ST)) (g : Nat → Int64) : ∀ (q fuel : Nat) (a : Nat → Int64), q ≤ K → q < fuel → (∀ j, j < q → a j = g j) → (q < K → a q = g q * (10 - T.2.1 132 89).toInt64 / 10) → (∀ j, q < j → j < K → a j = nxt (T.2.1 132 89) g j) → ∃ T1, lfX11_few_130_67 x k57 fuel (wJ T 155 a) (iN K) n t (tI q) = k57 T1 (iN K) n (t + 1) ∧ T1.2.1 = T.2.1 ∧ ∀ j, j < K → T1.2.2.1 155 j = nxt (T.2.1 132 89) g j
  | 0, fuel, a, hq, hf, h1, h2, h3 => by
    obtain ⟨fuel, rfl⟩ : ∃ z, fuel = z + 1 := ⟨fuel - 1, by omega⟩
    refine ⟨wJ T 155 a, ?_, rfl, fun j hj => ?_⟩
    · rw [lfX11_few_130_67, bfX11_few_130_67, if_pos (show tI 0 < 0 by decide)]
    · rw [wJ_s]
      by_cases e : j = 0
      · subst e
        rw [h2 (by omega)]
        unfold nxt
        rw [if_pos rfl, Int64.add_zero]
      · exact h3 j (by omega) hj
  | q + 1, fuel, a, hq, hf, h1, h2, h3 => by
    obtain ⟨fuel, rfl⟩ : ∃ z, fuel = z + 1 := ⟨fuel - 1, by omega⟩
    rw [lfX11_few_130_67, bfX11_few_130_67, tI_p, if_neg (iN_nn (by omega)), iN_succ, inb_t (show q + 1 < 21 by omega) (by omega), inb_t (show q < 21 by omega) (by omega), iN_nat (by omega), iN_nat (by omega), show iN q + (-1) = tI q from rfl]
    simp only [cond_true]
    rw [show (wJ T 155 a).2.1 = T.2.1 from rfl, u2_k _ _ _ (show q ≠ q + 1 by omega), wJ_s]
    have e1 : ((wJ T 155 a).1, T.2.1, u2 (u2 (wJ T 155 a).2.2.1 155 (q + 1) (a (q + 1) + a q * (T.2.1 132 89).toInt64 / 10)) 155 q (a q * (10 - T.2.1 132 89).toInt64 / 10), (wJ T 155 a).2.2.2) = wJ T 155 (u1 (u1 a (q + 1) (a (q + 1) + a q * (T.2.1 132 89).toInt64 / 10)) q (a q * (10 - T.2.1 132 89).toInt64 / 10)) := by
      unfold wJ; dsimp only; rw [u2_u1, u2_u1]
    rw [e1]
    refine few_rin x T K hK n t k57 g q fuel _ (by omega) (by omega) (fun j hj => ?_) (fun _ => ?_) (fun j hj1 hj2 => ?_)
    · rw [u1_n _ _ (by omega), u1_n _ _ (by omega)]; exact h1 j (by omega)
    · rw [u1_s, h1 q (by omega)]
    · rw [u1_n _ _ (by omega)]
      by_cases e : j = q + 1
      · subst e
        rw [u1_s, h2 hj2, h1 q (by omega)]
        unfold nxt
        rw [if_neg (by omega), Nat.add_sub_cancel]
      · rw [u1_n _ _ e]; exact h3 j (by omega) hj2
theorem few_sum (x : XT) (S T : ST) (K : Nat) (hK : K ≤ 20) (h : ∀ j, j < K → S.2.2.1 82 j = T.2.2.1 155 j) : ∀ (m j fuel : Nat) (s : Int64), j + m = K → m < fuel → ∃ r, lfX3_fewerBitten_80_103 x fuel S (iN K) s (iN j) = some (r, S) ∧ lfX11_few_130_151 x fuel T (iN K) s (iN j) = some (r, T)
  | 0, j, fuel, s, hj, hf => by
    obtain ⟨fuel, rfl⟩ : ∃ z, fuel = z + 1 := ⟨fuel - 1, by omega⟩
    refine ⟨s, ?_, ?_⟩
    · rw [lfX3_fewerBitten_80_103, bfX3_fewerBitten_80_103, if_pos ((iN_le (by omega) (by omega)).mpr (by omega))]
      rfl
    · rw [lfX11_few_130_151, bfX11_few_130_151, if_pos ((iN_le (by omega) (by omega)).mpr (by omega))]
  | m + 1, j, fuel, s, hj, hf => by
    obtain ⟨fuel, rfl⟩ : ∃ z, fuel = z + 1 := ⟨fuel - 1, by omega⟩
    obtain ⟨r, q1, q2⟩ := few_sum x S T K hK h m (j + 1) fuel (s + T.2.2.1 155 j) (by omega) (by omega)
    refine ⟨r, ?_, ?_⟩
    · rw [lfX3_fewerBitten_80_103, bfX3_fewerBitten_80_103, if_neg (fun hh => by have := (iN_le (by omega) (by omega)).mp hh; omega), if_neg (show ¬ (20 : Int32) ≤ iN j from fun hh => by have := (iN_le (m := 20) (by omega) (by omega)).mp hh; omega), inb_t (show j < 20 by omega) (by omega), cond_true, iN_nat (by omega), iN_succ, h j (by omega)]
      exact q1
    · rw [lfX11_few_130_151, bfX11_few_130_151, if_neg (fun hh => by have := (iN_le (by omega) (by omega)).mp hh; omega), inb_t (show j < 21 by omega) (by omega), cond_true, iN_nat (by omega), iN_succ]
      exact q2
theorem few_out (x : XT) (K : Nat) (hK : K ≤ 20) (n : Nat) (hn : n ≤ 99) (b : Int32) : ∀ (m t fuel : Nat) (S T : ST), T.2.1 132 89 = b → (∀ j, j < K → S.2.2.1 82 j = T.2.2.1 155 j) → t + m = n → m < fuel → ∃ r S' T', lfX3_fewerBitten_80_20 x fuel S b (iN K) (iN n) (iN t) = some (r, S') ∧ lfX11_few_130_57 x fuel T (iN K) (iN n) (iN t) = some (r, T')
  | 0, t, fuel, S, T, hb, h, ht, hf => by
    obtain ⟨fuel, rfl⟩ : ∃ z, fuel = z + 1 := ⟨fuel - 1, by omega⟩
    obtain ⟨r, q1, q2⟩ := few_sum x S T K hK h K 0 20000 0 (by omega) (by omega)
    rw [show iN 0 = 0 from rfl] at q1 q2
    refine ⟨r, S, T, ?_, ?_⟩
    · rw [lfX3_fewerBitten_80_20, bfX3_fewerBitten_80_20, if_pos ((iN_le (by omega) (by omega)).mpr (by omega)), q1]
    · rw [lfX11_few_130_57, bfX11_few_130_57, if_pos ((iN_le (by omega) (by omega)).mpr (by omega)), q2]
  | m + 1, t, fuel, S, T, hb, h, ht, hf => by
    obtain ⟨fuel, rfl⟩ : ∃ z, fuel = z + 1 := ⟨fuel - 1, by omega⟩
    obtain ⟨S1, e1, e2⟩ := few_in x S b (iN K) (iN n) (iN t) (lfX3_fewerBitten_80_20 x fuel) (S.2.2.1 82) 20 20000 (S.2.2.1 82) (by omega) (by omega) (fun _ _ => rfl) (fun j h1 h2 => by omega)
    obtain ⟨T1, f1, f2, f3⟩ := few_rin x T K hK (iN n) (iN t) (lfX11_few_130_57 x fuel) (T.2.2.1 155) K 20000 (T.2.2.1 155) (by omega) (by omega) (fun _ _ => rfl) (fun h => by omega) (fun j h1 h2 => by omega)
    rw [wJ_self] at e1 f1
    rw [lfX3_fewerBitten_80_20, bfX3_fewerBitten_80_20, lfX11_few_130_57, bfX11_few_130_57, if_neg (fun hh => by have := (iN_le (by omega) (by omega)).mp hh; omega), if_neg (fun hh => by have := (iN_le (by omega) (by omega)).mp hh; omega)]
    rw [show (19 : Int32) = tI 20 from rfl, show iN K - 1 = tI K by unfold tI; rw [Int32.sub_eq_add_neg], e1, f1, iN_succ]
    refine few_out x K hK n hn b m (t + 1) fuel S1 T1 (by rw [f2]; exact hb) (fun j hj => ?_) (by omega) (by omega)
    rw [e2 j (by omega), f3 j hj, hb]
    unfold nxt
    rw [h j hj]
    by_cases e : j = 0
    · rw [if_pos e, if_pos e]
    · rw [if_neg e, if_neg e, h (j - 1) (by omega)]
theorem few_fill (x : XT) : ∀ (m k fuel : Nat) (S : ST), k + m = 20 → m < fuel → (∀ j, j < k → S.2.2.1 82 j = 0) → ∃ S1, lfJ7_fill_d0a16_82_6 x fuel S 0 (iN k) 20 = some ((), S1) ∧ ∀ j, j < 20 → S1.2.2.1 82 j = 0
  | 0, k, fuel, S, hk, hf, h => by
    obtain ⟨fuel, rfl⟩ : ∃ z, fuel = z + 1 := ⟨fuel - 1, by omega⟩
    have : k = 20 := by omega
    subst this
    refine ⟨S, ?_, h⟩
    rw [lfJ7_fill_d0a16_82_6, bfJ7_fill_d0a16_82_6, if_pos (show (20 : Int32) ≤ iN 20 by decide)]
  | m + 1, k, fuel, S, hk, hf, h => by
    obtain ⟨fuel, rfl⟩ : ∃ z, fuel = z + 1 := ⟨fuel - 1, by omega⟩
    rw [lfJ7_fill_d0a16_82_6, bfJ7_fill_d0a16_82_6, if_neg (show ¬ (20 : Int32) ≤ iN k from fun hh => by have := (iN_le (m := 20) (by omega) (by omega)).mp hh; omega), inb_t (show k < 20 by omega) (by omega), cond_true, iN_nat (by omega), iN_succ]
    exact few_fill x m (k + 1) fuel _ (by omega) (by omega) (cp1 (B := fun _ => 0) h rfl)
theorem few_rfill (x : XT) (v1 v2 : Int32) : ∀ (m k fuel : Nat) (T : ST), k + m = 21 → m < fuel → (∀ j, j < k → T.2.2.1 155 j = if j = 0 then 1000000000000 else 0) → ∃ T1, lfX11_few_130_26 x fuel T v1 v2 (iN k) = lfX11_few_130_57 x 20000 T1 v1 v2 0 ∧ T1.2.1 = T.2.1 ∧ ∀ j, j < 21 → T1.2.2.1 155 j = if j = 0 then 1000000000000 else 0
  | 0, k, fuel, T, hk, hf, h => by
    obtain ⟨fuel, rfl⟩ : ∃ z, fuel = z + 1 := ⟨fuel - 1, by omega⟩
    have : k = 21 := by omega
    subst this
    refine ⟨T, ?_, rfl, h⟩
    rw [lfX11_few_130_26, bfX11_few_130_26, if_pos (show (20 : Int32) < iN 21 by decide)]
  | m + 1, k, fuel, T, hk, hf, h => by
    obtain ⟨fuel, rfl⟩ : ∃ z, fuel = z + 1 := ⟨fuel - 1, by omega⟩
    rw [lfX11_few_130_26, bfX11_few_130_26, if_neg (show ¬ (20 : Int32) < iN k from fun hh => by have := (iN_lt (m := 20) (by omega) (by omega)).mp hh; omega)]
    unfold bfX11_few_130_48
    rw [inb_t (show k < 21 by omega) (by omega), cond_true, cond_true, iN_nat (by omega), iN_succ]
    by_cases e : k = 0
    · subst e
      rw [if_neg (show ¬ ¬ iN 0 = 0 from fun q => q rfl)]
      obtain ⟨T1, a1, a2, a3⟩ := few_rfill x v1 v2 m (0 + 1) fuel (T.1, T.2.1, u2 T.2.2.1 155 0 1000000000000, T.2.2.2) (by omega) (by omega) (cp1 (B := fun j => if j = 0 then 1000000000000 else 0) h rfl)
      exact ⟨T1, a1, a2, a3⟩
    · rw [if_pos (show ¬ iN k = 0 from fun q => e ((iN_eq (n := 0) (by omega) (by omega)).mp q))]
      obtain ⟨T1, a1, a2, a3⟩ := few_rfill x v1 v2 m (k + 1) fuel (T.1, T.2.1, u2 T.2.2.1 155 k 0, T.2.2.2) (by omega) (by omega) (cp1 (B := fun j => if j = 0 then 1000000000000 else 0) h (by rw [if_neg e]))
      exact ⟨T1, a1, a2, a3⟩
theorem c_few (x : XT) (S T : ST) (h : Rel x S T) (a b : Int32) : Call x S T (gfX10_few_0 x S a b) (gfX11_few_130 x T a b) := by
  have k9 : S.2.1 14 1 = T.2.1 132 89 := h.1.1.2.2.2.2.2.2.2.2.2.1
  have none_ : ∃ r S' T', (some ((-1 : Int64), S) : Option (Int64 × ST)) = some (r, S') ∧ (some ((-1 : Int64), T) : Option (Int64 × ST)) = some (r, T') ∧ Rel x S' T' := ⟨-1, S, T, rfl, rfl, h⟩
  have key : Call x S T (gfX10_few_0 x S a b) (gfX11_few_130 x T a b) := by
    have l1 : gfX11_lies x T a 1 20 = some (if a < 1 then 0 else if 20 < a then 0 else 1, T) := by
      unfold gfX11_lies bfX11_lies_0 bfX11_lies_14 bfX11_lies_15
      by_cases q1 : a < 1
      · rw [if_pos q1, if_pos q1]; rfl
      · rw [if_neg q1, if_neg q1]
        by_cases q2 : 20 < a
        · rw [if_pos q2, if_pos q2]; rfl
        · rw [if_neg q2, if_neg q2]; rfl
    have l2 : gfX11_lies x T b 0 99 = some (if b < 0 then 0 else if 99 < b then 0 else 1, T) := by
      unfold gfX11_lies bfX11_lies_0 bfX11_lies_14 bfX11_lies_15
      by_cases q1 : b < 0
      · rw [if_pos q1, if_pos q1]; rfl
      · rw [if_neg q1, if_neg q1]
        by_cases q2 : 99 < b
        · rw [if_pos q2, if_pos q2]; rfl
        · rw [if_neg q2, if_neg q2]; rfl
    by_cases q1 : a < 1
    · unfold gfX10_few_0 bfX10_few_0_0 bfX10_few_0_21 gfX11_few_130 bfX11_few_130_0 bfX11_few_130_20
      rw [l1, if_pos q1, if_pos q1]
      exact none_
    by_cases q2 : 20 < a
    · unfold gfX10_few_0 bfX10_few_0_0 bfX10_few_0_21 gfX11_few_130 bfX11_few_130_0 bfX11_few_130_20
      rw [l1, if_neg q1, if_pos q2, if_neg q1, if_pos q2]
      exact none_
    by_cases q3 : b < 0
    · unfold gfX10_few_0 bfX10_few_0_0 bfX10_few_0_21 gfX11_few_130 bfX11_few_130_0 bfX11_few_130_20
      rw [l1, if_neg q1, if_neg q2, if_pos q3, if_neg q1, if_neg q2]
      dsimp only
      rw [l2, if_neg (by decide), if_pos q3]
      exact none_
    by_cases q4 : 99 < b
    · unfold gfX10_few_0 bfX10_few_0_0 bfX10_few_0_21 gfX11_few_130 bfX11_few_130_0 bfX11_few_130_20
      rw [l1, if_neg q1, if_neg q2, if_neg q3, if_neg (Int32.not_le.mpr q4), if_neg q1, if_neg q2]
      dsimp only
      rw [l2, if_neg (by decide), if_neg q3, if_pos q4]
      exact none_
    -- the numbers
    have ea : a = iN a.toNatClampNeg := (Int32.ofNat_toNatClampNeg a (by
      have := mt Int32.lt_iff_toInt_lt.mpr q1
      rw [show (1 : Int32).toInt = 1 from rfl] at this
      exact Int32.le_iff_toInt_le.mpr (by rw [show (0 : Int32).toInt = 0 from rfl]; omega))).symm
    have eb : b = iN b.toNatClampNeg := (Int32.ofNat_toNatClampNeg b (Int32.not_lt.mp q3)).symm
    have ba := Int32.toNatClampNeg_lt a
    have bb := Int32.toNatClampNeg_lt b
    generalize hK : a.toNatClampNeg = K at ea ba
    generalize hN : b.toNatClampNeg = N at eb bb
    subst ea; subst eb
    have hK2 : K ≤ 20 := by
      have := mt (iN_lt (m := 20) (by omega) ba).mpr q2
      omega
    have hN2 : N ≤ 99 := by
      have := mt (iN_lt (m := 99) (by omega) bb).mpr q4
      omega
    obtain ⟨S1, s1, s2⟩ := few_fill x 20 0 20000 S (by omega) (by omega) (fun j hj => by omega)
    obtain ⟨T1, t1, t2, t3⟩ := few_rfill x (iN K) (iN N) 21 0 20000 T (by omega) (by omega) (fun j hj => by omega)
    rw [show iN 0 = 0 from rfl] at s1 t1
    obtain ⟨r, S2, T2, u1_, u2_⟩ := few_out x K hK2 N hN2 (T.2.1 132 89) N 0 20000 (S1.1, S1.2.1, u2 S1.2.2.1 82 0 1000000000000, S1.2.2.2) T1 (by rw [t2]) (fun j hj => by
      show u2 S1.2.2.1 82 0 1000000000000 82 j = _
      rw [u2_row, u1_if, t3 j (by omega)]
      by_cases e : j = 0
      · rw [if_pos e, if_pos e]
      · rw [if_neg e, if_neg e]; exact s2 j (by omega)) (by omega) (by omega)
    rw [show iN 0 = 0 from rfl] at u1_ u2_
    have c1 : gfX10_few_0 x S (iN K) (iN N) = some (r, S2) := by
      unfold gfX10_few_0 bfX10_few_0_0 gfX3_fewerBitten_80 bfX3_fewerBitten_80_0 gfJ7_fill_d0a16_82 bfJ7_fill_d0a16_82_0
      rw [if_neg q1, if_neg q2, if_neg q3, if_pos (Int32.not_lt.mp q4), s1, k9]
      dsimp only
      rw [u1_]
    have c2 : gfX11_few_130 x T (iN K) (iN N) = some (r, T2) := by
      unfold gfX11_few_130 bfX11_few_130_0
      rw [l1, if_neg q1, if_neg q2]
      dsimp only
      rw [if_neg (by decide), l2, if_neg q3, if_neg q4]
      dsimp only
      rw [if_pos (by decide), t1, u2_]
    exact Call.of h c1 c2 (frX10_few_0 x S _ _ _ _ c1) (by decide) (frX11_few_130 x T _ _ _ _ c2) (by decide)
  exact key
end FEW
