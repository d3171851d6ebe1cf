section ORDSTEP
theorem wkO_self (S : ST) : wkO S (S.2.1 53) = S := by
  unfold wkO
  rw [u1_self]
theorem wkO_n (S : ST) (st : Nat → Int32) {a : Nat} (h : a ≠ 53) : (wkO S st).2.1 a = S.2.1 a := u1_n _ _ h
set_option maxRecDepth 4000 in
theorem reckO (x : XT) (S : ST) (Z : Nat) (hZ2 : Z ≤ 400) (hsz : S.1 25 1 = iN Z) (c w a b : Nat) (hc : 4 * c + w + 1 < 48) (hb1 : S.2.1 28 (4 * c + w) = iN a) (hb2 : S.2.1 28 (4 * c + w + 1) = iN b) (hbZ : b ≤ Z) {cd vl : Nat → Int32} {n dp kd i j k : Nat} {d : DN} (h : Gr true cd vl (S.2.1 29) n dp kd i j a b k d) (hk : k ≤ 50) :
    ∃ st', gfX9_reckon_25_52_53 x S (iN c) (iN w) = some ((d (S.2.1 52)).getD (-2000000000), wkO S st') := by
  have M := smO x S b (by omega) (Nat.le_refl _)
  obtain ⟨g1, g2, g3, g4⟩ := Gr.ok (o := true) M (by omega) h
  obtain ⟨f', st', e1, e2, e3⟩ := g4 (Nat.le_refl _) 20000 (S.2.1 53) 0 (by omega) (by omega)
  have e4 : (4 * iN c + iN w : Int32) = iN (4 * c + w) := by
    rw [show (4 : Int32) = iN 4 from rfl, iN_mul, iN_add]
  have e5 : (if S.1 25 1 < S.2.1 28 (4 * c + w + 1) then S.1 25 1 else S.2.1 28 (4 * c + w + 1)) = iN b := by
    rw [hsz, hb2]
    exact if_neg (fun h => by have := (iN_lt (by omega) (by omega)).mp h; omega)
  have start : gfX9_reckon_25_52_53 x S (iN c) (iN w) = lfX9_reckon_25_52_53_36 x 20000 S (iN b) (tI 0) (iN a) := by
    unfold gfX9_reckon_25_52_53 bfX9_reckon_25_52_53_0
    rw [e4, iN_succ, inb_t hc (by omega), cond_true, inb_t (show 4 * c + w < 48 by omega) (by omega), cond_true, iN_nat (by omega), iN_nat (by omega), e5, hb1]
    rfl
  rw [start]
  cases hd : d (S.2.1 52) with
  | none =>
    rw [hd] at e3
    have e3 : lfX9_reckon_25_52_53_36 x 20000 (wkO S (S.2.1 53)) (iN b) (tI 0) (iN a) = some (-2000000000, wkO S st') := e3
    rw [wkO_self] at e3
    exact ⟨st', e3⟩
  | some v =>
    rw [hd] at e3
    obtain ⟨e6, e7⟩ := e3
    have e7 : lfX9_reckon_25_52_53_36 x 20000 (wkO S (S.2.1 53)) (iN b) (tI 0) (iN a) = lfX9_reckon_25_52_53_36 x f' (wkO S st') (iN b) (tI (0 + 1)) (iN b) := e7
    rw [wkO_self] at e7
    refine ⟨st', ?_⟩
    rw [e7]
    obtain ⟨f', rfl⟩ : ∃ z, f' = z + 1 := ⟨f' - 1, by omega⟩
    show bfX9_reckon_25_52_53_36 x (lfX9_reckon_25_52_53_36 x f') (wkO S st') (iN b) (tI (0 + 1)) (iN b) = _
    unfold bfX9_reckon_25_52_53_36 bfX9_reckon_25_52_53_298
    rw [if_pos (Int32.le_refl _), tI_p, if_neg (fun h => h (show iN 0 = 0 from rfl))]
    rw [show (wkO S st').2.1 53 0 = st' 0 by unfold wkO; dsimp only; rw [u1_s], e6]
    rfl
theorem hasO (x : XT) (S : ST) (c w a b : Nat) (hc : 4 * c + w + 1 < 48) (ha : a ≤ 400) (hb : b ≤ 400) (hb1 : S.2.1 28 (4 * c + w) = iN a) (hb2 : S.2.1 28 (4 * c + w + 1) = iN b) : gfX9_has_25 x S (iN c) (iN w) = some (if b ≤ a then 0 else 1, S) := by
  have e4 : (4 * iN c + iN w : Int32) = iN (4 * c + w) := by
    rw [show (4 : Int32) = iN 4 from rfl, iN_mul, iN_add]
  unfold gfX9_has_25 bfX9_has_25_0 bfX9_has_25_30
  rw [e4, iN_succ, inb_t hc (by omega), cond_true, inb_t (show 4 * c + w < 48 by omega) (by omega), cond_true, iN_nat (by omega), iN_nat (by omega), hb1, hb2]
  by_cases c : b ≤ a
  · rw [if_pos ((iN_le (by omega) (by omega)).mpr c), if_pos c]; rfl
  · rw [if_neg (fun z => c ((iN_le (by omega) (by omega)).mp z)), if_neg c]; rfl
/-- small() -/
def smV (v : Int32) : Int32 := if v < 0 then -1 else if v ≤ 1000000 then v else -1
theorem small_ok (x : XT) (S : ST) (v : Int64) : ∃ r, gfX11_small x S v = some (r, S) := by
  unfold gfX11_small bfX11_small_0 bfX11_small_14 bfX11_small_20
  by_cases c1 : lg_cmp v 0 < 0
  · rw [if_pos c1]; exact ⟨_, rfl⟩
  · rw [if_neg c1]
    by_cases c2 : lg_cmp v 1000000 ≤ 0
    · rw [if_pos c2]; exact ⟨_, rfl⟩
    · rw [if_neg c2]; exact ⟨_, rfl⟩
theorem smV_in {v : Int32} {n : Nat} (hn : n ≤ 1000) (h : inb v n = true) : smV v = v := by
  obtain ⟨k, hk, rfl⟩ := inb_ex h
  unfold smV
  rw [if_neg (iN_nn (by omega)), if_pos (show iN k ≤ 1000000 from (iN_le (n := 1000000) (by omega) (by omega)).mpr (by omega))]
theorem smV_out {v : Int32} {n : Nat} (hn : n ≤ 1000) (h : inb v n = false) : inb (smV v) n = false := by
  unfold smV
  by_cases c1 : v < 0
  · rw [if_pos c1]
    cases hh : inb (-1) n with
    | false => rfl
    | true =>
      obtain ⟨k, hk, e⟩ := inb_ex hh
      exact absurd e.symm (iN_ne1 (by omega))
  · rw [if_neg c1]
    by_cases c2 : v ≤ 1000000
    · rw [if_pos c2]; exact h
    · rw [if_neg c2]
      cases hh : inb (-1) n with
      | false => rfl
      | true =>
        obtain ⟨k, hk, e⟩ := inb_ex hh
        exact absurd e.symm (iN_ne1 (by omega))
theorem smV_inb (v : Int32) {n : Nat} (hn : n ≤ 1000) : inb (smV v) n = inb v n := by
  cases h : inb v n with
  | false => exact smV_out hn h
  | true => rw [smV_in hn h]; exact h
theorem smV_go (x : XT) (S : ST) (G P : Nat) (hG : G ≤ 10) (hP : P ≤ 5) (e1 : S.1 1 0 = iN G) (e2 : S.1 1 6 = iN P) (a b : Int32) : gfX1_sendThrough_33 x S (smV a) (smV b) = gfX1_sendThrough_33 x S a b := by
  cases ha : inb a P with
  | false =>
    unfold gfX1_sendThrough_33 bfX1_sendThrough_33_0
    rw [hasGoer_eq1 x S a P (by omega) e2, hasGoer_eq1 x S (smV a) P (by omega) e2, smV_inb a (by omega), ha]
    dsimp only
    rw [if_pos (show bz false = 0 from rfl), if_pos (show bz false = 0 from rfl)]
  | true =>
    cases hb : inb b G with
    | false =>
      unfold gfX1_sendThrough_33 bfX1_sendThrough_33_0
      rw [hasGoer_eq1 x S a P (by omega) e2, hasGoer_eq1 x S (smV a) P (by omega) e2, smV_inb a (by omega), ha]
      dsimp only
      rw [if_neg (show ¬ bz true = 0 by decide), if_neg (show ¬ bz true = 0 by decide), hasGate_eq1 x S b G (by omega) e1, hasGate_eq1 x S (smV b) G (by omega) e1, smV_inb b (by omega), hb]
      dsimp only
      rw [if_neg (show ¬ ¬ bz false = 0 from fun q => q rfl), if_neg (show ¬ ¬ bz false = 0 from fun q => q rfl)]
    | true => rw [smV_in (by omega) ha, smV_in (by omega) hb]
theorem smV_flip (x : XT) (S : ST) (G : Nat) (hG : G ≤ 10) (e1 : S.1 1 0 = iN G) (a : Int32) : gfX1_flip_33 x S (smV a) = gfX1_flip_33 x S a := by
  cases ha : inb a G with
  | false =>
    unfold gfX1_flip_33 bfX1_flip_33_0
    rw [hasGate_eq1 x S a G (by omega) e1, hasGate_eq1 x S (smV a) G (by omega) e1, smV_inb a (by omega), ha]
    dsimp only
    rw [if_neg (show ¬ ¬ bz false = 0 from fun q => q rfl), if_neg (show ¬ ¬ bz false = 0 from fun q => q rfl)]
  | true => rw [smV_in (by omega) ha]
theorem smV_set (x : XT) (S : ST) (G : Nat) (hG : G ≤ 10) (e1 : S.1 1 0 = iN G) (a b : Int32) : gfX1_changeArm_33 x S (smV a) (smV b) = gfX1_changeArm_33 x S a b := by
  have w : ∀ v, gfX10_within x S v 10 = some (bz (inb v 10), S) := fun v => within_eq x S v 10 (by omega)
  cases hb : inb b 10 with
  | false =>
    unfold gfX1_changeArm_33 bfX1_changeArm_33_0
    rw [w, w, smV_inb b (by omega), hb]
    dsimp only
    rw [if_neg (show ¬ ¬ bz false = 0 from fun q => q rfl), if_neg (show ¬ ¬ bz false = 0 from fun q => q rfl)]
  | true =>
    cases ha : inb a G with
    | false =>
      unfold gfX1_changeArm_33 bfX1_changeArm_33_0
      rw [w, w, smV_inb b (by omega), hb]
      dsimp only
      rw [if_pos (show ¬ bz true = 0 by decide), if_pos (show ¬ bz true = 0 by decide), hasGate_eq1 x S a G (by omega) e1, hasGate_eq1 x S (smV a) G (by omega) e1, smV_inb a (by omega), ha]
      dsimp only
      rw [if_neg (show ¬ ¬ bz false = 0 from fun q => q rfl), if_neg (show ¬ ¬ bz false = 0 from fun q => q rfl)]
    | true => rw [smV_in (by omega) ha, smV_in (by omega) hb]
theorem smallV_eq (x : XT) (S : ST) (v : Int32) : gfX11_small x S v.toInt64 = some (smV v, S) := by
  unfold gfX11_small bfX11_small_0 bfX11_small_14 bfX11_small_20 smV
  have e0 : lg_cmp v.toInt64 0 < 0 ↔ v < 0 := by
    rw [lg_cmp_lt]
    constructor
    · intro z
      have := Int64.lt_iff_toInt_lt.mp z
      rw [Int32.toInt_toInt64] at this
      exact Int32.lt_iff_toInt_lt.mpr this
    · intro z
      have := Int32.lt_iff_toInt_lt.mp z
      refine Int64.lt_iff_toInt_lt.mpr ?_
      rw [Int32.toInt_toInt64]
      exact this
  have e1 : lg_cmp v.toInt64 1000000 ≤ 0 ↔ v ≤ 1000000 := by
    rw [lg_cmp_le]
    constructor
    · intro z
      have := Int64.le_iff_toInt_le.mp z
      rw [Int32.toInt_toInt64] at this
      exact Int32.le_iff_toInt_le.mpr this
    · intro z
      have := Int32.le_iff_toInt_le.mp z
      refine Int64.le_iff_toInt_le.mpr ?_
      rw [Int32.toInt_toInt64]
      exact this
  by_cases c1 : v < 0
  · rw [if_pos (e0.mpr c1), if_pos c1]
  · rw [if_neg (fun z => c1 (e0.mp z)), if_neg c1]
    by_cases c2 : v ≤ 1000000
    · rw [if_pos (e1.mpr c2), if_pos c2, Int32.toInt32_toInt64]
    · rw [if_neg (fun z => c2 (e1.mp z)), if_neg c2]
end ORDSTEP
