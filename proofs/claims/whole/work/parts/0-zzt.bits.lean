section BITS
def tb (v : Int32) (g : Nat) : Bool := v.toBitVec.getLsbD g
theorem one_b : ∀ i : Fin 32, i.1 ≠ 0 → (1 : Int32).toBitVec.getLsbD i.1 = false := by decide
theorem neg_b : ∀ i : Fin 32, (-1 : Int32).toBitVec.getLsbD i.1 = true := by decide
theorem zero_b : ∀ i : Fin 32, (0 : Int32).toBitVec.getLsbD i.1 = false := by decide
theorem and_1 (w : Int32) : ((w &&& 1) = 1) ↔ w.toBitVec.getLsbD 0 = true := by
  rw [← Int32.toBitVec_inj, Int32.toBitVec_and]
  constructor
  · intro h
    have h2 := congrArg (fun z => BitVec.getLsbD z 0) h
    simp only [BitVec.getLsbD_and] at h2
    have e : (1 : Int32).toBitVec.getLsbD 0 = true := by decide
    rw [e, Bool.and_true] at h2
    exact h2
  · intro h
    apply BitVec.eq_of_getLsbD_eq
    intro i hi
    rw [BitVec.getLsbD_and]
    by_cases e : i = 0
    · subst e
      rw [h, Bool.true_and]
    · rw [one_b ⟨i, hi⟩ e, Bool.and_false]
theorem sm10 (g : Nat) (hg : g < 10) : ((iN g &&& 31).toBitVec.smod 32).toNat = g := by
  rcases (show g = 0 ∨ g = 1 ∨ g = 2 ∨ g = 3 ∨ g = 4 ∨ g = 5 ∨ g = 6 ∨ g = 7 ∨ g = 8 ∨ g = 9 by omega) with rfl | rfl | rfl | rfl | rfl | rfl | rfl | rfl | rfl | rfl <;> decide
theorem bitI_tb (v : Int32) (g : Nat) (hg : g < 10) : bitI v g = tb v g := by
  unfold bitI tb
  have e : (v >>> (iN g &&& 31)).toBitVec.getLsbD 0 = v.toBitVec.getLsbD g := by
    rw [Int32.toBitVec_shiftRight, BitVec.sshiftRight_eq', sm10 g hg, BitVec.getLsbD_sshiftRight]
    simp only [show ¬ 32 ≤ 0 by omega, decide_false, Bool.not_false, Bool.true_and, Nat.add_zero]
    rw [if_pos (show g < 32 by omega)]
  rw [← e, Bool.eq_iff_iff, decide_eq_true_eq]
  exact and_1 _
theorem tb_iN (b g : Nat) (hg : g < 32) : tb (iN b) g = b.testBit g := by
  unfold tb
  show (Int32.ofNat b).toBitVec.getLsbD g = _
  rw [Int32.toBitVec_ofNat', BitVec.getLsbD_ofNat, decide_eq_true hg, Bool.true_and]
theorem tb_ext {v w : Int32} (h : ∀ i, i < 32 → tb v i = tb w i) : v = w := Int32.toBitVec_inj.mp (BitVec.eq_of_getLsbD_eq h)
theorem tb_and (v w : Int32) (g : Nat) : tb (v &&& w) g = (tb v g && tb w g) := by
  unfold tb
  rw [Int32.toBitVec_and, BitVec.getLsbD_and]
theorem tb_or (v w : Int32) (g : Nat) : tb (v ||| w) g = (tb v g || tb w g) := by
  unfold tb
  rw [Int32.toBitVec_or, BitVec.getLsbD_or]
theorem tb_not (v : Int32) (g : Nat) (hg : g < 32) : tb (v ^^^ (-1)) g = !tb v g := by
  unfold tb
  rw [Int32.toBitVec_xor, BitVec.getLsbD_xor, neg_b ⟨g, hg⟩, Bool.xor_true]
theorem iN_and (a b : Nat) : iN a &&& iN b = iN (a &&& b) := tb_ext (fun i hi => by rw [tb_and, tb_iN _ _ hi, tb_iN _ _ hi, tb_iN _ _ hi, Nat.testBit_and])
theorem iN_or (a b : Nat) : iN a ||| iN b = iN (a ||| b) := tb_ext (fun i hi => by rw [tb_or, tb_iN _ _ hi, tb_iN _ _ hi, tb_iN _ _ hi, Nat.testBit_or])
theorem tb_hi {b : Nat} (h : b < 1024) {i : Nat} (hi : 10 ≤ i) : b.testBit i = false := Nat.testBit_lt_two_pow (Nat.lt_of_lt_of_le h (show 1024 ≤ 2 ^ i from Nat.le_trans (show 1024 ≤ 2 ^ 10 by decide) (Nat.pow_le_pow_right (by omega) hi)))
/-- a set within another one -/
theorem sub_c (b N : Nat) (hb : b < 1024) (hN : N < 1024) : (iN b &&& iN N = iN b) ↔ b &&& N = b := by
  rw [iN_and]
  have : b &&& N ≤ b := Nat.and_le_left
  exact iN_eq (by omega) (by omega)
theorem sub_bit (b N : Nat) (hb : b < 1024) : (b &&& N = b) ↔ ∀ i, i < 10 → b.testBit i = true → N.testBit i = true := by
  constructor
  · intro h i hi hb
    rw [← h, Nat.testBit_and, Bool.and_eq_true] at hb
    exact hb.2
  · intro h
    apply Nat.eq_of_testBit_eq
    intro i
    rw [Nat.testBit_and]
    by_cases hi : i < 10
    · cases e : b.testBit i
      · rfl
      · rw [h i hi e]; rfl
    · rw [tb_hi hb (by omega)]; rfl
theorem sub_r (b N : Nat) (hb : b < 1024) (hN : N < 1024) : (iN b &&& (iN N ^^^ (-1)) = 0) ↔ b &&& N = b := by
  rw [sub_bit b N hb]
  constructor
  · intro h i hi hbi
    have := congrArg (fun z => tb z i) h
    simp only [tb_and, tb_not _ _ (show i < 32 by omega), tb_iN _ _ (show i < 32 by omega), hbi, Bool.true_and] at this
    rw [show tb 0 i = false from zero_b ⟨i, by omega⟩] at this
    simpa using this
  · intro h
    apply tb_ext
    intro i hi
    rw [tb_and, tb_not _ _ hi, tb_iN _ _ hi, tb_iN _ _ hi, show tb 0 i = false from zero_b ⟨i, hi⟩]
    by_cases h10 : i < 10
    · cases e : b.testBit i
      · rfl
      · rw [h i h10 e]; rfl
    · rw [tb_hi hb (by omega)]; rfl
/-- what is OPEN, as a set -/
def opN (f : Nat → Int32) : Nat → Nat
  | 0 => 0
  | g + 1 => opN f g ||| (if f (25 + g) = 0 then 0 else 2 ^ g)
theorem opN_lt (f : Nat → Int32) : ∀ g, opN f g < 2 ^ g
  | 0 => by rw [opN]; decide
  | g + 1 => by
    rw [opN]
    have h := opN_lt f g
    have e : 2 ^ (g + 1) = 2 ^ g * 2 := Nat.pow_succ ..
    refine Nat.or_lt_two_pow (by omega) ?_
    by_cases z : f (25 + g) = 0
    · rw [if_pos z]; omega
    · rw [if_neg z]; omega
theorem opN_bit (f : Nat → Int32) (i : Nat) : ∀ g, (opN f g).testBit i = (decide (i < g) && !decide (f (25 + i) = 0))
  | 0 => by rw [opN]; simp
  | g + 1 => by
    rw [opN, Nat.testBit_or, opN_bit f i g]
    by_cases e : i = g
    · subst e
      by_cases z : f (25 + i) = 0
      · rw [if_pos z]; simp [z]
      · rw [if_neg z, Nat.testBit_two_pow_self]; simp [z]
    · have e2 : (if f (25 + g) = 0 then 0 else 2 ^ g : Nat).testBit i = false := by
        by_cases z : f (25 + g) = 0
        · rw [if_pos z, Nat.zero_testBit]
        · rw [if_neg z, Nat.testBit_two_pow]
          exact decide_eq_false (fun y => e y.symm)
      rw [e2, Bool.or_false]
      have : decide (i < g + 1) = decide (i < g) := by
        rw [Bool.eq_iff_iff, decide_eq_true_eq, decide_eq_true_eq]
        omega
      rw [this]
theorem sh_1 (g : Nat) (hg : g < 10) : (1 : Int32) <<< (iN g &&& 31) = iN (2 ^ g) ∧ (0 : Int32) <<< (iN g &&& 31) = iN 0 := by
  rcases (show g = 0 ∨ g = 1 ∨ g = 2 ∨ g = 3 ∨ g = 4 ∨ g = 5 ∨ g = 6 ∨ g = 7 ∨ g = 8 ∨ g = 9 by omega) with rfl | rfl | rfl | rfl | rfl | rfl | rfl | rfl | rfl | rfl <;> decide
/-- how many GATES a set has -/
def pcR (v : Int32) : Nat → Nat → Int32 → Int32
  | 0, _, n => n
  | d + 1, k, n => pcR v d (k + 1) (n + ((v >>> (iN k &&& 31)) &&& 1))
def pcI (v : Int32) : Int32 := pcR v 10 0 0
theorem ones_l (x : XT) (S : ST) (v : Int32) : ∀ (d k fuel : Nat) (n : Int32), k + d = 10 → d < fuel → lfX11_ones_4 x fuel S v n (iN k) = some (pcR v d k n, S)
  | 0, k, fuel, n, hk, hf => by
    obtain ⟨fuel, rfl⟩ : ∃ z, fuel = z + 1 := ⟨fuel - 1, by omega⟩
    have e : k = 10 := by omega
    subst e
    rw [lfX11_ones_4, bfX11_ones_4, if_pos (show (10 : Int32) ≤ iN 10 by decide), pcR]
  | d + 1, k, fuel, n, hk, hf => by
    obtain ⟨fuel, rfl⟩ : ∃ z, fuel = z + 1 := ⟨fuel - 1, by omega⟩
    rw [lfX11_ones_4, bfX11_ones_4, if_neg (show ¬ (10 : Int32) ≤ iN k from fun z => by have := (iN_le (m := 10) (by omega) (by omega)).mp z; omega), iN_succ, ones_l x S v d (k + 1) fuel _ (by omega) (by omega), pcR]
theorem ones_eq (x : XT) (S : ST) (v : Int32) : gfX11_ones x S v = some (pcI v, S) := by
  have h := ones_l x S v 10 0 20000 0 (by omega) (by omega)
  rw [show iN 0 = 0 from rfl] at h
  exact h
def bcV (v : Int32) : Int32 := ((gfJ6_bitCount_0f7a4 (0, fun _ => 0, fun _ => 0, fun _ _ => none) (fun _ _ => 0, fun _ _ => 0, fun _ _ => 0, fun _ _ => none) v).map (·.1)).getD 0
theorem bc_v (x : XT) (S : ST) (v : Int32) : gfJ6_bitCount_0f7a4 x S v = some (bcV v, S) := rfl
set_option maxRecDepth 100000 in
theorem pc_all : ∀ b : Fin 1024, (bcV (iN b.1) = pcI (iN b.1) ∧ inb (pcI (iN b.1)) 11 = true) ∧ (pcI (iN b.1) = 10 → b.1 = 1023) := by decide +kernel
def pcN (b : Nat) : Nat := (pcI (iN b)).toNatClampNeg
theorem pc_is (b : Nat) (h : b < 1024) : pcI (iN b) = iN (pcN b) ∧ pcN b < 11 := inb_is (pc_all ⟨b, h⟩).1.2
theorem bc_eq (x : XT) (S : ST) (b : Nat) (h : b < 1024) : gfJ6_bitCount_0f7a4 x S (iN b) = some (iN (pcN b), S) := by
  rw [bc_v, (pc_all ⟨b, h⟩).1.1, (pc_is b h).1]
theorem pc_10 (b : Nat) (h : b < 1024) (e : pcN b = 10) : b = 1023 := (pc_all ⟨b, h⟩).2 (by rw [(pc_is b h).1, e]; rfl)
end BITS
