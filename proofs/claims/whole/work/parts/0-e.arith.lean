section ARITH
/-! small numbers as Int32: iN n -/
def iN (n : Nat) : Int32 := Int32.ofNat n
theorem iN_int {n : Nat} (h : n < 2147483648) : (iN n).toInt = (n : Int) := Int32.toInt_ofNat_of_lt h
theorem iN_nat {n : Nat} (h : n < 2147483648) : (iN n).toNatClampNeg = n := Int32.toNatClampNeg_ofNat_of_lt h
theorem iN_lt {m n : Nat} (hm : m < 2147483648) (hn : n < 2147483648) : iN m < iN n ↔ m < n := Int32.ofNat_lt_iff_lt hm hn
theorem iN_le {m n : Nat} (hm : m < 2147483648) (hn : n < 2147483648) : iN m ≤ iN n ↔ m ≤ n := Int32.ofNat_le_iff_le hm hn
theorem iN_eq {m n : Nat} (hm : m < 2147483648) (hn : n < 2147483648) : iN m = iN n ↔ m = n :=
  ⟨fun h => by have := congrArg Int32.toNatClampNeg h; rwa [iN_nat hm, iN_nat hn] at this, fun h => by rw [h]⟩
theorem iN_add (m n : Nat) : iN m + iN n = iN (m + n) := (Int32.ofNat_add m n).symm
theorem iN_mul (m n : Nat) : iN m * iN n = iN (m * n) := (Int32.ofNat_mul m n).symm
theorem iN_succ (m : Nat) : iN m + 1 = iN (m + 1) := iN_add m 1
theorem iN_sub {m n : Nat} (h : n ≤ m) : iN m - iN n = iN (m - n) := by
  have h1 : iN (m - n) + iN n = iN m := by rw [iN_add, Nat.sub_add_cancel h]
  rw [← h1, Int32.add_sub_cancel]
theorem iN_pred {m : Nat} (h : 1 ≤ m) : iN m + (-1) = iN (m - 1) := by
  have h1 : iN (m - 1) + 1 = iN m := by rw [iN_succ, Nat.sub_add_cancel h]
  rw [← h1, Int32.add_assoc, show (1 : Int32) + -1 = 0 from rfl, Int32.add_zero]
theorem iN_div {m n : Nat} (hm : m < 2147483648) (hn : n < 2147483648) : iN m / iN n = iN (m / n) := by
  apply Int32.toInt_inj.mp
  have hd : m / n < 2147483648 := Nat.lt_of_le_of_lt (Nat.div_le_self m n) hm
  rw [Int32.toInt_div_of_ne_right _ _ (by
    intro h
    have := congrArg Int32.toInt h
    rw [iN_int hn] at this
    have h1 : (-1 : Int32).toInt = -1 := rfl
    omega), iN_int hm, iN_int hn, iN_int hd]
  rfl
theorem iN_mod {m n : Nat} (hm : m < 2147483648) (hn : n < 2147483648) : iN m - iN m / iN n * iN n = iN (m % n) := by
  rw [iN_div hm hn, iN_mul, iN_sub (Nat.div_mul_le_self m n)]
  congr 1
  have := Nat.div_add_mod m n
  rw [Nat.mul_comm] at this
  omega
theorem iN_nn {n : Nat} (h : n < 2147483648) : ¬ iN n < 0 := fun h1 => by
  have := (iN_lt (n := 0) h (by decide)).mp h1
  omega
theorem iN_ne1 {n : Nat} (h : n < 2147483648) : ¬ iN n = -1 := fun h1 => by
  have := congrArg Int32.toInt h1
  rw [iN_int h] at this
  have h1 : (-1 : Int32).toInt = -1 := rfl
  omega
theorem inb_iN {k n : Nat} (hk : k < 2147483648) : inb (iN k) n = decide (k < n) := by
  unfold inb
  rw [iN_nat hk, decide_eq_false (iN_nn hk)]
  rfl
theorem inb_t {k n : Nat} (hk : k < n) (hn : n < 2147483648) : inb (iN k) n = true := by
  rw [inb_iN (Nat.lt_trans hk hn)]
  exact decide_eq_true hk
theorem inb_is {v : Int32} {n : Nat} (h : inb v n = true) : v = iN v.toNatClampNeg ∧ v.toNatClampNeg < n := by
  unfold inb at h
  simp only [Bool.and_eq_true, Bool.not_eq_true', decide_eq_false_iff_not, decide_eq_true_eq] at h
  exact ⟨(Int32.ofNat_toNatClampNeg v (Int32.not_lt.mp h.1)).symm, h.2⟩
theorem inb_ex {v : Int32} {n : Nat} (h : inb v n = true) : ∃ k, k < n ∧ v = iN k := ⟨_, (inb_is h).2, (inb_is h).1⟩
theorem inb_mono {v : Int32} {m n : Nat} (h : inb v m = true) (hmn : m ≤ n) : inb v n = true := by
  unfold inb at h ⊢
  simp only [Bool.and_eq_true, Bool.not_eq_true', decide_eq_false_iff_not, decide_eq_true_eq] at h ⊢
  exact ⟨h.1, by omega⟩
theorem inb_iff {v : Int32} {n : Nat} (hn : n < 2147483648) : inb v n = true ↔ ¬ v < 0 ∧ ¬ iN n ≤ v := by
  constructor
  · intro h
    obtain ⟨k, hk, rfl⟩ := inb_ex h
    exact ⟨iN_nn (by omega), fun h => by have := (iN_le hn (by omega)).mp h; omega⟩
  · rintro ⟨h1, h2⟩
    have h3 := (Int32.ofNat_toNatClampNeg v (Int32.not_lt.mp h1)).symm
    have h4 : v = iN v.toNatClampNeg := h3
    have h5 : v.toNatClampNeg < 2147483648 := Int32.toNatClampNeg_lt v
    rw [h4] at h2 ⊢
    refine inb_t (Nat.lt_of_not_le (fun h => h2 ((iN_le hn h5).mpr h))) hn
theorem inb_f {v : Int32} {n : Nat} (hn : n < 2147483648) (h : ¬ inb v n = true) : v < 0 ∨ iN n ≤ v := by
  by_cases h1 : v < 0
  · exact Or.inl h1
  · by_cases h2 : iN n ≤ v
    · exact Or.inr h2
    · exact absurd ((inb_iff hn).mpr ⟨h1, h2⟩) h
/-- a run that ends -/
def Ok {α : Type} (o : Option (α × ST)) (Q : α → ST → Prop) : Prop := ∃ r S', o = some (r, S') ∧ Q r S'
theorem Ok.ret {α : Type} {r : α} {S : ST} {Q : α → ST → Prop} (h : Q r S) : Ok (some (r, S)) Q := ⟨r, S, rfl, h⟩
theorem Ok.mono {α : Type} {o : Option (α × ST)} {Q Q' : α → ST → Prop} (k : Ok o Q) (h : ∀ r S', Q r S' → Q' r S') : Ok o Q' := by
  obtain ⟨r, S', e, q⟩ := k
  exact ⟨r, S', e, h r S' q⟩
theorem Ok.bif {α : Type} {c : Bool} {t : Option (α × ST)} {Q : α → ST → Prop} (hc : c = true) (k : Ok t Q) : Ok (bif c then t else none) Q := by
  rw [hc]; exact k
theorem Ok.ite {α : Type} {c : Prop} [Decidable c] {a b : Option (α × ST)} {Q : α → ST → Prop} (k1 : c → Ok a Q) (k2 : ¬ c → Ok b Q) : Ok (if c then a else b) Q := by
  by_cases h : c
  · rw [if_pos h]; exact k1 h
  · rw [if_neg h]; exact k2 h
theorem Ok.eq {α : Type} {o o' : Option (α × ST)} {Q : α → ST → Prop} (h : o = o') (k : Ok o' Q) : Ok o Q := by rw [h]; exact k
end ARITH
