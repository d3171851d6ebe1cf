section MIRROR
/-- what the cells hold: numbers in fields, rows of ints, of longs, of cells -/
abbrev ST : Type := (Nat → Nat → Int32) × (Nat → Nat → Int32) × (Nat → Nat → Int64) × (Nat → Nat → Option Nat)
abbrev mkS (x : XT) (S : ST) : HP := mkH x S.1 S.2.1 S.2.2.1 S.2.2.2
def inb (i : Int32) (n : Nat) : Bool := !(decide (i < 0)) && decide (i.toNatClampNeg < n)
theorem inb_ok {i : Int32} {n : Nat} (h : inb i n = true) : vp_in i n := by
  unfold inb at h
  rw [Bool.and_eq_true] at h
  rintro (h1 | h1)
  · simp [h1] at h
  · have := of_decide_eq_true h.2
    omega
def nzi (y : Int32) : Bool := !(decide (y = 0))
theorem nzi_ok {y : Int32} (h : nzi y = true) : ¬ y = 0 := by
  intro e
  simp [nzi, e] at h
def nzl (y : Int64) : Bool := !(decide (y = 0))
theorem nzl_ok {y : Int64} (h : nzl y = true) : ¬ y = 0 := by
  intro e
  simp [nzl, e] at h
def bbz (x : Int32) : Bool := decide (x = 0) || decide (x = 1)
theorem bbz_ok {x : Int32} (h : bbz x = true) : x = 0 ∨ x = 1 := by
  unfold bbz at h
  rw [Bool.or_eq_true] at h
  rcases h with h | h
  · exact Or.inl (of_decide_eq_true h)
  · exact Or.inr (of_decide_eq_true h)
theorem oblk {α : Type} {c : Bool} {t : Option α} {v : α} (h : (bif c then t else none) = some v) : c = true ∧ t = some v := by
  cases c with
  | true => exact ⟨rfl, h⟩
  | false => cases h
end MIRROR
