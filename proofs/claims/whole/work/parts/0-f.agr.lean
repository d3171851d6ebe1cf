section AGR
/-- what a method may write: fields, rows of ints, of longs, of cells; all else stays -/
abbrev WS : Type := List (Nat × Nat) × List Nat × List Nat × List Nat
def Agr (W : WS) (S S' : ST) : Prop := (∀ a k, (a, k) ∉ W.1 → S'.1 a k = S.1 a k) ∧ (∀ a, a ∉ W.2.1 → S'.2.1 a = S.2.1 a) ∧ (∀ a, a ∉ W.2.2.1 → S'.2.2.1 a = S.2.2.1 a) ∧ (∀ a, a ∉ W.2.2.2 → S'.2.2.2 a = S.2.2.2 a)
theorem Agr.rf {W : WS} {S : ST} : Agr W S S := ⟨fun _ _ _ => rfl, fun _ _ => rfl, fun _ _ => rfl, fun _ _ => rfl⟩
theorem Agr.tr {W : WS} {S S1 S2 : ST} (h1 : Agr W S S1) (h2 : Agr W S1 S2) : Agr W S S2 :=
  ⟨fun a k h => (h2.1 a k h).trans (h1.1 a k h), fun a h => (h2.2.1 a h).trans (h1.2.1 a h), fun a h => (h2.2.2.1 a h).trans (h1.2.2.1 a h), fun a h => (h2.2.2.2 a h).trans (h1.2.2.2 a h)⟩
def subW (V W : WS) : Bool := V.1.all (fun q => W.1.contains q) && (V.2.1.all (fun q => W.2.1.contains q) && (V.2.2.1.all (fun q => W.2.2.1.contains q) && V.2.2.2.all (fun q => W.2.2.2.contains q)))
theorem sub_one {α : Type} [BEq α] [LawfulBEq α] {l m : List α} (h : l.all (fun q => m.contains q) = true) {a : α} (ha : a ∉ m) : a ∉ l := fun hl => ha (by
  have := List.all_eq_true.mp h a hl
  simpa using this)
theorem Agr.sub {V W : WS} {S S' : ST} (h : Agr V S S') (hs : subW V W = true) : Agr W S S' := by
  unfold subW at hs
  simp only [Bool.and_eq_true] at hs
  obtain ⟨s1, s2, s3, s4⟩ := hs
  exact ⟨fun a k ha => h.1 a k (sub_one s1 ha), fun a ha => h.2.1 a (sub_one s2 ha), fun a ha => h.2.2.1 a (sub_one s3 ha), fun a ha => h.2.2.2 a (sub_one s4 ha)⟩
theorem u2_ne {α : Type} (f : Nat → Nat → α) {a k b j : Nat} (v : α) (h : (b, j) ≠ (a, k)) : u2 f a k v b j = f b j := by
  by_cases e : b = a
  · subst e
    exact u2_k f b v (fun e2 => h (by rw [e2]))
  · exact u2_n f k j v e
theorem u2_na {α : Type} (f : Nat → Nat → α) {a b : Nat} (k : Nat) (v : α) (h : b ≠ a) : u2 f a k v b = f b := by rw [u2, u1_n _ _ h]
theorem Agr.f {W : WS} {S S1 : ST} (h : Agr W S S1) (a k : Nat) (v : Int32) (hm : (a, k) ∈ W.1) : Agr W S (u2 S1.1 a k v, S1.2.1, S1.2.2.1, S1.2.2.2) :=
  ⟨fun b j hb => (u2_ne S1.1 v (fun e => hb (by rw [e]; exact hm))).trans (h.1 b j hb), h.2.1, h.2.2.1, h.2.2.2⟩
theorem Agr.i {W : WS} {S S1 : ST} (h : Agr W S S1) (a k : Nat) (v : Int32) (hm : a ∈ W.2.1) : Agr W S (S1.1, u2 S1.2.1 a k v, S1.2.2.1, S1.2.2.2) :=
  ⟨h.1, fun b hb => (u2_na S1.2.1 k v (fun e => hb (by rw [e]; exact hm))).trans (h.2.1 b hb), h.2.2.1, h.2.2.2⟩
theorem Agr.ic {W : WS} {S S1 : ST} (h : Agr W S S1) (a : Nat) (v : Nat → Int32) (hm : a ∈ W.2.1) : Agr W S (S1.1, u1 S1.2.1 a v, S1.2.2.1, S1.2.2.2) :=
  ⟨h.1, fun b hb => (u1_n S1.2.1 v (fun e => hb (by rw [e]; exact hm))).trans (h.2.1 b hb), h.2.2.1, h.2.2.2⟩
theorem Agr.j {W : WS} {S S1 : ST} (h : Agr W S S1) (a k : Nat) (v : Int64) (hm : a ∈ W.2.2.1) : Agr W S (S1.1, S1.2.1, u2 S1.2.2.1 a k v, S1.2.2.2) :=
  ⟨h.1, h.2.1, fun b hb => (u2_na S1.2.2.1 k v (fun e => hb (by rw [e]; exact hm))).trans (h.2.2.1 b hb), h.2.2.2⟩
theorem Agr.jc {W : WS} {S S1 : ST} (h : Agr W S S1) (a : Nat) (v : Nat → Int64) (hm : a ∈ W.2.2.1) : Agr W S (S1.1, S1.2.1, u1 S1.2.2.1 a v, S1.2.2.2) :=
  ⟨h.1, h.2.1, fun b hb => (u1_n S1.2.2.1 v (fun e => hb (by rw [e]; exact hm))).trans (h.2.2.1 b hb), h.2.2.2⟩
theorem Agr.q {W : WS} {S S1 : ST} (h : Agr W S S1) (a k : Nat) (v : Option Nat) (hm : a ∈ W.2.2.2) : Agr W S (S1.1, S1.2.1, S1.2.2.1, u2 S1.2.2.2 a k v) :=
  ⟨h.1, h.2.1, h.2.2.1, fun b hb => (u2_na S1.2.2.2 k v (fun e => hb (by rw [e]; exact hm))).trans (h.2.2.2 b hb)⟩
end AGR
