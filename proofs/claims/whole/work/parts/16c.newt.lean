section NEWT
theorem blt158 {a : Nat} (h : a < 158) : Nat.blt a 158 = true := Nat.ble_eq_true_of_le h
theorem blt158n {a : Nat} (h : 158 ≤ a) : Nat.blt a 158 = false := by
  cases hb : Nat.blt a 158 with
  | false => rfl
  | true => have := Nat.le_of_ble_eq_true hb; omega
theorem mK_lo (x : XT) {a : Nat} (h : a < 158) : mK x a = K0 a := by
  show (bif Nat.blt a 158 then K0 a else x.2.1 a) = _
  rw [blt158 h]; rfl
theorem mL_lo (x : XT) {a : Nat} (h : a < 158) : mL x a = L0 a := by
  show (bif Nat.blt a 158 then L0 a else x.2.2.1 a) = _
  rw [blt158 h]; rfl
theorem mR_lo (x : XT) {a : Nat} (h : a < 158) (k : Nat) : mRr x a k = R0 a k := by
  show (bif Nat.blt a 158 then R0 a k else x.2.2.2 a k) = _
  rw [blt158 h]; rfl
theorem mK_hi (x : XT) {a : Nat} (h : 158 ≤ a) : mK x a = x.2.1 a := by
  show (bif Nat.blt a 158 then K0 a else x.2.1 a) = _
  rw [blt158n h]; rfl
theorem mL_hi (x : XT) {a : Nat} (h : 158 ≤ a) : mL x a = x.2.2.1 a := by
  show (bif Nat.blt a 158 then L0 a else x.2.2.1 a) = _
  rw [blt158n h]; rfl
theorem mR_hi (x : XT) {a : Nat} (h : 158 ≤ a) (k : Nat) : mRr x a k = x.2.2.2 a k := by
  show (bif Nat.blt a 158 then R0 a k else x.2.2.2 a k) = _
  rw [blt158n h]; rfl
/-- a picture whose first 158 cells are as ever: it is one of ours -/
def xOf (hf : HP) : XT := (kN hf - 158, kK hf, kL hf, kR hf)
def sOf (hf : HP) : ST := (kI hf, kA hf, kJ hf, kQ hf)
theorem xOf_eq (hf : HP) (hn : 158 ≤ kN hf) (hk : ∀ a, a < 158 → kK hf a = K0 a ∧ kL hf a = L0 a ∧ ∀ k, kR hf a k = R0 a k) : mkS (xOf hf) (sOf hf) = hf ∧ mK (xOf hf) = kK hf ∧ mL (xOf hf) = kL hf ∧ mRr (xOf hf) = kR hf := by
  have e1 : mK (xOf hf) = kK hf := by
    funext a
    by_cases c : a < 158
    · rw [mK_lo _ c, (hk a c).1]
    · rw [mK_hi _ (by omega)]; rfl
  have e2 : mL (xOf hf) = kL hf := by
    funext a
    by_cases c : a < 158
    · rw [mL_lo _ c, (hk a c).2.1]
    · rw [mL_hi _ (by omega)]; rfl
  have e3 : mRr (xOf hf) = kR hf := by
    funext a k
    by_cases c : a < 158
    · rw [mR_lo _ c, (hk a c).2.2 k]
    · rw [mR_hi _ (by omega)]; rfl
  have e0 : 158 + (xOf hf).1 = kN hf := by show 158 + (kN hf - 158) = kN hf; omega
  refine ⟨?_, e1, e2, e3⟩
  show (158 + (xOf hf).1, mK (xOf hf), mL (xOf hf), kI hf, mRr (xOf hf), kA hf, kJ hf, kQ hf) = hf
  rw [e0, e1, e2, e3]
theorem txS (x : XT) (S : ST) (C Z : Nat) (h0 : S.1 25 0 = iN C) (h1 : S.1 25 1 = iN Z) : TxH (mkS x S) C Z := ⟨rfl, h0, h1, ⟨rfl, rfl, rfl, rfl⟩, ⟨rfl, rfl, rfl, rfl⟩, rfl, rfl, rfl, rfl⟩
theorem new_text (x : XT) (S : ST) (hx : XW x) (C Z : Nat) : ∃ x' S', mkS x' S' = xc7 (158 + x.1) C Z (mkS x S) ∧ NewT x x' S S' C Z := by
  obtain ⟨n, hn⟩ : ∃ n, n = 158 + x.1 := ⟨_, rfl⟩
  rw [← hn]
  have b0 : Bw n (mkS x S) (mkn n (mkS x S) 9 0) := Bw.mk _ 9 0 (Nat.le_refl n)
  have b1 : Bw n (mkS x S) (xc1 n C Z (mkS x S)) := b0.tr (xt10_bw n C Z _)
  have b2 : Bw n (mkS x S) (xc2 n C Z (mkS x S)) := b1.tr (Bw.si _ 0 _ (Nat.le_refl n))
  have b3 : Bw n (mkS x S) (xc3 n C Z (mkS x S)) := b2.tr (Bw.si _ 1 _ (Nat.le_refl n))
  have b4 : Bw n (mkS x S) (xc4 n C Z (mkS x S)) := b3.tr (Bw.sa _ _ (by omega))
  have b5 : Bw n (mkS x S) (xc5 n C Z (mkS x S)) := b4.tr (Bw.sa _ _ (by omega))
  have b6 : Bw n (mkS x S) (xc6 n C Z (mkS x S)) := b5.tr (Bw.sa _ _ (by omega))
  have b7 : Bw n (mkS x S) (xc7 n C Z (mkS x S)) := b6.tr (Bw.sa _ _ (by omega))
  have m7 : TnH (xc7 n C Z (mkS x S)) n C Z := xt10_tn n C Z (mkn n (mkS x S) 9 0) (u1_s _ _ _)
  have kn : kN (xc7 n C Z (mkS x S)) = n + 5 := rfl
  have kk : ∀ b, kK (xc7 n C Z (mkS x S)) b = u1 (u1 (u1 (u1 (u1 (mK x) n 9) (n + 1) 13) (n + 2) 13) (n + 3) 13) (n + 4) 13 b := fun b => rfl
  have i0 : kI (xc7 n C Z (mkS x S)) n 0 = iN C := (u2_k (kI (xc2 n C Z (mkS x S))) n (k := 1) (j := 0) (iN Z) (by decide)).trans (u2_s (kI (xc1 n C Z (mkS x S))) n 0 (iN C))
  have i1 : kI (xc7 n C Z (mkS x S)) n 1 = iN Z := u2_s (kI (xc2 n C Z (mkS x S))) n 1 (iN Z)
  have a1 : ∀ z, z < C → kA (xc7 n C Z (mkS x S)) (n + 1) z = S.2.1 26 z := by
    intro z hz
    have r : kA (xc7 n C Z (mkS x S)) (n + 1) = va_cpy (kA (xc3 n C Z (mkS x S)) 26) (kA (xc3 n C Z (mkS x S)) (n + 1)) 0 0 C := (u1_n _ _ (by omega)).trans ((u1_n _ _ (by omega)).trans ((u1_n _ _ (by omega)).trans (u1_s _ _ _)))
    rw [r, cpy_in _ _ (by omega) (by omega), (b3 26 (by omega)).2.2.2.2.1, show 0 + (z - 0) = z by omega]
  have a3 : ∀ z, z < 4 * C → kA (xc7 n C Z (mkS x S)) (n + 3) z = S.2.1 28 z := by
    intro z hz
    have r : kA (xc7 n C Z (mkS x S)) (n + 3) = va_cpy (kA (xc5 n C Z (mkS x S)) 28) (kA (xc5 n C Z (mkS x S)) (n + 3)) 0 0 (4 * C) := (u1_n _ _ (by omega)).trans (u1_s _ _ _)
    rw [r, cpy_in _ _ (by omega) (by omega), (b5 28 (by omega)).2.2.2.2.1, show 0 + (z - 0) = z by omega]
  have a4 : ∀ z, z < Z → kA (xc7 n C Z (mkS x S)) (n + 4) z = S.2.1 29 z := by
    intro z hz
    have r : kA (xc7 n C Z (mkS x S)) (n + 4) = va_cpy (kA (xc6 n C Z (mkS x S)) 29) (kA (xc6 n C Z (mkS x S)) (n + 4)) 0 0 Z := u1_s _ _ _
    rw [r, cpy_in _ _ (by omega) (by omega), (b6 29 (by omega)).2.2.2.2.1, show 0 + (z - 0) = z by omega]
  generalize xc7 n C Z (mkS x S) = hf at b7 m7 kn kk i0 i1 a1 a3 a4
  have lo : ∀ a, a < 158 → kK hf a = K0 a ∧ kL hf a = L0 a ∧ ∀ k, kR hf a k = R0 a k := by
    intro a ha
    obtain ⟨w1, w2, -, w4, -⟩ := b7 a (by omega)
    refine ⟨w1.trans (mK_lo x ha), w2.trans (mL_lo x ha), fun k => ?_⟩
    rw [w4]; exact mR_lo x ha k
  obtain ⟨q0, q1, q2, q3⟩ := xOf_eq hf (by omega) lo
  refine ⟨xOf hf, sOf hf, q0, ?_, fun a ha => ?_, fun a ha => ?_, ?_, ?_, ?_, ?_, fun a ha => ?_, ?_, ?_, ?_, ?_, ?_⟩
  · show kN hf - 158 = x.1 + 5
    omega
  · obtain ⟨w1, w2, -, w4, -⟩ := b7 a (by omega)
    rw [q1, q2, q3]
    exact ⟨w1, w2, fun k => by rw [w4]⟩
  · have ha : 158 + (kN hf - 158) ≤ a := ha
    show kK hf a = 99
    rw [kk, u1_n _ _ (by omega), u1_n _ _ (by omega), u1_n _ _ (by omega), u1_n _ _ (by omega), u1_n _ _ (by omega), mK_hi x (by omega)]
    exact hx a (by omega)
  · rw [← hn]
    obtain ⟨w1, ⟨w2, w3, w4, w5⟩, ⟨w6, w7, w8, w9⟩, -⟩ := m7
    unfold tx
    rw [q1, q3, w1, w2, w3, w4, w5, w6, w7, w8, w9]
    simp
  · rw [← hn, q2]; exact m7.2.2.2.1
  · rw [← hn, q2]; exact m7.2.2.2.2.2.1
  · rw [← hn, q2]; exact m7.2.2.2.2.2.2
  · obtain ⟨-, -, w3, -, w5, -, w7⟩ := b7 a (by omega)
    exact ⟨w3, w5, w7⟩
  · rw [← hn]; exact i0
  · rw [← hn]; exact i1
  · rw [← hn]; exact a1
  · rw [← hn]; exact a3
  · rw [← hn]; exact a4
end NEWT
