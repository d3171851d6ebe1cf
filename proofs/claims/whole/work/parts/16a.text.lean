section TEXTNEW
/-- a Text at n and its four rows behind it, stage by stage -/
def xt1 (n : Nat) (h : HP) : HP := sI h (u2 (kI h) n 0 0)
def xt2 (n : Nat) (h : HP) : HP := sI (xt1 n h) (u2 (kI (xt1 n h)) n 1 0)
def xt3 (n C : Nat) (h : HP) : HP := mkn (n + 1) (xt2 n h) 13 C
def xt4 (n C : Nat) (h : HP) : HP := sR (xt3 n C h) (u2 (kR (xt3 n C h)) n 2 (some (n + 1)))
def xt5 (n C : Nat) (h : HP) : HP := mkn (n + 2) (xt4 n C h) 13 C
def xt6 (n C : Nat) (h : HP) : HP := sR (xt5 n C h) (u2 (kR (xt5 n C h)) n 3 (some (n + 2)))
def xt7 (n C : Nat) (h : HP) : HP := mkn (n + 3) (xt6 n C h) 13 (4 * C)
def xt8 (n C : Nat) (h : HP) : HP := sR (xt7 n C h) (u2 (kR (xt7 n C h)) n 4 (some (n + 3)))
def xt9 (n C Z : Nat) (h : HP) : HP := mkn (n + 4) (xt8 n C h) 13 Z
def xt10 (n C Z : Nat) (h : HP) : HP := sR (xt9 n C Z h) (u2 (kR (xt9 n C Z h)) n 5 (some (n + 4)))
theorem rf_fit (f : Nat) (hf : f = 2 ∨ f = 3 ∨ f = 4 ∨ f = 5) : ∀ v, fits (tyO 9 f) (va_rf v) = true ∧ narrow (tyO 9 f) (va_rf v) = va_rf v := by
  intro v
  rcases hf with rfl | rfl | rfl | rfl <;> cases v <;> exact ⟨rfl, rfl⟩
set_option maxRecDepth 4000 in
theorem ct_tinit (h : HP) (n C Z : Nat) (hn : kN h = n + 1) (hk : kK h n = 9) (hlt : n + 5 < 1000000) (hC : C ≤ 12) (hZ : Z ≤ 400) : Ct mX9_init 1 4 (0 + Z + 4 * C + C + C) [.ref n, .int (iN C), .int (iN Z)] h (fun v h' => v = none ∧ h' = xt10 n C Z h) := by
  have e4 : (4 : Int32) * iN C = iN (4 * C) := iN_mul 4 C
  have k3 : kK (xt3 n C h) n = 9 := (u1_n _ _ (by omega)).trans hk
  have k5 : kK (xt5 n C h) n = 9 := (u1_n _ _ (by omega)).trans k3
  have k7 : kK (xt7 n C h) n = 9 := (u1_n _ _ (by omega)).trans k5
  have k9 : kK (xt9 n C Z h) n = 9 := (u1_n _ _ (by omega)).trans k7
  refine Ct.of (lv := [some (.ref n), some (.int (iN C)), some (.int (iN Z))]) rfl rfl rfl (show (_ : Nat) ≤ _ from Nat.le_of_ble_eq_true rfl) (fun G => rfl) ?_
  refine Ev.steps tokX9_init 1 (P := True) (pc' := 1) (lv' := [some (.ref n), some (.int (iN C)), some (.int (iN Z))]) (st' := [.ref n]) (h' := h) rfl trivial ?_
  refine ev_objInit (dcd tokX9_init rfl) lk9_3 ob_in.1 ob_in.2 (by decide) (Nat.le_of_ble_eq_true rfl) ?_
  refine Ev.steps tokX9_init 2 (P := True) (pc' := 6) (lv' := [some (.ref n), some (.int (iN C)), some (.int (iN Z))]) (st' := [.int 0, .ref n]) (h' := h) rfl trivial ?_
  refine ev_putI (ci := 9) (f := 0) (dcd tokX9_init rfl) rfl hk (Or.inl rfl) (Or.inl rfl) ?_
  show Ev _ _ _ _ _ _ _ (xt1 n h) _
  refine Ev.steps tokX9_init 2 (P := True) (pc' := 11) (lv' := [some (.ref n), some (.int (iN C)), some (.int (iN Z))]) (st' := [.int 0, .ref n]) (h' := xt1 n h) rfl trivial ?_
  refine ev_putI (ci := 9) (f := 1) (dcd tokX9_init rfl) rfl hk (Or.inl rfl) (Or.inl rfl) ?_
  show Ev _ _ _ _ _ _ _ (xt2 n h) _
  refine Ev.steps tokX9_init 2 (P := True) (pc' := 16) (lv' := [some (.ref n), some (.int (iN C)), some (.int (iN Z))]) (st' := [.int (iN C), .ref n]) (h' := xt2 n h) rfl trivial ?_
  refine ev_newaN (n0 := n + 1) (k := 13) (N := C) (bc := 3) (bs := 0 + Z + 4 * C + C) (dcd tokX9_init rfl) rfl (by decide) hn (by omega) (iN_nn (by omega)) (iN_nat (by omega)) (by omega) ?_
  show Ev _ _ _ _ _ _ _ (xt3 n C h) _
  refine ev_putR (r := some (n + 1)) (ci := 9) (f := 2) (dcd tokX9_init rfl) rfl k3 rfl (rf_fit 2 (by omega)) (Or.inr ⟨rfl, rfl⟩) ?_
  show Ev _ _ _ _ _ _ _ (xt4 n C h) _
  refine Ev.steps tokX9_init 2 (P := True) (pc' := 23) (lv' := [some (.ref n), some (.int (iN C)), some (.int (iN Z))]) (st' := [.int (iN C), .ref n]) (h' := xt4 n C h) rfl trivial ?_
  refine ev_newaN (n0 := n + 2) (k := 13) (N := C) (bc := 2) (bs := 0 + Z + 4 * C) (dcd tokX9_init rfl) rfl (by decide) rfl (by omega) (iN_nn (by omega)) (iN_nat (by omega)) (by omega) ?_
  show Ev _ _ _ _ _ _ _ (xt5 n C h) _
  refine ev_putR (r := some (n + 2)) (ci := 9) (f := 3) (dcd tokX9_init rfl) rfl k5 rfl (rf_fit 3 (by omega)) (Or.inr ⟨rfl, rfl⟩) ?_
  show Ev _ _ _ _ _ _ _ (xt6 n C h) _
  refine Ev.steps tokX9_init 4 (P := True) (pc' := 32) (lv' := [some (.ref n), some (.int (iN C)), some (.int (iN Z))]) (st' := [.int (4 * iN C), .ref n]) (h' := xt6 n C h) rfl trivial ?_
  refine ev_newaN (n0 := n + 3) (k := 13) (N := 4 * C) (bc := 1) (bs := 0 + Z) (dcd tokX9_init rfl) rfl (by decide) rfl (by omega) (by rw [e4]; exact iN_nn (by omega)) (by rw [e4]; exact iN_nat (by omega)) (by omega) ?_
  show Ev _ _ _ _ _ _ _ (xt7 n C h) _
  refine ev_putR (r := some (n + 3)) (ci := 9) (f := 4) (dcd tokX9_init rfl) rfl k7 rfl (rf_fit 4 (by omega)) (Or.inr ⟨rfl, rfl⟩) ?_
  show Ev _ _ _ _ _ _ _ (xt8 n C h) _
  refine Ev.steps tokX9_init 2 (P := True) (pc' := 39) (lv' := [some (.ref n), some (.int (iN C)), some (.int (iN Z))]) (st' := [.int (iN Z), .ref n]) (h' := xt8 n C h) rfl trivial ?_
  refine ev_newaN (n0 := n + 4) (k := 13) (N := Z) (bc := 0) (bs := 0) (dcd tokX9_init rfl) rfl (by decide) rfl (by omega) (iN_nn (by omega)) (iN_nat (by omega)) (by omega) ?_
  show Ev _ _ _ _ _ _ _ (xt9 n C Z h) _
  refine ev_putR (r := some (n + 4)) (ci := 9) (f := 5) (dcd tokX9_init rfl) rfl k9 rfl (rf_fit 5 (by omega)) (Or.inr ⟨rfl, rfl⟩) ?_
  show Ev _ _ _ _ _ _ _ (xt10 n C Z h) _
  exact Ev.retv tokX9_init rfl rfl ⟨rfl, rfl⟩
/-- the reader's text, in the picture -/
def TxH (h : HP) (C Z : Nat) : Prop := kK h 25 = 9 ∧ kI h 25 0 = iN C ∧ kI h 25 1 = iN Z ∧ (kR h 25 2 = some 26 ∧ kR h 25 3 = some 27 ∧ kR h 25 4 = some 28 ∧ kR h 25 5 = some 29) ∧ (kK h 26 = 13 ∧ kK h 27 = 13 ∧ kK h 28 = 13 ∧ kK h 29 = 13) ∧ kL h 26 = 12 ∧ kL h 27 = 12 ∧ kL h 28 = 48 ∧ kL h 29 = 400
/-- the same below n -/
def Bw (n : Nat) (h h' : HP) : Prop := ∀ b, b < n → kK h' b = kK h b ∧ kL h' b = kL h b ∧ kI h' b = kI h b ∧ kR h' b = kR h b ∧ kA h' b = kA h b ∧ kJ h' b = kJ h b ∧ kQ h' b = kQ h b
theorem Bw.tr {n : Nat} {h h1 h2 : HP} (a : Bw n h h1) (b : Bw n h1 h2) : Bw n h h2 := fun c hc => by
  obtain ⟨a1, a2, a3, a4, a5, a6, a7⟩ := a c hc
  obtain ⟨b1, b2, b3, b4, b5, b6, b7⟩ := b c hc
  exact ⟨b1.trans a1, b2.trans a2, b3.trans a3, b4.trans a4, b5.trans a5, b6.trans a6, b7.trans a7⟩
theorem Bw.mk {n m : Nat} (h : HP) (k l : Nat) (hm : n ≤ m) : Bw n h (mkn m h k l) := fun b hb =>
  ⟨u1_n _ _ (by omega), u1_n _ _ (by omega), u1_n _ _ (by omega), u1_n _ _ (by omega), u1_n _ _ (by omega), u1_n _ _ (by omega), u1_n _ _ (by omega)⟩
theorem Bw.si {n m : Nat} (h : HP) (f : Nat) (v : Int32) (hm : n ≤ m) : Bw n h (sI h (u2 (kI h) m f v)) := fun b hb => ⟨rfl, rfl, u2_na _ _ _ (by omega), rfl, rfl, rfl, rfl⟩
theorem Bw.sr {n m : Nat} (h : HP) (f : Nat) (v : Option Nat) (hm : n ≤ m) : Bw n h (sR h (u2 (kR h) m f v)) := fun b hb => ⟨rfl, rfl, rfl, u2_na _ _ _ (by omega), rfl, rfl, rfl⟩
theorem Bw.sa {n m : Nat} (h : HP) (g : Nat → Int32) (hm : n ≤ m) : Bw n h (sA h (u1 (kA h) m g)) := fun b hb => ⟨rfl, rfl, rfl, rfl, u1_n _ _ (by omega), rfl, rfl⟩
theorem xt10_bw (n C Z : Nat) (h : HP) : Bw n h (xt10 n C Z h) :=
  (((((((((Bw.si h 0 0 (Nat.le_refl n)).tr (Bw.si (xt1 n h) 1 0 (Nat.le_refl n))).tr (Bw.mk (xt2 n h) 13 C (by omega))).tr (Bw.sr (xt3 n C h) 2 _ (Nat.le_refl n))).tr (Bw.mk (xt4 n C h) 13 C (by omega))).tr (Bw.sr (xt5 n C h) 3 _ (Nat.le_refl n))).tr (Bw.mk (xt6 n C h) 13 (4 * C) (by omega))).tr (Bw.sr (xt7 n C h) 4 _ (Nat.le_refl n))).tr (Bw.mk (xt8 n C h) 13 Z (by omega))).tr (Bw.sr (xt9 n C Z h) 5 _ (Nat.le_refl n))
theorem TxH.bw {n : Nat} {h h' : HP} {C Z : Nat} (a : TxH h C Z) (b : Bw n h h') (hn : 158 ≤ n) : TxH h' C Z := by
  obtain ⟨b1, b2, b3, b4, -⟩ := b 25 (by omega)
  obtain ⟨c1, c2, -⟩ := b 26 (by omega)
  obtain ⟨d1, d2, -⟩ := b 27 (by omega)
  obtain ⟨e1, e2, -⟩ := b 28 (by omega)
  obtain ⟨f1, f2, -⟩ := b 29 (by omega)
  unfold TxH
  rw [b1, b3, b4, c1, c2, d1, d2, e1, e2, f1, f2]
  exact a
end TEXTNEW
