section TEXTCOPY
/-- the new text, in the picture -/
def TnH (g : HP) (n C Z : Nat) : Prop := kK g n = 9 ∧ (kR g n 2 = some (n + 1) ∧ kR g n 3 = some (n + 2) ∧ kR g n 4 = some (n + 3) ∧ kR g n 5 = some (n + 4)) ∧ (kK g (n + 1) = 13 ∧ kK g (n + 2) = 13 ∧ kK g (n + 3) = 13 ∧ kK g (n + 4) = 13) ∧ kL g (n + 1) = C ∧ kL g (n + 2) = C ∧ kL g (n + 3) = 4 * C ∧ kL g (n + 4) = Z
theorem xt10_tn (n C Z : Nat) (h : HP) (hk : kK h n = 9) : TnH (xt10 n C Z h) n C Z := by
  have r4 : kR (xt4 n C h) n 2 = some (n + 1) := u2_s (kR (xt3 n C h)) n 2 (some (n + 1))
  have r5 : kR (xt5 n C h) n = kR (xt4 n C h) n := u1_n _ _ (by omega)
  have r62 : kR (xt6 n C h) n 2 = some (n + 1) := (u2_k (kR (xt5 n C h)) n (k := 3) (j := 2) (some (n + 2)) (by decide)).trans (by rw [r5]; exact r4)
  have r63 : kR (xt6 n C h) n 3 = some (n + 2) := u2_s (kR (xt5 n C h)) n 3 (some (n + 2))
  have r7 : kR (xt7 n C h) n = kR (xt6 n C h) n := u1_n _ _ (by omega)
  have r82 : kR (xt8 n C h) n 2 = some (n + 1) := (u2_k (kR (xt7 n C h)) n (k := 4) (j := 2) (some (n + 3)) (by decide)).trans (by rw [r7]; exact r62)
  have r83 : kR (xt8 n C h) n 3 = some (n + 2) := (u2_k (kR (xt7 n C h)) n (k := 4) (j := 3) (some (n + 3)) (by decide)).trans (by rw [r7]; exact r63)
  have r84 : kR (xt8 n C h) n 4 = some (n + 3) := u2_s (kR (xt7 n C h)) n 4 (some (n + 3))
  have r9 : kR (xt9 n C Z h) n = kR (xt8 n C h) n := u1_n _ _ (by omega)
  have ra2 : kR (xt10 n C Z h) n 2 = some (n + 1) := (u2_k (kR (xt9 n C Z h)) n (k := 5) (j := 2) (some (n + 4)) (by decide)).trans (by rw [r9]; exact r82)
  have ra3 : kR (xt10 n C Z h) n 3 = some (n + 2) := (u2_k (kR (xt9 n C Z h)) n (k := 5) (j := 3) (some (n + 4)) (by decide)).trans (by rw [r9]; exact r83)
  have ra4 : kR (xt10 n C Z h) n 4 = some (n + 3) := (u2_k (kR (xt9 n C Z h)) n (k := 5) (j := 4) (some (n + 4)) (by decide)).trans (by rw [r9]; exact r84)
  have ra5 : kR (xt10 n C Z h) n 5 = some (n + 4) := u2_s (kR (xt9 n C Z h)) n 5 (some (n + 4))
  have kk : ∀ b, kK (xt10 n C Z h) b = u1 (u1 (u1 (u1 (kK h) (n + 1) 13) (n + 2) 13) (n + 3) 13) (n + 4) 13 b := fun b => rfl
  have kl : ∀ b, kL (xt10 n C Z h) b = u1 (u1 (u1 (u1 (kL h) (n + 1) C) (n + 2) C) (n + 3) (4 * C)) (n + 4) Z b := fun b => rfl
  refine ⟨?_, ⟨ra2, ra3, ra4, ra5⟩, ⟨?_, ?_, ?_, ?_⟩, ?_, ?_, ?_, ?_⟩
  · rw [kk, u1_n _ _ (by omega), u1_n _ _ (by omega), u1_n _ _ (by omega), u1_n _ _ (by omega)]; exact hk
  · rw [kk, u1_n _ _ (by omega), u1_n _ _ (by omega), u1_n _ _ (by omega), u1_s]
  · rw [kk, u1_n _ _ (by omega), u1_n _ _ (by omega), u1_s]
  · rw [kk, u1_n _ _ (by omega), u1_s]
  · rw [kk, u1_s]
  · rw [kl, u1_n _ _ (by omega), u1_n _ _ (by omega), u1_n _ _ (by omega), u1_s]
  · rw [kl, u1_n _ _ (by omega), u1_n _ _ (by omega), u1_s]
  · rw [kl, u1_n _ _ (by omega), u1_s]
  · rw [kl, u1_s]
def xc1 (n C Z : Nat) (h : HP) : HP := xt10 n C Z (mkn n h 9 0)
def xc2 (n C Z : Nat) (h : HP) : HP := sI (xc1 n C Z h) (u2 (kI (xc1 n C Z h)) n 0 (iN C))
def xc3 (n C Z : Nat) (h : HP) : HP := sI (xc2 n C Z h) (u2 (kI (xc2 n C Z h)) n 1 (iN Z))
def xc4 (n C Z : Nat) (h : HP) : HP := sA (xc3 n C Z h) (u1 (kA (xc3 n C Z h)) (n + 1) (va_cpy (kA (xc3 n C Z h) 26) (kA (xc3 n C Z h) (n + 1)) 0 0 C))
def xc5 (n C Z : Nat) (h : HP) : HP := sA (xc4 n C Z h) (u1 (kA (xc4 n C Z h)) (n + 2) (va_cpy (kA (xc4 n C Z h) 27) (kA (xc4 n C Z h) (n + 2)) 0 0 C))
def xc6 (n C Z : Nat) (h : HP) : HP := sA (xc5 n C Z h) (u1 (kA (xc5 n C Z h)) (n + 3) (va_cpy (kA (xc5 n C Z h) 28) (kA (xc5 n C Z h) (n + 3)) 0 0 (4 * C)))
def xc7 (n C Z : Nat) (h : HP) : HP := sA (xc6 n C Z h) (u1 (kA (xc6 n C Z h)) (n + 4) (va_cpy (kA (xc6 n C Z h) 29) (kA (xc6 n C Z h) (n + 4)) 0 0 Z))
set_option maxRecDepth 4000 in
theorem ct_copy (h : HP) (n C Z : Nat) (hn : kN h = n) (h158 : 158 ≤ n) (hlt : n + 5 < 1000000) (hC : C ≤ 12) (hZ : Z ≤ 400) (hT : TxH h C Z) : Ct mX9_copy 2 (0 + 4 + 1) (0 + (0 + Z + 4 * C + C + C) + nF 9) [.ref 25] h (fun v h' => v = some (.ref n) ∧ h' = xc7 n C Z h) := by
  have e4 : (4 : Int32) * iN C = iN (4 * C) := iN_mul 4 C
  have b0 : Bw n h (mkn n h 9 0) := Bw.mk h 9 0 (Nat.le_refl n)
  have b1 : Bw n h (xc1 n C Z h) := b0.tr (xt10_bw n C Z _)
  have b2 : Bw n h (xc2 n C Z h) := b1.tr (Bw.si _ 0 _ (Nat.le_refl n))
  have b3 : Bw n h (xc3 n C Z h) := b2.tr (Bw.si _ 1 _ (Nat.le_refl n))
  have b4 : Bw n h (xc4 n C Z h) := b3.tr (Bw.sa _ _ (by omega))
  have b5 : Bw n h (xc5 n C Z h) := b4.tr (Bw.sa _ _ (by omega))
  have b6 : Bw n h (xc6 n C Z h) := b5.tr (Bw.sa _ _ (by omega))
  have t0 := hT.bw b0 h158
  have t1 := hT.bw b1 h158
  have t2 := hT.bw b2 h158
  have t3 := hT.bw b3 h158
  have t4 := hT.bw b4 h158
  have t5 := hT.bw b5 h158
  have t6 := hT.bw b6 h158
  have m1 : TnH (xc1 n C Z h) n C Z := xt10_tn n C Z _ (u1_s _ _ _)
  have m2 : TnH (xc2 n C Z h) n C Z := m1
  have m3 : TnH (xc3 n C Z h) n C Z := m1
  have m4 : TnH (xc4 n C Z h) n C Z := m1
  have m5 : TnH (xc5 n C Z h) n C Z := m1
  have m6 : TnH (xc6 n C Z h) n C Z := m1
  refine Ct.of (lv := [some (.ref 25), none]) rfl rfl rfl (show (_ : Nat) ≤ _ from Nat.le_of_ble_eq_true rfl) (fun G => rfl) ?_
  refine ev_newN (ci := 9) (n := n) (dcd tokX9_copy rfl) rfl hn (by omega) ?_
  refine Ev.steps tokX9_copy 2 (P := True) (pc' := 5) (lv' := [some (.ref 25), none]) (st' := [.ref 25, .ref n, .ref n]) (h' := mkn n h 9 0) rfl trivial ?_
  refine ev_getI (ci := 9) (f := 0) (dcd tokX9_copy rfl) rfl t0.1 rfl ?_
  rw [t0.2.1]
  refine Ev.steps tokX9_copy 1 (P := True) (pc' := 9) (lv' := [some (.ref 25), none]) (st' := [.ref 25, .int (iN C), .ref n, .ref n]) (h' := mkn n h 9 0) rfl trivial ?_
  refine ev_getI (ci := 9) (f := 1) (dcd tokX9_copy rfl) rfl t0.1 rfl ?_
  rw [t0.2.2.1]
  refine ev_callI (N := mX9_init) (d' := 1) (bc := 0) (bs := 0) (bc' := 4) (bs' := 0 + Z + 4 * C + C + C) (a := n) (as := [.int (iN C), .int (iN Z)]) (rest := [.ref n]) (dcd tokX9_copy rfl) okX9_init rfl inX9_init rfl lk9_31 rfl (by decide) (Nat.le_of_ble_eq_true rfl) (ct_tinit (mkn n h 9 0) n C Z rfl (u1_s _ _ _) hlt hC hZ) (fun v h' hq hn' => ?_)
  obtain ⟨rfl, rfl⟩ := hq
  show Ev _ _ _ _ _ _ _ (xc1 n C Z h) _
  refine Ev.steps tokX9_copy 3 (P := True) (pc' := 18) (lv' := [some (.ref 25), some (.ref n)]) (st' := [.ref 25, .ref n]) (h' := xc1 n C Z h) rfl trivial ?_
  refine ev_getI (ci := 9) (f := 0) (dcd tokX9_copy rfl) rfl t1.1 rfl ?_
  rw [t1.2.1]
  refine ev_putI (ci := 9) (f := 0) (dcd tokX9_copy rfl) rfl m1.1 (Or.inl rfl) (Or.inl rfl) ?_
  show Ev _ _ _ _ _ _ _ (xc2 n C Z h) _
  refine Ev.steps tokX9_copy 2 (P := True) (pc' := 26) (lv' := [some (.ref 25), some (.ref n)]) (st' := [.ref 25, .ref n]) (h' := xc2 n C Z h) rfl trivial ?_
  refine ev_getI (ci := 9) (f := 1) (dcd tokX9_copy rfl) rfl t2.1 rfl ?_
  rw [t2.2.2.1]
  refine ev_putI (ci := 9) (f := 1) (dcd tokX9_copy rfl) rfl m2.1 (Or.inl rfl) (Or.inl rfl) ?_
  show Ev _ _ _ _ _ _ _ (xc3 n C Z h) _
  -- verb
  refine Ev.steps tokX9_copy 1 (P := True) (pc' := 33) (lv' := [some (.ref 25), some (.ref n)]) (st' := [.ref 25]) (h' := xc3 n C Z h) rfl trivial ?_
  refine ev_getR (ci := 9) (f := 2) (dcd tokX9_copy rfl) rfl t3.1 rfl t3.2.2.2.1.1 ?_
  refine Ev.steps tokX9_copy 2 (P := True) (pc' := 38) (lv' := [some (.ref 25), some (.ref n)]) (st' := [.ref n, .int 0, .ref 26]) (h' := xc3 n C Z h) rfl trivial ?_
  refine ev_getR (ci := 9) (f := 2) (dcd tokX9_copy rfl) rfl m3.1 rfl m3.2.1.1 ?_
  refine Ev.steps tokX9_copy 2 (P := True) (pc' := 43) (lv' := [some (.ref 25), some (.ref n)]) (st' := [.ref 25, .int 0, .ref (n + 1), .int 0, .ref 26]) (h' := xc3 n C Z h) rfl trivial ?_
  refine ev_getI (ci := 9) (f := 0) (dcd tokX9_copy rfl) rfl t3.1 rfl ?_
  rw [t3.2.1]
  refine ev_copyi (sp' := 0) (dp' := 0) (n' := C) (dcd tokX9_copy rfl) lk9_34 mt_ac.2 mt_ac.1 mt_in.2 (by decide) (Nat.le_of_ble_eq_true rfl) t3.2.2.2.2.1.1 m3.2.2.1.1 (by decide) (by decide) (iN_nn (by omega)) (by decide) (by decide) (iN_nat (by omega)) (by rw [t3.2.2.2.2.2.1]; omega) (by rw [m3.2.2.2.1]; omega) ?_
  show Ev _ _ _ _ _ _ _ (xc4 n C Z h) _
  -- times
  refine Ev.steps tokX9_copy 1 (P := True) (pc' := 50) (lv' := [some (.ref 25), some (.ref n)]) (st' := [.ref 25]) (h' := xc4 n C Z h) rfl trivial ?_
  refine ev_getR (ci := 9) (f := 3) (dcd tokX9_copy rfl) rfl t4.1 rfl t4.2.2.2.1.2.1 ?_
  refine Ev.steps tokX9_copy 2 (P := True) (pc' := 55) (lv' := [some (.ref 25), some (.ref n)]) (st' := [.ref n, .int 0, .ref 27]) (h' := xc4 n C Z h) rfl trivial ?_
  refine ev_getR (ci := 9) (f := 3) (dcd tokX9_copy rfl) rfl m4.1 rfl m4.2.1.2.1 ?_
  refine Ev.steps tokX9_copy 2 (P := True) (pc' := 60) (lv' := [some (.ref 25), some (.ref n)]) (st' := [.ref 25, .int 0, .ref (n + 2), .int 0, .ref 27]) (h' := xc4 n C Z h) rfl trivial ?_
  refine ev_getI (ci := 9) (f := 0) (dcd tokX9_copy rfl) rfl t4.1 rfl ?_
  rw [t4.2.1]
  refine ev_copyi (sp' := 0) (dp' := 0) (n' := C) (dcd tokX9_copy rfl) lk9_34 mt_ac.2 mt_ac.1 mt_in.2 (by decide) (Nat.le_of_ble_eq_true rfl) t4.2.2.2.2.1.2.1 m4.2.2.1.2.1 (by decide) (by decide) (iN_nn (by omega)) (by decide) (by decide) (iN_nat (by omega)) (by rw [t4.2.2.2.2.2.2.1]; omega) (by rw [m4.2.2.2.2.1]; omega) ?_
  show Ev _ _ _ _ _ _ _ (xc5 n C Z h) _
  -- bounds
  refine Ev.steps tokX9_copy 1 (P := True) (pc' := 67) (lv' := [some (.ref 25), some (.ref n)]) (st' := [.ref 25]) (h' := xc5 n C Z h) rfl trivial ?_
  refine ev_getR (ci := 9) (f := 4) (dcd tokX9_copy rfl) rfl t5.1 rfl t5.2.2.2.1.2.2.1 ?_
  refine Ev.steps tokX9_copy 2 (P := True) (pc' := 72) (lv' := [some (.ref 25), some (.ref n)]) (st' := [.ref n, .int 0, .ref 28]) (h' := xc5 n C Z h) rfl trivial ?_
  refine ev_getR (ci := 9) (f := 4) (dcd tokX9_copy rfl) rfl m5.1 rfl m5.2.1.2.2.1 ?_
  refine Ev.steps tokX9_copy 3 (P := True) (pc' := 78) (lv' := [some (.ref 25), some (.ref n)]) (st' := [.ref 25, .int 4, .int 0, .ref (n + 3), .int 0, .ref 28]) (h' := xc5 n C Z h) rfl trivial ?_
  refine ev_getI (ci := 9) (f := 0) (dcd tokX9_copy rfl) rfl t5.1 rfl ?_
  rw [t5.2.1]
  refine Ev.steps tokX9_copy 1 (P := True) (pc' := 82) (lv' := [some (.ref 25), some (.ref n)]) (st' := [.int (4 * iN C), .int 0, .ref (n + 3), .int 0, .ref 28]) (h' := xc5 n C Z h) rfl trivial ?_
  refine ev_copyi (sp' := 0) (dp' := 0) (n' := 4 * C) (dcd tokX9_copy rfl) lk9_34 mt_ac.2 mt_ac.1 mt_in.2 (by decide) (Nat.le_of_ble_eq_true rfl) t5.2.2.2.2.1.2.2.1 m5.2.2.1.2.2.1 (by decide) (by decide) (by rw [e4]; exact iN_nn (by omega)) (by decide) (by decide) (by rw [e4]; exact iN_nat (by omega)) (by rw [t5.2.2.2.2.2.2.2.1]; omega) (by rw [m5.2.2.2.2.2.1]; omega) ?_
  show Ev _ _ _ _ _ _ _ (xc6 n C Z h) _
  -- code
  refine Ev.steps tokX9_copy 1 (P := True) (pc' := 86) (lv' := [some (.ref 25), some (.ref n)]) (st' := [.ref 25]) (h' := xc6 n C Z h) rfl trivial ?_
  refine ev_getR (ci := 9) (f := 5) (dcd tokX9_copy rfl) rfl t6.1 rfl t6.2.2.2.1.2.2.2 ?_
  refine Ev.steps tokX9_copy 2 (P := True) (pc' := 91) (lv' := [some (.ref 25), some (.ref n)]) (st' := [.ref n, .int 0, .ref 29]) (h' := xc6 n C Z h) rfl trivial ?_
  refine ev_getR (ci := 9) (f := 5) (dcd tokX9_copy rfl) rfl m6.1 rfl m6.2.1.2.2.2 ?_
  refine Ev.steps tokX9_copy 2 (P := True) (pc' := 96) (lv' := [some (.ref 25), some (.ref n)]) (st' := [.ref 25, .int 0, .ref (n + 4), .int 0, .ref 29]) (h' := xc6 n C Z h) rfl trivial ?_
  refine ev_getI (ci := 9) (f := 1) (dcd tokX9_copy rfl) rfl t6.1 rfl ?_
  rw [t6.2.2.1]
  refine ev_copyi (sp' := 0) (dp' := 0) (n' := Z) (dcd tokX9_copy rfl) lk9_34 mt_ac.2 mt_ac.1 mt_in.2 (by decide) (Nat.le_of_ble_eq_true rfl) t6.2.2.2.2.1.2.2.2 m6.2.2.1.2.2.2 (by decide) (by decide) (iN_nn (by omega)) (by decide) (by decide) (iN_nat (by omega)) (by rw [t6.2.2.2.2.2.2.2.2]; omega) (by rw [m6.2.2.2.2.2.2]; omega) ?_
  show Ev _ _ _ _ _ _ _ (xc7 n C Z h) _
  refine Ev.steps tokX9_copy 1 (P := True) (pc' := 103) (lv' := [some (.ref 25), some (.ref n)]) (st' := [.ref n]) (h' := xc7 n C Z h) rfl trivial ?_
  exact Ev.retr (r := some n) tokX9_copy rfl rfl ⟨rfl, rfl⟩
end TEXTCOPY
