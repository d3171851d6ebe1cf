section
def mkn (n : Nat) (h : HP) (k l : Nat) : HP := (n + 1, u1 (kK h) n k, u1 (kL h) n l, u1 (kI h) n (fun _ => 0), u1 (kR h) n (fun _ => none), u1 (kA h) n (fun _ => 0), u1 (kJ h) n (fun _ => 0), u1 (kQ h) n (fun _ => none))
theorem ev_newN {M : MI} {d bc bs pc : Nat} {lv : List (Option Value)} {st : List Value} {h : HP} {Q : Option Value → HP → Prop} {i ci n : Nat} (hd : decode (mB M) pc = .ok (.new i, 3)) (hc : clk (mO M) i = some ci) (hn : kN h = n) (hlt : n < 1000000)
    (k : Ev M d bc bs (pc + 3) lv (.ref n :: st) (mkn n h ci 0) Q) : Ev M d (bc + 1) (bs + nF ci) pc lv st h Q := by
  subst hn
  exact ev_new hd hc hlt k
theorem ev_newaN {M : MI} {d bc bs pc : Nat} {lv : List (Option Value)} {st : List Value} {h : HP} {Q : Option Value → HP → Prop} {t : ArrayType} {n : Int32} {N k n0 : Nat} (hd : decode (mB M) pc = .ok (.newarray t, 2)) (ha : akd t = k) (hk : k < 18) (hn : kN h = n0) (hlt : n0 < 1000000) (h0 : ¬ n < 0) (hN : n.toNatClampNeg = N) (hN2 : N ≤ 1000000)
    (kx : Ev M d bc bs (pc + 2) lv (.ref n0 :: st) (mkn n0 h k N) Q) : Ev M d (bc + 1) (bs + N) pc lv (.int n :: st) h Q := by
  subst hn
  exact ev_newa hd ha hk hlt h0 hN hN2 kx
theorem ev_anewN {M : MI} {d bc bs pc : Nat} {lv : List (Option Value)} {st : List Value} {h : HP} {Q : Option Value → HP → Prop} {i ci k : Nat} {n : Int32} {N n0 : Nat} (hd : decode (mB M) pc = .ok (.anewarray i, 3)) (hc : clk (mO M) i = some ci) (hk : (ci = 7 ∧ k = 16) ∨ (ci = 9 ∧ k = 17)) (hn : kN h = n0) (hlt : n0 < 1000000) (h0 : ¬ n < 0) (hN : n.toNatClampNeg = N) (hN2 : N ≤ 1000000)
    (kx : Ev M d bc bs (pc + 3) lv (.ref n0 :: st) (mkn n0 h k N) Q) : Ev M d (bc + 1) (bs + N) pc lv (.int n :: st) h Q := by
  subst hn
  exact ev_anew hd hc hk hlt h0 hN hN2 kx
theorem TOK.of2 {M : MI} {l : List (Nat × Instr × Nat)} (h : ∀ q ∈ l, decode (mB M) q.1 = .ok q.2) (e : mT M = l) : TOK M := fun q hq => h q (e ▸ hq)
theorem drop_all {α : Type} {p : α → Bool} (l : List α) (n : Nat) (h1 : (l.take n).all p = true) (h2 : (l.drop n).all p = true) : l.all p = true := by
  rw [← List.take_append_drop n l, List.all_append, h1, h2]; rfl
def c0 : HP := (0, fun _ => 99, fun _ => 0, fun _ _ => 0, fun _ _ => none, fun _ _ => 0, fun _ _ => 0, fun _ _ => none)
def c1 (b : HP) : HP := mkn 1 (mkn 0 b 10 0) 7 0
def c2 (b : HP) : HP := sI (mkn 1 b 7 0) (u2 (kI (mkn 1 b 7 0)) 1 0 0)
def c3 (b : HP) : HP := mkn 2 (c2 b) 13 10
def c4 (b : HP) : HP := sR (c3 b) (u2 (kR (c3 b)) 1 1 (some 2))
def c5 (b : HP) : HP := mkn 3 (c4 b) 13 10
def c6 (b : HP) : HP := sR (c5 b) (u2 (kR (c5 b)) 1 2 (some 3))
def c7 (b : HP) : HP := mkn 4 (c6 b) 13 10
def c8 (b : HP) : HP := sR (c7 b) (u2 (kR (c7 b)) 1 3 (some 4))
def c9 (b : HP) : HP := mkn 5 (c8 b) 13 10
def c10 (b : HP) : HP := sR (c9 b) (u2 (kR (c9 b)) 1 4 (some 5))
def c11 (b : HP) : HP := mkn 6 (c10 b) 15 10
def c12 (b : HP) : HP := sR (c11 b) (u2 (kR (c11 b)) 1 5 (some 6))
def c13 (b : HP) : HP := sI (c12 b) (u2 (kI (c12 b)) 1 6 0)
def c14 (b : HP) : HP := mkn 7 (c13 b) 13 5
def c15 (b : HP) : HP := sR (c14 b) (u2 (kR (c14 b)) 1 7 (some 7))
def c16 (b : HP) : HP := mkn 8 (c15 b) 13 5
def c17 (b : HP) : HP := sR (c16 b) (u2 (kR (c16 b)) 1 8 (some 8))
def c18 (b : HP) : HP := mkn 9 (c17 b) 13 5
def c19 (b : HP) : HP := sR (c18 b) (u2 (kR (c18 b)) 1 9 (some 9))
def c20 (b : HP) : HP := mkn 10 (c19 b) 13 5
def c21 (b : HP) : HP := sR (c20 b) (u2 (kR (c20 b)) 1 10 (some 10))
def c22 (b : HP) : HP := sI (c21 b) (u2 (kI (c21 b)) 1 11 0)
def c23 (b : HP) : HP := mkn 11 (c22 b) 13 6
def c24 (b : HP) : HP := sR (c23 b) (u2 (kR (c23 b)) 1 12 (some 11))
def c25 (b : HP) : HP := mkn 12 (c24 b) 13 6
def c26 (b : HP) : HP := sR (c25 b) (u2 (kR (c25 b)) 1 13 (some 12))
def c27 (b : HP) : HP := mkn 13 (c26 b) 13 6
def c28 (b : HP) : HP := sR (c27 b) (u2 (kR (c27 b)) 1 14 (some 13))
def c29 (b : HP) : HP := mkn 14 (c28 b) 13 3
def c30 (b : HP) : HP := sA (c29 b) (u2 (kA (c29 b)) 14 0 0)
def c31 (b : HP) : HP := sA (c30 b) (u2 (kA (c30 b)) 14 1 1)
def c32 (b : HP) : HP := sA (c31 b) (u2 (kA (c31 b)) 14 2 0)
def c33 (b : HP) : HP := sR (c32 b) (u2 (kR (c32 b)) 1 15 (some 14))
def c34 (b : HP) : HP := sI (c33 b) (u2 (kI (c33 b)) 1 16 0)
def c35 (b : HP) : HP := mkn 15 (c34 b) 17 6
def c36 (b : HP) : HP := sR (c35 b) (u2 (kR (c35 b)) 1 17 (some 15))
def c37 (b : HP) : HP := sI (c36 b) (u2 (kI (c36 b)) 1 18 (-1))
set_option maxHeartbeats 8000000 in
set_option maxRecDepth 40000 in
theorem cn1 (b : HP) : Ct mX7_init 1 14 97 [.ref 1] (mkn 1 b 7 0) (fun v h => v = none ∧ h = (c37 b)) := by
  refine Ct.of (lv := [some (.ref 1)]) rfl rfl rfl (show (_ : Nat) ≤ _ from Nat.le_of_ble_eq_true rfl) (fun G => rfl) ?_
  refine Ev.steps tokX7_init 1 (P := True) (pc' := 1) (lv' := [some (.ref 1)]) (st' := [.ref 1]) (h' := (mkn 1 b 7 0)) rfl trivial ?_
  refine ev_objInit (dcd tokX7_init rfl) lk7_3 ob_in.1 ob_in.2 (by decide) (Nat.le_of_ble_eq_true rfl) ?_
  refine Ev.steps tokX7_init 3 (P := True) (pc' := 9) (lv' := [some (.ref 1)]) (st' := []) (h' := (c2 b)) rfl trivial ?_
  refine Ev.steps tokX7_init 2 (P := True) (pc' := 12) (lv' := [some (.ref 1)]) (st' := [.int 10, .ref 1]) (h' := (c2 b)) rfl trivial ?_
  refine ev_newaN (n0 := 2) (k := 13) (N := 10) (bc := 13) (bs := 87) (dcd tokX7_init rfl) rfl (by decide) rfl (by decide) (by decide) (by decide) (by decide) ?_
  show Ev _ _ _ _ _ _ _ (c3 b) _
  refine Ev.steps tokX7_init 1 (P := True) (pc' := 17) (lv' := [some (.ref 1)]) (st' := []) (h' := (c4 b)) rfl trivial ?_
  refine Ev.steps tokX7_init 2 (P := True) (pc' := 20) (lv' := [some (.ref 1)]) (st' := [.int 10, .ref 1]) (h' := (c4 b)) rfl trivial ?_
  refine ev_newaN (n0 := 3) (k := 13) (N := 10) (bc := 12) (bs := 77) (dcd tokX7_init rfl) rfl (by decide) rfl (by decide) (by decide) (by decide) (by decide) ?_
  show Ev _ _ _ _ _ _ _ (c5 b) _
  refine Ev.steps tokX7_init 1 (P := True) (pc' := 25) (lv' := [some (.ref 1)]) (st' := []) (h' := (c6 b)) rfl trivial ?_
  refine Ev.steps tokX7_init 2 (P := True) (pc' := 28) (lv' := [some (.ref 1)]) (st' := [.int 10, .ref 1]) (h' := (c6 b)) rfl trivial ?_
  refine ev_newaN (n0 := 4) (k := 13) (N := 10) (bc := 11) (bs := 67) (dcd tokX7_init rfl) rfl (by decide) rfl (by decide) (by decide) (by decide) (by decide) ?_
  show Ev _ _ _ _ _ _ _ (c7 b) _
  refine Ev.steps tokX7_init 1 (P := True) (pc' := 33) (lv' := [some (.ref 1)]) (st' := []) (h' := (c8 b)) rfl trivial ?_
  refine Ev.steps tokX7_init 2 (P := True) (pc' := 36) (lv' := [some (.ref 1)]) (st' := [.int 10, .ref 1]) (h' := (c8 b)) rfl trivial ?_
  refine ev_newaN (n0 := 5) (k := 13) (N := 10) (bc := 10) (bs := 57) (dcd tokX7_init rfl) rfl (by decide) rfl (by decide) (by decide) (by decide) (by decide) ?_
  show Ev _ _ _ _ _ _ _ (c9 b) _
  refine Ev.steps tokX7_init 1 (P := True) (pc' := 41) (lv' := [some (.ref 1)]) (st' := []) (h' := (c10 b)) rfl trivial ?_
  refine Ev.steps tokX7_init 2 (P := True) (pc' := 44) (lv' := [some (.ref 1)]) (st' := [.int 10, .ref 1]) (h' := (c10 b)) rfl trivial ?_
  refine ev_newaN (n0 := 6) (k := 15) (N := 10) (bc := 9) (bs := 47) (dcd tokX7_init rfl) rfl (by decide) rfl (by decide) (by decide) (by decide) (by decide) ?_
  show Ev _ _ _ _ _ _ _ (c11 b) _
  refine Ev.steps tokX7_init 1 (P := True) (pc' := 49) (lv' := [some (.ref 1)]) (st' := []) (h' := (c12 b)) rfl trivial ?_
  refine Ev.steps tokX7_init 3 (P := True) (pc' := 54) (lv' := [some (.ref 1)]) (st' := []) (h' := (c13 b)) rfl trivial ?_
  refine Ev.steps tokX7_init 2 (P := True) (pc' := 56) (lv' := [some (.ref 1)]) (st' := [.int 5, .ref 1]) (h' := (c13 b)) rfl trivial ?_
  refine ev_newaN (n0 := 7) (k := 13) (N := 5) (bc := 8) (bs := 42) (dcd tokX7_init rfl) rfl (by decide) rfl (by decide) (by decide) (by decide) (by decide) ?_
  show Ev _ _ _ _ _ _ _ (c14 b) _
  refine Ev.steps tokX7_init 1 (P := True) (pc' := 61) (lv' := [some (.ref 1)]) (st' := []) (h' := (c15 b)) rfl trivial ?_
  refine Ev.steps tokX7_init 2 (P := True) (pc' := 63) (lv' := [some (.ref 1)]) (st' := [.int 5, .ref 1]) (h' := (c15 b)) rfl trivial ?_
  refine ev_newaN (n0 := 8) (k := 13) (N := 5) (bc := 7) (bs := 37) (dcd tokX7_init rfl) rfl (by decide) rfl (by decide) (by decide) (by decide) (by decide) ?_
  show Ev _ _ _ _ _ _ _ (c16 b) _
  refine Ev.steps tokX7_init 1 (P := True) (pc' := 68) (lv' := [some (.ref 1)]) (st' := []) (h' := (c17 b)) rfl trivial ?_
  refine Ev.steps tokX7_init 2 (P := True) (pc' := 70) (lv' := [some (.ref 1)]) (st' := [.int 5, .ref 1]) (h' := (c17 b)) rfl trivial ?_
  refine ev_newaN (n0 := 9) (k := 13) (N := 5) (bc := 6) (bs := 32) (dcd tokX7_init rfl) rfl (by decide) rfl (by decide) (by decide) (by decide) (by decide) ?_
  show Ev _ _ _ _ _ _ _ (c18 b) _
  refine Ev.steps tokX7_init 1 (P := True) (pc' := 75) (lv' := [some (.ref 1)]) (st' := []) (h' := (c19 b)) rfl trivial ?_
  refine Ev.steps tokX7_init 2 (P := True) (pc' := 77) (lv' := [some (.ref 1)]) (st' := [.int 5, .ref 1]) (h' := (c19 b)) rfl trivial ?_
  refine ev_newaN (n0 := 10) (k := 13) (N := 5) (bc := 5) (bs := 27) (dcd tokX7_init rfl) rfl (by decide) rfl (by decide) (by decide) (by decide) (by decide) ?_
  show Ev _ _ _ _ _ _ _ (c20 b) _
  refine Ev.steps tokX7_init 1 (P := True) (pc' := 82) (lv' := [some (.ref 1)]) (st' := []) (h' := (c21 b)) rfl trivial ?_
  refine Ev.steps tokX7_init 3 (P := True) (pc' := 87) (lv' := [some (.ref 1)]) (st' := []) (h' := (c22 b)) rfl trivial ?_
  refine Ev.steps tokX7_init 2 (P := True) (pc' := 90) (lv' := [some (.ref 1)]) (st' := [.int 6, .ref 1]) (h' := (c22 b)) rfl trivial ?_
  refine ev_newaN (n0 := 11) (k := 13) (N := 6) (bc := 4) (bs := 21) (dcd tokX7_init rfl) rfl (by decide) rfl (by decide) (by decide) (by decide) (by decide) ?_
  show Ev _ _ _ _ _ _ _ (c23 b) _
  refine Ev.steps tokX7_init 1 (P := True) (pc' := 95) (lv' := [some (.ref 1)]) (st' := []) (h' := (c24 b)) rfl trivial ?_
  refine Ev.steps tokX7_init 2 (P := True) (pc' := 98) (lv' := [some (.ref 1)]) (st' := [.int 6, .ref 1]) (h' := (c24 b)) rfl trivial ?_
  refine ev_newaN (n0 := 12) (k := 13) (N := 6) (bc := 3) (bs := 15) (dcd tokX7_init rfl) rfl (by decide) rfl (by decide) (by decide) (by decide) (by decide) ?_
  show Ev _ _ _ _ _ _ _ (c25 b) _
  refine Ev.steps tokX7_init 1 (P := True) (pc' := 103) (lv' := [some (.ref 1)]) (st' := []) (h' := (c26 b)) rfl trivial ?_
  refine Ev.steps tokX7_init 2 (P := True) (pc' := 106) (lv' := [some (.ref 1)]) (st' := [.int 6, .ref 1]) (h' := (c26 b)) rfl trivial ?_
  refine ev_newaN (n0 := 13) (k := 13) (N := 6) (bc := 2) (bs := 9) (dcd tokX7_init rfl) rfl (by decide) rfl (by decide) (by decide) (by decide) (by decide) ?_
  show Ev _ _ _ _ _ _ _ (c27 b) _
  refine Ev.steps tokX7_init 1 (P := True) (pc' := 111) (lv' := [some (.ref 1)]) (st' := []) (h' := (c28 b)) rfl trivial ?_
  refine Ev.steps tokX7_init 2 (P := True) (pc' := 113) (lv' := [some (.ref 1)]) (st' := [.int 3, .ref 1]) (h' := (c28 b)) rfl trivial ?_
  refine ev_newaN (n0 := 14) (k := 13) (N := 3) (bc := 1) (bs := 6) (dcd tokX7_init rfl) rfl (by decide) rfl (by decide) (by decide) (by decide) (by decide) ?_
  show Ev _ _ _ _ _ _ _ (c29 b) _
  refine Ev.steps tokX7_init 4 (P := vp_in 0 3 ∧ True) (pc' := 119) (lv' := [some (.ref 1)]) (st' := [.ref 14, .ref 1]) (h' := (c30 b)) rfl ⟨(by unfold vp_in; decide), trivial⟩ ?_
  refine Ev.steps tokX7_init 4 (P := vp_in 1 3 ∧ True) (pc' := 123) (lv' := [some (.ref 1)]) (st' := [.ref 14, .ref 1]) (h' := (c31 b)) rfl ⟨(by unfold vp_in; decide), trivial⟩ ?_
  refine Ev.steps tokX7_init 4 (P := vp_in 2 3 ∧ True) (pc' := 127) (lv' := [some (.ref 1)]) (st' := [.ref 14, .ref 1]) (h' := (c32 b)) rfl ⟨(by unfold vp_in; decide), trivial⟩ ?_
  refine Ev.steps tokX7_init 1 (P := True) (pc' := 130) (lv' := [some (.ref 1)]) (st' := []) (h' := (c33 b)) rfl trivial ?_
  refine Ev.steps tokX7_init 3 (P := True) (pc' := 135) (lv' := [some (.ref 1)]) (st' := []) (h' := (c34 b)) rfl trivial ?_
  refine Ev.steps tokX7_init 2 (P := True) (pc' := 138) (lv' := [some (.ref 1)]) (st' := [.int 6, .ref 1]) (h' := (c34 b)) rfl trivial ?_
  refine ev_anewN (n0 := 15) (ci := 9) (k := 17) (N := 6) (bc := 0) (bs := 0) (dcd tokX7_init rfl) rfl (Or.inr ⟨rfl, rfl⟩) rfl (by decide) (by decide) (by decide) (by decide) ?_
  show Ev _ _ _ _ _ _ _ (c35 b) _
  refine Ev.steps tokX7_init 1 (P := True) (pc' := 144) (lv' := [some (.ref 1)]) (st' := []) (h' := (c36 b)) rfl trivial ?_
  refine Ev.steps tokX7_init 3 (P := True) (pc' := 149) (lv' := [some (.ref 1)]) (st' := []) (h' := (c37 b)) rfl trivial ?_
  exact Ev.retv tokX7_init rfl rfl ⟨rfl, rfl⟩
def c38 (b : HP) : HP := sR (c37 (mkn 0 b 10 0)) (u2 (kR (c37 (mkn 0 b 10 0))) 0 0 (some 1))
def c39 (b : HP) : HP := mkn 16 (c38 b) 16 2
def c40 (b : HP) : HP := sR (c39 b) (u2 (kR (c39 b)) 0 1 (some 16))
def c41 (b : HP) : HP := mkn 17 (c40 b) 15 2
def c42 (b : HP) : HP := sR (c41 b) (u2 (kR (c41 b)) 0 2 (some 17))
def c43 (b : HP) : HP := mkn 18 (c42 b) 8 0
def c44 (b : HP) : HP := mkn 19 (mkn 18 b 8 0) 13 400
def c45 (b : HP) : HP := sR (c44 b) (u2 (kR (c44 b)) 18 0 (some 19))
def c46 (b : HP) : HP := sI (c45 b) (u2 (kI (c45 b)) 18 1 0)
set_option maxHeartbeats 8000000 in
set_option maxRecDepth 40000 in
theorem cn2 (b : HP) : Ct mX8_init 1 1 400 [.ref 18] (mkn 18 b 8 0) (fun v h => v = none ∧ h = (c46 b)) := by
  refine Ct.of (lv := [some (.ref 18)]) rfl rfl rfl (show (_ : Nat) ≤ _ from Nat.le_of_ble_eq_true rfl) (fun G => rfl) ?_
  refine Ev.steps tokX8_init 1 (P := True) (pc' := 1) (lv' := [some (.ref 18)]) (st' := [.ref 18]) (h' := (mkn 18 b 8 0)) rfl trivial ?_
  refine ev_objInit (dcd tokX8_init rfl) lk8_3 ob_in.1 ob_in.2 (by decide) (Nat.le_of_ble_eq_true rfl) ?_
  refine Ev.steps tokX8_init 2 (P := True) (pc' := 8) (lv' := [some (.ref 18)]) (st' := [.int 400, .ref 18]) (h' := (mkn 18 b 8 0)) rfl trivial ?_
  refine ev_newaN (n0 := 19) (k := 13) (N := 400) (bc := 0) (bs := 0) (dcd tokX8_init rfl) rfl (by decide) rfl (by decide) (by decide) (by decide) (by decide) ?_
  show Ev _ _ _ _ _ _ _ (c44 b) _
  refine Ev.steps tokX8_init 1 (P := True) (pc' := 13) (lv' := [some (.ref 18)]) (st' := []) (h' := (c45 b)) rfl trivial ?_
  refine Ev.steps tokX8_init 3 (P := True) (pc' := 18) (lv' := [some (.ref 18)]) (st' := []) (h' := (c46 b)) rfl trivial ?_
  exact Ev.retv tokX8_init rfl rfl ⟨rfl, rfl⟩
def c47 (b : HP) : HP := sR (c46 (c42 b)) (u2 (kR (c46 (c42 b))) 0 3 (some 18))
def c48 (b : HP) : HP := mkn 20 (c47 b) 0 0
def c49 (b : HP) : HP := mkn 21 (mkn 20 b 0 0) 13 8
def c50 (b : HP) : HP := sR (c49 b) (u2 (kR (c49 b)) 20 0 (some 21))
def c51 (b : HP) : HP := mkn 22 (c50 b) 13 50
def c52 (b : HP) : HP := sR (c51 b) (u2 (kR (c51 b)) 20 1 (some 22))
def c53 (b : HP) : HP := mkn 23 (c52 b) 13 20
def c54 (b : HP) : HP := sR (c53 b) (u2 (kR (c53 b)) 20 2 (some 23))
set_option maxHeartbeats 8000000 in
set_option maxRecDepth 40000 in
theorem cn3 (b : HP) : Ct mX0_init 1 3 78 [.ref 20] (mkn 20 b 0 0) (fun v h => v = none ∧ h = (c54 b)) := by
  refine Ct.of (lv := [some (.ref 20)]) rfl rfl rfl (show (_ : Nat) ≤ _ from Nat.le_of_ble_eq_true rfl) (fun G => rfl) ?_
  refine Ev.steps tokX0_init 1 (P := True) (pc' := 1) (lv' := [some (.ref 20)]) (st' := [.ref 20]) (h' := (mkn 20 b 0 0)) rfl trivial ?_
  refine ev_objInit (dcd tokX0_init rfl) lk0_3 ob_in.1 ob_in.2 (by decide) (Nat.le_of_ble_eq_true rfl) ?_
  refine Ev.steps tokX0_init 2 (P := True) (pc' := 7) (lv' := [some (.ref 20)]) (st' := [.int 8, .ref 20]) (h' := (mkn 20 b 0 0)) rfl trivial ?_
  refine ev_newaN (n0 := 21) (k := 13) (N := 8) (bc := 2) (bs := 70) (dcd tokX0_init rfl) rfl (by decide) rfl (by decide) (by decide) (by decide) (by decide) ?_
  show Ev _ _ _ _ _ _ _ (c49 b) _
  refine Ev.steps tokX0_init 1 (P := True) (pc' := 12) (lv' := [some (.ref 20)]) (st' := []) (h' := (c50 b)) rfl trivial ?_
  refine Ev.steps tokX0_init 2 (P := True) (pc' := 15) (lv' := [some (.ref 20)]) (st' := [.int 50, .ref 20]) (h' := (c50 b)) rfl trivial ?_
  refine ev_newaN (n0 := 22) (k := 13) (N := 50) (bc := 1) (bs := 20) (dcd tokX0_init rfl) rfl (by decide) rfl (by decide) (by decide) (by decide) (by decide) ?_
  show Ev _ _ _ _ _ _ _ (c51 b) _
  refine Ev.steps tokX0_init 1 (P := True) (pc' := 20) (lv' := [some (.ref 20)]) (st' := []) (h' := (c52 b)) rfl trivial ?_
  refine Ev.steps tokX0_init 2 (P := True) (pc' := 23) (lv' := [some (.ref 20)]) (st' := [.int 20, .ref 20]) (h' := (c52 b)) rfl trivial ?_
  refine ev_newaN (n0 := 23) (k := 13) (N := 20) (bc := 0) (bs := 0) (dcd tokX0_init rfl) rfl (by decide) rfl (by decide) (by decide) (by decide) (by decide) ?_
  show Ev _ _ _ _ _ _ _ (c53 b) _
  refine Ev.steps tokX0_init 1 (P := True) (pc' := 28) (lv' := [some (.ref 20)]) (st' := []) (h' := (c54 b)) rfl trivial ?_
  exact Ev.retv tokX0_init rfl rfl ⟨rfl, rfl⟩
def c55 (b : HP) : HP := sR (c54 (c47 b)) (u2 (kR (c54 (c47 b))) 0 4 (some 20))
def c56 (b : HP) : HP := mkn 24 (c55 b) 4 0
def c57 (b : HP) : HP := mkn 25 (mkn 24 b 4 0) 9 0
def c58 (b : HP) : HP := sI (mkn 25 b 9 0) (u2 (kI (mkn 25 b 9 0)) 25 0 0)
def c59 (b : HP) : HP := sI (c58 b) (u2 (kI (c58 b)) 25 1 0)
def c60 (b : HP) : HP := mkn 26 (c59 b) 13 12
def c61 (b : HP) : HP := sR (c60 b) (u2 (kR (c60 b)) 25 2 (some 26))
def c62 (b : HP) : HP := mkn 27 (c61 b) 13 12
def c63 (b : HP) : HP := sR (c62 b) (u2 (kR (c62 b)) 25 3 (some 27))
def c64 (b : HP) : HP := mkn 28 (c63 b) 13 48
def c65 (b : HP) : HP := sR (c64 b) (u2 (kR (c64 b)) 25 4 (some 28))
def c66 (b : HP) : HP := mkn 29 (c65 b) 13 400
def c67 (b : HP) : HP := sR (c66 b) (u2 (kR (c66 b)) 25 5 (some 29))
set_option maxHeartbeats 8000000 in
set_option maxRecDepth 40000 in
theorem cn4 (b : HP) : Ct mX9_init 1 4 472 [.ref 25, .int 12, .int 400] (mkn 25 b 9 0) (fun v h => v = none ∧ h = (c67 b)) := by
  refine Ct.of (lv := [some (.ref 25), some (.int 12), some (.int 400)]) rfl rfl rfl (show (_ : Nat) ≤ _ from Nat.le_of_ble_eq_true rfl) (fun G => rfl) ?_
  refine Ev.steps tokX9_init 1 (P := True) (pc' := 1) (lv' := [some (.ref 25), some (.int 12), some (.int 400)]) (st' := [.ref 25]) (h' := (mkn 25 b 9 0)) rfl trivial ?_
  refine ev_objInit (dcd tokX9_init rfl) lk9_3 ob_in.1 ob_in.2 (by decide) (Nat.le_of_ble_eq_true rfl) ?_
  refine Ev.steps tokX9_init 3 (P := True) (pc' := 9) (lv' := [some (.ref 25), some (.int 12), some (.int 400)]) (st' := []) (h' := (c58 b)) rfl trivial ?_
  refine Ev.steps tokX9_init 3 (P := True) (pc' := 14) (lv' := [some (.ref 25), some (.int 12), some (.int 400)]) (st' := []) (h' := (c59 b)) rfl trivial ?_
  refine Ev.steps tokX9_init 2 (P := True) (pc' := 16) (lv' := [some (.ref 25), some (.int 12), some (.int 400)]) (st' := [.int 12, .ref 25]) (h' := (c59 b)) rfl trivial ?_
  refine ev_newaN (n0 := 26) (k := 13) (N := 12) (bc := 3) (bs := 460) (dcd tokX9_init rfl) rfl (by decide) rfl (by decide) (by decide) (by decide) (by decide) ?_
  show Ev _ _ _ _ _ _ _ (c60 b) _
  refine Ev.steps tokX9_init 1 (P := True) (pc' := 21) (lv' := [some (.ref 25), some (.int 12), some (.int 400)]) (st' := []) (h' := (c61 b)) rfl trivial ?_
  refine Ev.steps tokX9_init 2 (P := True) (pc' := 23) (lv' := [some (.ref 25), some (.int 12), some (.int 400)]) (st' := [.int 12, .ref 25]) (h' := (c61 b)) rfl trivial ?_
  refine ev_newaN (n0 := 27) (k := 13) (N := 12) (bc := 2) (bs := 448) (dcd tokX9_init rfl) rfl (by decide) rfl (by decide) (by decide) (by decide) (by decide) ?_
  show Ev _ _ _ _ _ _ _ (c62 b) _
  refine Ev.steps tokX9_init 1 (P := True) (pc' := 28) (lv' := [some (.ref 25), some (.int 12), some (.int 400)]) (st' := []) (h' := (c63 b)) rfl trivial ?_
  refine Ev.steps tokX9_init 4 (P := True) (pc' := 32) (lv' := [some (.ref 25), some (.int 12), some (.int 400)]) (st' := [.int 48, .ref 25]) (h' := (c63 b)) rfl trivial ?_
  refine ev_newaN (n0 := 28) (k := 13) (N := 48) (bc := 1) (bs := 400) (dcd tokX9_init rfl) rfl (by decide) rfl (by decide) (by decide) (by decide) (by decide) ?_
  show Ev _ _ _ _ _ _ _ (c64 b) _
  refine Ev.steps tokX9_init 1 (P := True) (pc' := 37) (lv' := [some (.ref 25), some (.int 12), some (.int 400)]) (st' := []) (h' := (c65 b)) rfl trivial ?_
  refine Ev.steps tokX9_init 2 (P := True) (pc' := 39) (lv' := [some (.ref 25), some (.int 12), some (.int 400)]) (st' := [.int 400, .ref 25]) (h' := (c65 b)) rfl trivial ?_
  refine ev_newaN (n0 := 29) (k := 13) (N := 400) (bc := 0) (bs := 0) (dcd tokX9_init rfl) rfl (by decide) rfl (by decide) (by decide) (by decide) (by decide) ?_
  show Ev _ _ _ _ _ _ _ (c66 b) _
  refine Ev.steps tokX9_init 1 (P := True) (pc' := 44) (lv' := [some (.ref 25), some (.int 12), some (.int 400)]) (st' := []) (h' := (c67 b)) rfl trivial ?_
  exact Ev.retv tokX9_init rfl rfl ⟨rfl, rfl⟩
def c68 (b : HP) : HP := sR (c67 (mkn 24 b 4 0)) (u2 (kR (c67 (mkn 24 b 4 0))) 24 0 (some 25))
def c69 (b : HP) : HP := sI (c68 b) (u2 (kI (c68 b)) 24 1 (-1))
def c70 (b : HP) : HP := mkn 30 (c69 b) 13 401
def c71 (b : HP) : HP := sR (c70 b) (u2 (kR (c70 b)) 24 2 (some 30))
def c72 (b : HP) : HP := mkn 31 (c71 b) 13 401
def c73 (b : HP) : HP := sR (c72 b) (u2 (kR (c72 b)) 24 3 (some 31))
def c74 (b : HP) : HP := mkn 32 (c73 b) 13 401
def c75 (b : HP) : HP := sR (c74 b) (u2 (kR (c74 b)) 24 4 (some 32))
def c76 (b : HP) : HP := sI (c75 b) (u2 (kI (c75 b)) 24 5 0)
def c77 (b : HP) : HP := sI (c76 b) (u2 (kI (c76 b)) 24 6 0)
def c78 (b : HP) : HP := sI (c77 b) (u2 (kI (c77 b)) 24 7 0)
def c79 (b : HP) : HP := sI (c78 b) (u2 (kI (c78 b)) 24 8 0)
set_option maxHeartbeats 8000000 in
set_option maxRecDepth 40000 in
theorem cn5 (b : HP) : Ct mX4_init 2 8 1681 [.ref 24] (mkn 24 b 4 0) (fun v h => v = none ∧ h = (c79 b)) := by
  refine Ct.of (lv := [some (.ref 24)]) rfl rfl rfl (show (_ : Nat) ≤ _ from Nat.le_of_ble_eq_true rfl) (fun G => rfl) ?_
  refine Ev.steps tokX4_init 1 (P := True) (pc' := 1) (lv' := [some (.ref 24)]) (st' := [.ref 24]) (h' := (mkn 24 b 4 0)) rfl trivial ?_
  refine ev_objInit (dcd tokX4_init rfl) lk4_3 ob_in.1 ob_in.2 (by decide) (Nat.le_of_ble_eq_true rfl) ?_
  refine Ev.steps tokX4_init 1 (P := True) (pc' := 5) (lv' := [some (.ref 24)]) (st' := [.ref 24]) (h' := (mkn 24 b 4 0)) rfl trivial ?_
  refine ev_newN (n := 25) (ci := 9) (bc := 7) (bs := 1675) (dcd tokX4_init rfl) rfl rfl (by decide) ?_
  show Ev _ _ _ _ _ _ _ (c57 b) _
  refine Ev.steps tokX4_init 3 (P := True) (pc' := 14) (lv' := [some (.ref 24)]) (st' := [.int 400, .int 12, .ref 25, .ref 25, .ref 24]) (h' := (c57 b)) rfl trivial ?_
  refine ev_callI (N := mX9_init) (d' := 1) (bc := 3) (bs := 1203) (bc' := 4) (bs' := 472) (a := 25) (as := [.int 12, .int 400]) (rest := [.ref 25, .ref 24]) (dcd tokX4_init rfl) okX9_init rfl inX9_init rfl lk4_11 rfl (by decide) (Nat.le_of_ble_eq_true rfl) (cn4 (mkn 24 b 4 0)) (fun v h' hq hn => ?_)
  obtain ⟨rfl, rfl⟩ := hq
  refine Ev.steps tokX4_init 1 (P := True) (pc' := 20) (lv' := [some (.ref 24)]) (st' := []) (h' := (c68 b)) rfl trivial ?_
  refine Ev.steps tokX4_init 3 (P := True) (pc' := 25) (lv' := [some (.ref 24)]) (st' := []) (h' := (c69 b)) rfl trivial ?_
  refine Ev.steps tokX4_init 2 (P := True) (pc' := 29) (lv' := [some (.ref 24)]) (st' := [.int 401, .ref 24]) (h' := (c69 b)) rfl trivial ?_
  refine ev_newaN (n0 := 30) (k := 13) (N := 401) (bc := 2) (bs := 802) (dcd tokX4_init rfl) rfl (by decide) rfl (by decide) (by decide) (by decide) (by decide) ?_
  show Ev _ _ _ _ _ _ _ (c70 b) _
  refine Ev.steps tokX4_init 1 (P := True) (pc' := 34) (lv' := [some (.ref 24)]) (st' := []) (h' := (c71 b)) rfl trivial ?_
  refine Ev.steps tokX4_init 2 (P := True) (pc' := 38) (lv' := [some (.ref 24)]) (st' := [.int 401, .ref 24]) (h' := (c71 b)) rfl trivial ?_
  refine ev_newaN (n0 := 31) (k := 13) (N := 401) (bc := 1) (bs := 401) (dcd tokX4_init rfl) rfl (by decide) rfl (by decide) (by decide) (by decide) (by decide) ?_
  show Ev _ _ _ _ _ _ _ (c72 b) _
  refine Ev.steps tokX4_init 1 (P := True) (pc' := 43) (lv' := [some (.ref 24)]) (st' := []) (h' := (c73 b)) rfl trivial ?_
  refine Ev.steps tokX4_init 2 (P := True) (pc' := 47) (lv' := [some (.ref 24)]) (st' := [.int 401, .ref 24]) (h' := (c73 b)) rfl trivial ?_
  refine ev_newaN (n0 := 32) (k := 13) (N := 401) (bc := 0) (bs := 0) (dcd tokX4_init rfl) rfl (by decide) rfl (by decide) (by decide) (by decide) (by decide) ?_
  show Ev _ _ _ _ _ _ _ (c74 b) _
  refine Ev.steps tokX4_init 1 (P := True) (pc' := 52) (lv' := [some (.ref 24)]) (st' := []) (h' := (c75 b)) rfl trivial ?_
  refine Ev.steps tokX4_init 3 (P := True) (pc' := 57) (lv' := [some (.ref 24)]) (st' := []) (h' := (c76 b)) rfl trivial ?_
  refine Ev.steps tokX4_init 3 (P := True) (pc' := 62) (lv' := [some (.ref 24)]) (st' := []) (h' := (c77 b)) rfl trivial ?_
  refine Ev.steps tokX4_init 3 (P := True) (pc' := 67) (lv' := [some (.ref 24)]) (st' := []) (h' := (c78 b)) rfl trivial ?_
  refine Ev.steps tokX4_init 3 (P := ((0 : Int32) = 0 ∨ (0 : Int32) = 1) ∧ True) (pc' := 72) (lv' := [some (.ref 24)]) (st' := []) (h' := (c79 b)) rfl ⟨Or.inl rfl, trivial⟩ ?_
  exact Ev.retv tokX4_init rfl rfl ⟨rfl, rfl⟩
end
