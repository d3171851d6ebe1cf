section CTOR
def mkn (n : Nat) (h : HP) (k l : Nat) : HP := (n + 1, u1 (kK h) n k, u1 (kL h) n l, u1 (kI h) n (fun _ => 0), u1 (kR h) n (fun _ => none), u1 (kA h) n (fun _ => 0), u1 (kJ h) n (fun _ => 0), u1 (kQ h) n (fun _ => none))
theorem ev_newN {M : MI} {d bc bs pc : Nat} {lv : List (Option Value)} {st : List Value} {h : HP} {Q : Option Value → HP → Prop} {i ci n : Nat} (hd : decode (mB M) pc = .ok (.new i, 3)) (hc : clk (mO M) i = some ci) (hn : kN h = n) (hlt : n < 1000000)
    (k : Ev M d bc bs (pc + 3) lv (.ref n :: st) (mkn n h ci 0) Q) : Ev M d (bc + 1) (bs + nF ci) pc lv st h Q := by
  subst hn
  exact ev_new hd hc hlt k
theorem ev_newaN {M : MI} {d bc bs pc : Nat} {lv : List (Option Value)} {st : List Value} {h : HP} {Q : Option Value → HP → Prop} {t : ArrayType} {n : Int32} {N k n0 : Nat} (hd : decode (mB M) pc = .ok (.newarray t, 2)) (ha : akd t = k) (hk : k < 18) (hn : kN h = n0) (hlt : n0 < 1000000) (h0 : ¬ n < 0) (hN : n.toNatClampNeg = N) (hN2 : N ≤ 1000000)
    (kx : Ev M d bc bs (pc + 2) lv (.ref n0 :: st) (mkn n0 h k N) Q) : Ev M d (bc + 1) (bs + N) pc lv (.int n :: st) h Q := by
  subst hn
  exact ev_newa hd ha hk hlt h0 hN hN2 kx
theorem ev_anewN {M : MI} {d bc bs pc : Nat} {lv : List (Option Value)} {st : List Value} {h : HP} {Q : Option Value → HP → Prop} {i ci k : Nat} {n : Int32} {N n0 : Nat} (hd : decode (mB M) pc = .ok (.anewarray i, 3)) (hc : clk (mO M) i = some ci) (hk : (ci = 7 ∧ k = 16) ∨ (ci = 9 ∧ k = 17)) (hn : kN h = n0) (hlt : n0 < 1000000) (h0 : ¬ n < 0) (hN : n.toNatClampNeg = N) (hN2 : N ≤ 1000000)
    (kx : Ev M d bc bs (pc + 3) lv (.ref n0 :: st) (mkn n0 h k N) Q) : Ev M d (bc + 1) (bs + N) pc lv (.int n :: st) h Q := by
  subst hn
  exact ev_anew hd hc hk hlt h0 hN hN2 kx
theorem TOK.of2 {M : MI} {l : List (Nat × Instr × Nat)} (h : ∀ q ∈ l, decode (mB M) q.1 = .ok q.2) (e : mT M = l) : TOK M := fun q hq => h q (e ▸ hq)
theorem drop_all {α : Type} {p : α → Bool} (l : List α) (n : Nat) (h1 : (l.take n).all p = true) (h2 : (l.drop n).all p = true) : l.all p = true := by
  rw [← List.take_append_drop n l, List.all_append, h1, h2]; rfl
def c0 : HP := (0, fun _ => 99, fun _ => 0, fun _ _ => 0, fun _ _ => none, fun _ _ => 0, fun _ _ => 0, fun _ _ => none)
def c1 (b : HP) : HP := mkn 1 (mkn 0 b 10 0) 7 0
def c2 (b : HP) : HP := (kN (mkn 1 b 7 0), kK (mkn 1 b 7 0), kL (mkn 1 b 7 0), (u2 (kI (mkn 1 b 7 0)) 1 0 0), (kR (mkn 1 b 7 0)), (kA (mkn 1 b 7 0)), (kJ (mkn 1 b 7 0)), (kQ (mkn 1 b 7 0)))
def c3 (b : HP) : HP := mkn 2 (c2 b) 13 10
def c4 (b : HP) : HP := (kN (c3 b), kK (c3 b), kL (c3 b), (kI (c3 b)), (u2 (kR (c3 b)) 1 1 (some 2)), (kA (c3 b)), (kJ (c3 b)), (kQ (c3 b)))
def c5 (b : HP) : HP := mkn 3 (c4 b) 13 10
def c6 (b : HP) : HP := (kN (c5 b), kK (c5 b), kL (c5 b), (kI (c5 b)), (u2 (kR (c5 b)) 1 2 (some 3)), (kA (c5 b)), (kJ (c5 b)), (kQ (c5 b)))
def c7 (b : HP) : HP := mkn 4 (c6 b) 13 10
def c8 (b : HP) : HP := (kN (c7 b), kK (c7 b), kL (c7 b), (kI (c7 b)), (u2 (kR (c7 b)) 1 3 (some 4)), (kA (c7 b)), (kJ (c7 b)), (kQ (c7 b)))
def c9 (b : HP) : HP := mkn 5 (c8 b) 13 10
def c10 (b : HP) : HP := (kN (c9 b), kK (c9 b), kL (c9 b), (kI (c9 b)), (u2 (kR (c9 b)) 1 4 (some 5)), (kA (c9 b)), (kJ (c9 b)), (kQ (c9 b)))
def c11 (b : HP) : HP := mkn 6 (c10 b) 15 10
def c12 (b : HP) : HP := (kN (c11 b), kK (c11 b), kL (c11 b), (u2 (kI (c11 b)) 1 6 0), (u2 (kR (c11 b)) 1 5 (some 6)), (kA (c11 b)), (kJ (c11 b)), (kQ (c11 b)))
def c13 (b : HP) : HP := mkn 7 (c12 b) 13 5
def c14 (b : HP) : HP := (kN (c13 b), kK (c13 b), kL (c13 b), (kI (c13 b)), (u2 (kR (c13 b)) 1 7 (some 7)), (kA (c13 b)), (kJ (c13 b)), (kQ (c13 b)))
def c15 (b : HP) : HP := mkn 8 (c14 b) 13 5
def c16 (b : HP) : HP := (kN (c15 b), kK (c15 b), kL (c15 b), (kI (c15 b)), (u2 (kR (c15 b)) 1 8 (some 8)), (kA (c15 b)), (kJ (c15 b)), (kQ (c15 b)))
def c17 (b : HP) : HP := mkn 9 (c16 b) 13 5
def c18 (b : HP) : HP := (kN (c17 b), kK (c17 b), kL (c17 b), (kI (c17 b)), (u2 (kR (c17 b)) 1 9 (some 9)), (kA (c17 b)), (kJ (c17 b)), (kQ (c17 b)))
def c19 (b : HP) : HP := mkn 10 (c18 b) 13 5
def c20 (b : HP) : HP := (kN (c19 b), kK (c19 b), kL (c19 b), (u2 (kI (c19 b)) 1 11 0), (u2 (kR (c19 b)) 1 10 (some 10)), (kA (c19 b)), (kJ (c19 b)), (kQ (c19 b)))
def c21 (b : HP) : HP := mkn 11 (c20 b) 13 6
def c22 (b : HP) : HP := (kN (c21 b), kK (c21 b), kL (c21 b), (kI (c21 b)), (u2 (kR (c21 b)) 1 12 (some 11)), (kA (c21 b)), (kJ (c21 b)), (kQ (c21 b)))
def c23 (b : HP) : HP := mkn 12 (c22 b) 13 6
def c24 (b : HP) : HP := (kN (c23 b), kK (c23 b), kL (c23 b), (kI (c23 b)), (u2 (kR (c23 b)) 1 13 (some 12)), (kA (c23 b)), (kJ (c23 b)), (kQ (c23 b)))
def c25 (b : HP) : HP := mkn 13 (c24 b) 13 6
def c26 (b : HP) : HP := (kN (c25 b), kK (c25 b), kL (c25 b), (kI (c25 b)), (u2 (kR (c25 b)) 1 14 (some 13)), (kA (c25 b)), (kJ (c25 b)), (kQ (c25 b)))
def c27 (b : HP) : HP := mkn 14 (c26 b) 13 3
def c28 (b : HP) : HP := (kN (c27 b), kK (c27 b), kL (c27 b), (u2 (kI (c27 b)) 1 16 0), (u2 (kR (c27 b)) 1 15 (some 14)), (u2 (u2 (u2 (kA (c27 b)) 14 0 0) 14 1 1) 14 2 0), (kJ (c27 b)), (kQ (c27 b)))
def c29 (b : HP) : HP := mkn 15 (c28 b) 17 6
def c30 (b : HP) : HP := (kN (c29 b), kK (c29 b), kL (c29 b), (u2 (kI (c29 b)) 1 18 (-1)), (u2 (kR (c29 b)) 1 17 (some 15)), (kA (c29 b)), (kJ (c29 b)), (kQ (c29 b)))
def c31 (b : HP) : HP := (c30 b)
set_option maxHeartbeats 8000000 in
set_option maxRecDepth 40000 in
theorem cn1 (b : HP) : Ct mX7_init 1 14 97 [.ref 1] (mkn 1 b 7 0) (fun v h => v = none ∧ h = (c30 b)) := by
  refine Ct.of (lv := [some (.ref 1)]) rfl rfl rfl (show (_ : Nat) ≤ _ from Nat.le_of_ble_eq_true rfl) (fun G => rfl) ?_
  refine Ev.steps tokX7_init 1 (P := True) (pc' := 1) (lv' := [some (.ref 1)]) (st' := [.ref 1]) (h' := (mkn 1 b 7 0)) rfl trivial ?_
  refine ev_objInit (dcd tokX7_init rfl) lk7_3 ob_in.1 ob_in.2 (by decide) (Nat.le_of_ble_eq_true rfl) ?_
  refine Ev.steps tokX7_init 5 (P := True) (pc' := 12) (lv' := [some (.ref 1)]) (st' := [.int 10, .ref 1]) (h' := (c2 b)) rfl trivial ?_
  refine ev_newaN (n0 := 2) (k := 13) (N := 10) (bc := 13) (bs := 87) (dcd tokX7_init rfl) rfl (by decide) rfl (by decide) (by decide) (by decide) (by decide) ?_
  show Ev _ _ _ _ _ _ _ (c3 b) _
  refine Ev.steps tokX7_init 3 (P := True) (pc' := 20) (lv' := [some (.ref 1)]) (st' := [.int 10, .ref 1]) (h' := (c4 b)) rfl trivial ?_
  refine ev_newaN (n0 := 3) (k := 13) (N := 10) (bc := 12) (bs := 77) (dcd tokX7_init rfl) rfl (by decide) rfl (by decide) (by decide) (by decide) (by decide) ?_
  show Ev _ _ _ _ _ _ _ (c5 b) _
  refine Ev.steps tokX7_init 3 (P := True) (pc' := 28) (lv' := [some (.ref 1)]) (st' := [.int 10, .ref 1]) (h' := (c6 b)) rfl trivial ?_
  refine ev_newaN (n0 := 4) (k := 13) (N := 10) (bc := 11) (bs := 67) (dcd tokX7_init rfl) rfl (by decide) rfl (by decide) (by decide) (by decide) (by decide) ?_
  show Ev _ _ _ _ _ _ _ (c7 b) _
  refine Ev.steps tokX7_init 3 (P := True) (pc' := 36) (lv' := [some (.ref 1)]) (st' := [.int 10, .ref 1]) (h' := (c8 b)) rfl trivial ?_
  refine ev_newaN (n0 := 5) (k := 13) (N := 10) (bc := 10) (bs := 57) (dcd tokX7_init rfl) rfl (by decide) rfl (by decide) (by decide) (by decide) (by decide) ?_
  show Ev _ _ _ _ _ _ _ (c9 b) _
  refine Ev.steps tokX7_init 3 (P := True) (pc' := 44) (lv' := [some (.ref 1)]) (st' := [.int 10, .ref 1]) (h' := (c10 b)) rfl trivial ?_
  refine ev_newaN (n0 := 6) (k := 15) (N := 10) (bc := 9) (bs := 47) (dcd tokX7_init rfl) rfl (by decide) rfl (by decide) (by decide) (by decide) (by decide) ?_
  show Ev _ _ _ _ _ _ _ (c11 b) _
  refine Ev.steps tokX7_init 6 (P := True) (pc' := 56) (lv' := [some (.ref 1)]) (st' := [.int 5, .ref 1]) (h' := (c12 b)) rfl trivial ?_
  refine ev_newaN (n0 := 7) (k := 13) (N := 5) (bc := 8) (bs := 42) (dcd tokX7_init rfl) rfl (by decide) rfl (by decide) (by decide) (by decide) (by decide) ?_
  show Ev _ _ _ _ _ _ _ (c13 b) _
  refine Ev.steps tokX7_init 3 (P := True) (pc' := 63) (lv' := [some (.ref 1)]) (st' := [.int 5, .ref 1]) (h' := (c14 b)) rfl trivial ?_
  refine ev_newaN (n0 := 8) (k := 13) (N := 5) (bc := 7) (bs := 37) (dcd tokX7_init rfl) rfl (by decide) rfl (by decide) (by decide) (by decide) (by decide) ?_
  show Ev _ _ _ _ _ _ _ (c15 b) _
  refine Ev.steps tokX7_init 3 (P := True) (pc' := 70) (lv' := [some (.ref 1)]) (st' := [.int 5, .ref 1]) (h' := (c16 b)) rfl trivial ?_
  refine ev_newaN (n0 := 9) (k := 13) (N := 5) (bc := 6) (bs := 32) (dcd tokX7_init rfl) rfl (by decide) rfl (by decide) (by decide) (by decide) (by decide) ?_
  show Ev _ _ _ _ _ _ _ (c17 b) _
  refine Ev.steps tokX7_init 3 (P := True) (pc' := 77) (lv' := [some (.ref 1)]) (st' := [.int 5, .ref 1]) (h' := (c18 b)) rfl trivial ?_
  refine ev_newaN (n0 := 10) (k := 13) (N := 5) (bc := 5) (bs := 27) (dcd tokX7_init rfl) rfl (by decide) rfl (by decide) (by decide) (by decide) (by decide) ?_
  show Ev _ _ _ _ _ _ _ (c19 b) _
  refine Ev.steps tokX7_init 6 (P := True) (pc' := 90) (lv' := [some (.ref 1)]) (st' := [.int 6, .ref 1]) (h' := (c20 b)) rfl trivial ?_
  refine ev_newaN (n0 := 11) (k := 13) (N := 6) (bc := 4) (bs := 21) (dcd tokX7_init rfl) rfl (by decide) rfl (by decide) (by decide) (by decide) (by decide) ?_
  show Ev _ _ _ _ _ _ _ (c21 b) _
  refine Ev.steps tokX7_init 3 (P := True) (pc' := 98) (lv' := [some (.ref 1)]) (st' := [.int 6, .ref 1]) (h' := (c22 b)) rfl trivial ?_
  refine ev_newaN (n0 := 12) (k := 13) (N := 6) (bc := 3) (bs := 15) (dcd tokX7_init rfl) rfl (by decide) rfl (by decide) (by decide) (by decide) (by decide) ?_
  show Ev _ _ _ _ _ _ _ (c23 b) _
  refine Ev.steps tokX7_init 3 (P := True) (pc' := 106) (lv' := [some (.ref 1)]) (st' := [.int 6, .ref 1]) (h' := (c24 b)) rfl trivial ?_
  refine ev_newaN (n0 := 13) (k := 13) (N := 6) (bc := 2) (bs := 9) (dcd tokX7_init rfl) rfl (by decide) rfl (by decide) (by decide) (by decide) (by decide) ?_
  show Ev _ _ _ _ _ _ _ (c25 b) _
  refine Ev.steps tokX7_init 3 (P := True) (pc' := 113) (lv' := [some (.ref 1)]) (st' := [.int 3, .ref 1]) (h' := (c26 b)) rfl trivial ?_
  refine ev_newaN (n0 := 14) (k := 13) (N := 3) (bc := 1) (bs := 6) (dcd tokX7_init rfl) rfl (by decide) rfl (by decide) (by decide) (by decide) (by decide) ?_
  show Ev _ _ _ _ _ _ _ (c27 b) _
  refine Ev.steps tokX7_init 18 (P := vp_in 0 3 ∧ vp_in 1 3 ∧ vp_in 2 3 ∧ True) (pc' := 138) (lv' := [some (.ref 1)]) (st' := [.int 6, .ref 1]) (h' := (c28 b)) rfl ⟨(by unfold vp_in; decide), (by unfold vp_in; decide), (by unfold vp_in; decide), trivial⟩ ?_
  refine ev_anewN (n0 := 15) (ci := 9) (k := 17) (N := 6) (bc := 0) (bs := 0) (dcd tokX7_init rfl) rfl (Or.inr ⟨rfl, rfl⟩) rfl (by decide) (by decide) (by decide) (by decide) ?_
  show Ev _ _ _ _ _ _ _ (c29 b) _
  refine Ev.steps tokX7_init 4 (P := True) (pc' := 149) (lv' := [some (.ref 1)]) (st' := []) (h' := (c30 b)) rfl trivial ?_
  exact Ev.retv tokX7_init rfl rfl ⟨rfl, rfl⟩
def c32 (b : HP) : HP := (kN (c31 (mkn 0 b 10 0)), kK (c31 (mkn 0 b 10 0)), kL (c31 (mkn 0 b 10 0)), (kI (c31 (mkn 0 b 10 0))), (u2 (kR (c31 (mkn 0 b 10 0))) 0 0 (some 1)), (kA (c31 (mkn 0 b 10 0))), (kJ (c31 (mkn 0 b 10 0))), (kQ (c31 (mkn 0 b 10 0))))
def c33 (b : HP) : HP := mkn 16 (c32 b) 16 2
def c34 (b : HP) : HP := (kN (c33 b), kK (c33 b), kL (c33 b), (kI (c33 b)), (u2 (kR (c33 b)) 0 1 (some 16)), (kA (c33 b)), (kJ (c33 b)), (kQ (c33 b)))
def c35 (b : HP) : HP := mkn 17 (c34 b) 15 2
def c36 (b : HP) : HP := (kN (c35 b), kK (c35 b), kL (c35 b), (kI (c35 b)), (u2 (kR (c35 b)) 0 2 (some 17)), (kA (c35 b)), (kJ (c35 b)), (kQ (c35 b)))
def c37 (b : HP) : HP := mkn 18 (c36 b) 8 0
def c38 (b : HP) : HP := mkn 19 (mkn 18 b 8 0) 13 400
def c39 (b : HP) : HP := (kN (c38 b), kK (c38 b), kL (c38 b), (u2 (kI (c38 b)) 18 1 0), (u2 (kR (c38 b)) 18 0 (some 19)), (kA (c38 b)), (kJ (c38 b)), (kQ (c38 b)))
def c40 (b : HP) : HP := (c39 b)
set_option maxHeartbeats 8000000 in
set_option maxRecDepth 40000 in
theorem cn2 (b : HP) : Ct mX8_init 1 1 400 [.ref 18] (mkn 18 b 8 0) (fun v h => v = none ∧ h = (c39 b)) := by
  refine Ct.of (lv := [some (.ref 18)]) rfl rfl rfl (show (_ : Nat) ≤ _ from Nat.le_of_ble_eq_true rfl) (fun G => rfl) ?_
  refine Ev.steps tokX8_init 1 (P := True) (pc' := 1) (lv' := [some (.ref 18)]) (st' := [.ref 18]) (h' := (mkn 18 b 8 0)) rfl trivial ?_
  refine ev_objInit (dcd tokX8_init rfl) lk8_3 ob_in.1 ob_in.2 (by decide) (Nat.le_of_ble_eq_true rfl) ?_
  refine Ev.steps tokX8_init 2 (P := True) (pc' := 8) (lv' := [some (.ref 18)]) (st' := [.int 400, .ref 18]) (h' := (mkn 18 b 8 0)) rfl trivial ?_
  refine ev_newaN (n0 := 19) (k := 13) (N := 400) (bc := 0) (bs := 0) (dcd tokX8_init rfl) rfl (by decide) rfl (by decide) (by decide) (by decide) (by decide) ?_
  show Ev _ _ _ _ _ _ _ (c38 b) _
  refine Ev.steps tokX8_init 4 (P := True) (pc' := 18) (lv' := [some (.ref 18)]) (st' := []) (h' := (c39 b)) rfl trivial ?_
  exact Ev.retv tokX8_init rfl rfl ⟨rfl, rfl⟩
def c41 (b : HP) : HP := (kN (c40 (c36 b)), kK (c40 (c36 b)), kL (c40 (c36 b)), (kI (c40 (c36 b))), (u2 (kR (c40 (c36 b))) 0 3 (some 18)), (kA (c40 (c36 b))), (kJ (c40 (c36 b))), (kQ (c40 (c36 b))))
def c42 (b : HP) : HP := mkn 20 (c41 b) 0 0
def c43 (b : HP) : HP := mkn 21 (mkn 20 b 0 0) 13 8
def c44 (b : HP) : HP := (kN (c43 b), kK (c43 b), kL (c43 b), (kI (c43 b)), (u2 (kR (c43 b)) 20 0 (some 21)), (kA (c43 b)), (kJ (c43 b)), (kQ (c43 b)))
def c45 (b : HP) : HP := mkn 22 (c44 b) 13 50
def c46 (b : HP) : HP := (kN (c45 b), kK (c45 b), kL (c45 b), (kI (c45 b)), (u2 (kR (c45 b)) 20 1 (some 22)), (kA (c45 b)), (kJ (c45 b)), (kQ (c45 b)))
def c47 (b : HP) : HP := mkn 23 (c46 b) 13 20
def c48 (b : HP) : HP := (kN (c47 b), kK (c47 b), kL (c47 b), (kI (c47 b)), (u2 (kR (c47 b)) 20 2 (some 23)), (kA (c47 b)), (kJ (c47 b)), (kQ (c47 b)))
def c49 (b : HP) : HP := (c48 b)
set_option maxHeartbeats 8000000 in
set_option maxRecDepth 40000 in
theorem cn3 (b : HP) : Ct mX0_init 1 3 78 [.ref 20] (mkn 20 b 0 0) (fun v h => v = none ∧ h = (c48 b)) := by
  refine Ct.of (lv := [some (.ref 20)]) rfl rfl rfl (show (_ : Nat) ≤ _ from Nat.le_of_ble_eq_true rfl) (fun G => rfl) ?_
  refine Ev.steps tokX0_init 1 (P := True) (pc' := 1) (lv' := [some (.ref 20)]) (st' := [.ref 20]) (h' := (mkn 20 b 0 0)) rfl trivial ?_
  refine ev_objInit (dcd tokX0_init rfl) lk0_3 ob_in.1 ob_in.2 (by decide) (Nat.le_of_ble_eq_true rfl) ?_
  refine Ev.steps tokX0_init 2 (P := True) (pc' := 7) (lv' := [some (.ref 20)]) (st' := [.int 8, .ref 20]) (h' := (mkn 20 b 0 0)) rfl trivial ?_
  refine ev_newaN (n0 := 21) (k := 13) (N := 8) (bc := 2) (bs := 70) (dcd tokX0_init rfl) rfl (by decide) rfl (by decide) (by decide) (by decide) (by decide) ?_
  show Ev _ _ _ _ _ _ _ (c43 b) _
  refine Ev.steps tokX0_init 3 (P := True) (pc' := 15) (lv' := [some (.ref 20)]) (st' := [.int 50, .ref 20]) (h' := (c44 b)) rfl trivial ?_
  refine ev_newaN (n0 := 22) (k := 13) (N := 50) (bc := 1) (bs := 20) (dcd tokX0_init rfl) rfl (by decide) rfl (by decide) (by decide) (by decide) (by decide) ?_
  show Ev _ _ _ _ _ _ _ (c45 b) _
  refine Ev.steps tokX0_init 3 (P := True) (pc' := 23) (lv' := [some (.ref 20)]) (st' := [.int 20, .ref 20]) (h' := (c46 b)) rfl trivial ?_
  refine ev_newaN (n0 := 23) (k := 13) (N := 20) (bc := 0) (bs := 0) (dcd tokX0_init rfl) rfl (by decide) rfl (by decide) (by decide) (by decide) (by decide) ?_
  show Ev _ _ _ _ _ _ _ (c47 b) _
  refine Ev.steps tokX0_init 1 (P := True) (pc' := 28) (lv' := [some (.ref 20)]) (st' := []) (h' := (c48 b)) rfl trivial ?_
  exact Ev.retv tokX0_init rfl rfl ⟨rfl, rfl⟩
end CTOR
