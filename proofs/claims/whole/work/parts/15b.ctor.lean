section
def c80 (b : HP) : HP := sR (c79 (c55 b)) (u2 (kR (c79 (c55 b))) 0 5 (some 24))
def c81 (b : HP) : HP := mkn 33 (c80 b) 1 0
def c82 (b : HP) : HP := sI (mkn 33 b 1 0) (u2 (kI (mkn 33 b 1 0)) 33 0 0)
def c83 (b : HP) : HP := mkn 34 (c82 b) 13 80
def c84 (b : HP) : HP := sR (c83 b) (u2 (kR (c83 b)) 33 1 (some 34))
def c85 (b : HP) : HP := mkn 35 (c84 b) 7 0
def c86 (b : HP) : HP := sI (mkn 35 b 7 0) (u2 (kI (mkn 35 b 7 0)) 35 0 0)
def c87 (b : HP) : HP := mkn 36 (c86 b) 13 10
def c88 (b : HP) : HP := sR (c87 b) (u2 (kR (c87 b)) 35 1 (some 36))
def c89 (b : HP) : HP := mkn 37 (c88 b) 13 10
def c90 (b : HP) : HP := sR (c89 b) (u2 (kR (c89 b)) 35 2 (some 37))
def c91 (b : HP) : HP := mkn 38 (c90 b) 13 10
def c92 (b : HP) : HP := sR (c91 b) (u2 (kR (c91 b)) 35 3 (some 38))
def c93 (b : HP) : HP := mkn 39 (c92 b) 13 10
def c94 (b : HP) : HP := sR (c93 b) (u2 (kR (c93 b)) 35 4 (some 39))
def c95 (b : HP) : HP := mkn 40 (c94 b) 15 10
def c96 (b : HP) : HP := sR (c95 b) (u2 (kR (c95 b)) 35 5 (some 40))
def c97 (b : HP) : HP := sI (c96 b) (u2 (kI (c96 b)) 35 6 0)
def c98 (b : HP) : HP := mkn 41 (c97 b) 13 5
def c99 (b : HP) : HP := sR (c98 b) (u2 (kR (c98 b)) 35 7 (some 41))
def c100 (b : HP) : HP := mkn 42 (c99 b) 13 5
def c101 (b : HP) : HP := sR (c100 b) (u2 (kR (c100 b)) 35 8 (some 42))
def c102 (b : HP) : HP := mkn 43 (c101 b) 13 5
def c103 (b : HP) : HP := sR (c102 b) (u2 (kR (c102 b)) 35 9 (some 43))
def c104 (b : HP) : HP := mkn 44 (c103 b) 13 5
def c105 (b : HP) : HP := sR (c104 b) (u2 (kR (c104 b)) 35 10 (some 44))
def c106 (b : HP) : HP := sI (c105 b) (u2 (kI (c105 b)) 35 11 0)
def c107 (b : HP) : HP := mkn 45 (c106 b) 13 6
def c108 (b : HP) : HP := sR (c107 b) (u2 (kR (c107 b)) 35 12 (some 45))
def c109 (b : HP) : HP := mkn 46 (c108 b) 13 6
def c110 (b : HP) : HP := sR (c109 b) (u2 (kR (c109 b)) 35 13 (some 46))
def c111 (b : HP) : HP := mkn 47 (c110 b) 13 6
def c112 (b : HP) : HP := sR (c111 b) (u2 (kR (c111 b)) 35 14 (some 47))
def c113 (b : HP) : HP := mkn 48 (c112 b) 13 3
def c114 (b : HP) : HP := sA (c113 b) (u2 (kA (c113 b)) 48 0 0)
def c115 (b : HP) : HP := sA (c114 b) (u2 (kA (c114 b)) 48 1 1)
def c116 (b : HP) : HP := sA (c115 b) (u2 (kA (c115 b)) 48 2 0)
def c117 (b : HP) : HP := sR (c116 b) (u2 (kR (c116 b)) 35 15 (some 48))
def c118 (b : HP) : HP := sI (c117 b) (u2 (kI (c117 b)) 35 16 0)
def c119 (b : HP) : HP := mkn 49 (c118 b) 17 6
def c120 (b : HP) : HP := sR (c119 b) (u2 (kR (c119 b)) 35 17 (some 49))
def c121 (b : HP) : HP := sI (c120 b) (u2 (kI (c120 b)) 35 18 (-1))
set_option maxHeartbeats 8000000 in
set_option maxRecDepth 40000 in
theorem cn6 (b : HP) : Ct mX7_init 1 14 97 [.ref 35] (mkn 35 b 7 0) (fun v h => v = none ∧ h = (c121 b)) := by
  refine Ct.of (lv := [some (.ref 35)]) rfl rfl rfl (show (_ : Nat) ≤ _ from Nat.le_of_ble_eq_true rfl) (fun G => rfl) ?_
  refine Ev.steps tokX7_init 1 (P := True) (pc' := 1) (lv' := [some (.ref 35)]) (st' := [.ref 35]) (h' := (mkn 35 b 7 0)) rfl trivial ?_
  refine ev_objInit (dcd tokX7_init rfl) lk7_3 ob_in.1 ob_in.2 (by decide) (Nat.le_of_ble_eq_true rfl) ?_
  refine Ev.steps tokX7_init 3 (P := True) (pc' := 9) (lv' := [some (.ref 35)]) (st' := []) (h' := (c86 b)) rfl trivial ?_
  refine Ev.steps tokX7_init 2 (P := True) (pc' := 12) (lv' := [some (.ref 35)]) (st' := [.int 10, .ref 35]) (h' := (c86 b)) rfl trivial ?_
  refine ev_newaN (n0 := 36) (k := 13) (N := 10) (bc := 13) (bs := 87) (dcd tokX7_init rfl) rfl (by decide) rfl (by decide) (by decide) (by decide) (by decide) ?_
  show Ev _ _ _ _ _ _ _ (c87 b) _
  refine Ev.steps tokX7_init 1 (P := True) (pc' := 17) (lv' := [some (.ref 35)]) (st' := []) (h' := (c88 b)) rfl trivial ?_
  refine Ev.steps tokX7_init 2 (P := True) (pc' := 20) (lv' := [some (.ref 35)]) (st' := [.int 10, .ref 35]) (h' := (c88 b)) rfl trivial ?_
  refine ev_newaN (n0 := 37) (k := 13) (N := 10) (bc := 12) (bs := 77) (dcd tokX7_init rfl) rfl (by decide) rfl (by decide) (by decide) (by decide) (by decide) ?_
  show Ev _ _ _ _ _ _ _ (c89 b) _
  refine Ev.steps tokX7_init 1 (P := True) (pc' := 25) (lv' := [some (.ref 35)]) (st' := []) (h' := (c90 b)) rfl trivial ?_
  refine Ev.steps tokX7_init 2 (P := True) (pc' := 28) (lv' := [some (.ref 35)]) (st' := [.int 10, .ref 35]) (h' := (c90 b)) rfl trivial ?_
  refine ev_newaN (n0 := 38) (k := 13) (N := 10) (bc := 11) (bs := 67) (dcd tokX7_init rfl) rfl (by decide) rfl (by decide) (by decide) (by decide) (by decide) ?_
  show Ev _ _ _ _ _ _ _ (c91 b) _
  refine Ev.steps tokX7_init 1 (P := True) (pc' := 33) (lv' := [some (.ref 35)]) (st' := []) (h' := (c92 b)) rfl trivial ?_
  refine Ev.steps tokX7_init 2 (P := True) (pc' := 36) (lv' := [some (.ref 35)]) (st' := [.int 10, .ref 35]) (h' := (c92 b)) rfl trivial ?_
  refine ev_newaN (n0 := 39) (k := 13) (N := 10) (bc := 10) (bs := 57) (dcd tokX7_init rfl) rfl (by decide) rfl (by decide) (by decide) (by decide) (by decide) ?_
  show Ev _ _ _ _ _ _ _ (c93 b) _
  refine Ev.steps tokX7_init 1 (P := True) (pc' := 41) (lv' := [some (.ref 35)]) (st' := []) (h' := (c94 b)) rfl trivial ?_
  refine Ev.steps tokX7_init 2 (P := True) (pc' := 44) (lv' := [some (.ref 35)]) (st' := [.int 10, .ref 35]) (h' := (c94 b)) rfl trivial ?_
  refine ev_newaN (n0 := 40) (k := 15) (N := 10) (bc := 9) (bs := 47) (dcd tokX7_init rfl) rfl (by decide) rfl (by decide) (by decide) (by decide) (by decide) ?_
  show Ev _ _ _ _ _ _ _ (c95 b) _
  refine Ev.steps tokX7_init 1 (P := True) (pc' := 49) (lv' := [some (.ref 35)]) (st' := []) (h' := (c96 b)) rfl trivial ?_
  refine Ev.steps tokX7_init 3 (P := True) (pc' := 54) (lv' := [some (.ref 35)]) (st' := []) (h' := (c97 b)) rfl trivial ?_
  refine Ev.steps tokX7_init 2 (P := True) (pc' := 56) (lv' := [some (.ref 35)]) (st' := [.int 5, .ref 35]) (h' := (c97 b)) rfl trivial ?_
  refine ev_newaN (n0 := 41) (k := 13) (N := 5) (bc := 8) (bs := 42) (dcd tokX7_init rfl) rfl (by decide) rfl (by decide) (by decide) (by decide) (by decide) ?_
  show Ev _ _ _ _ _ _ _ (c98 b) _
  refine Ev.steps tokX7_init 1 (P := True) (pc' := 61) (lv' := [some (.ref 35)]) (st' := []) (h' := (c99 b)) rfl trivial ?_
  refine Ev.steps tokX7_init 2 (P := True) (pc' := 63) (lv' := [some (.ref 35)]) (st' := [.int 5, .ref 35]) (h' := (c99 b)) rfl trivial ?_
  refine ev_newaN (n0 := 42) (k := 13) (N := 5) (bc := 7) (bs := 37) (dcd tokX7_init rfl) rfl (by decide) rfl (by decide) (by decide) (by decide) (by decide) ?_
  show Ev _ _ _ _ _ _ _ (c100 b) _
  refine Ev.steps tokX7_init 1 (P := True) (pc' := 68) (lv' := [some (.ref 35)]) (st' := []) (h' := (c101 b)) rfl trivial ?_
  refine Ev.steps tokX7_init 2 (P := True) (pc' := 70) (lv' := [some (.ref 35)]) (st' := [.int 5, .ref 35]) (h' := (c101 b)) rfl trivial ?_
  refine ev_newaN (n0 := 43) (k := 13) (N := 5) (bc := 6) (bs := 32) (dcd tokX7_init rfl) rfl (by decide) rfl (by decide) (by decide) (by decide) (by decide) ?_
  show Ev _ _ _ _ _ _ _ (c102 b) _
  refine Ev.steps tokX7_init 1 (P := True) (pc' := 75) (lv' := [some (.ref 35)]) (st' := []) (h' := (c103 b)) rfl trivial ?_
  refine Ev.steps tokX7_init 2 (P := True) (pc' := 77) (lv' := [some (.ref 35)]) (st' := [.int 5, .ref 35]) (h' := (c103 b)) rfl trivial ?_
  refine ev_newaN (n0 := 44) (k := 13) (N := 5) (bc := 5) (bs := 27) (dcd tokX7_init rfl) rfl (by decide) rfl (by decide) (by decide) (by decide) (by decide) ?_
  show Ev _ _ _ _ _ _ _ (c104 b) _
  refine Ev.steps tokX7_init 1 (P := True) (pc' := 82) (lv' := [some (.ref 35)]) (st' := []) (h' := (c105 b)) rfl trivial ?_
  refine Ev.steps tokX7_init 3 (P := True) (pc' := 87) (lv' := [some (.ref 35)]) (st' := []) (h' := (c106 b)) rfl trivial ?_
  refine Ev.steps tokX7_init 2 (P := True) (pc' := 90) (lv' := [some (.ref 35)]) (st' := [.int 6, .ref 35]) (h' := (c106 b)) rfl trivial ?_
  refine ev_newaN (n0 := 45) (k := 13) (N := 6) (bc := 4) (bs := 21) (dcd tokX7_init rfl) rfl (by decide) rfl (by decide) (by decide) (by decide) (by decide) ?_
  show Ev _ _ _ _ _ _ _ (c107 b) _
  refine Ev.steps tokX7_init 1 (P := True) (pc' := 95) (lv' := [some (.ref 35)]) (st' := []) (h' := (c108 b)) rfl trivial ?_
  refine Ev.steps tokX7_init 2 (P := True) (pc' := 98) (lv' := [some (.ref 35)]) (st' := [.int 6, .ref 35]) (h' := (c108 b)) rfl trivial ?_
  refine ev_newaN (n0 := 46) (k := 13) (N := 6) (bc := 3) (bs := 15) (dcd tokX7_init rfl) rfl (by decide) rfl (by decide) (by decide) (by decide) (by decide) ?_
  show Ev _ _ _ _ _ _ _ (c109 b) _
  refine Ev.steps tokX7_init 1 (P := True) (pc' := 103) (lv' := [some (.ref 35)]) (st' := []) (h' := (c110 b)) rfl trivial ?_
  refine Ev.steps tokX7_init 2 (P := True) (pc' := 106) (lv' := [some (.ref 35)]) (st' := [.int 6, .ref 35]) (h' := (c110 b)) rfl trivial ?_
  refine ev_newaN (n0 := 47) (k := 13) (N := 6) (bc := 2) (bs := 9) (dcd tokX7_init rfl) rfl (by decide) rfl (by decide) (by decide) (by decide) (by decide) ?_
  show Ev _ _ _ _ _ _ _ (c111 b) _
  refine Ev.steps tokX7_init 1 (P := True) (pc' := 111) (lv' := [some (.ref 35)]) (st' := []) (h' := (c112 b)) rfl trivial ?_
  refine Ev.steps tokX7_init 2 (P := True) (pc' := 113) (lv' := [some (.ref 35)]) (st' := [.int 3, .ref 35]) (h' := (c112 b)) rfl trivial ?_
  refine ev_newaN (n0 := 48) (k := 13) (N := 3) (bc := 1) (bs := 6) (dcd tokX7_init rfl) rfl (by decide) rfl (by decide) (by decide) (by decide) (by decide) ?_
  show Ev _ _ _ _ _ _ _ (c113 b) _
  refine Ev.steps tokX7_init 4 (P := vp_in 0 3 ∧ True) (pc' := 119) (lv' := [some (.ref 35)]) (st' := [.ref 48, .ref 35]) (h' := (c114 b)) rfl ⟨(by unfold vp_in; decide), trivial⟩ ?_
  refine Ev.steps tokX7_init 4 (P := vp_in 1 3 ∧ True) (pc' := 123) (lv' := [some (.ref 35)]) (st' := [.ref 48, .ref 35]) (h' := (c115 b)) rfl ⟨(by unfold vp_in; decide), trivial⟩ ?_
  refine Ev.steps tokX7_init 4 (P := vp_in 2 3 ∧ True) (pc' := 127) (lv' := [some (.ref 35)]) (st' := [.ref 48, .ref 35]) (h' := (c116 b)) rfl ⟨(by unfold vp_in; decide), trivial⟩ ?_
  refine Ev.steps tokX7_init 1 (P := True) (pc' := 130) (lv' := [some (.ref 35)]) (st' := []) (h' := (c117 b)) rfl trivial ?_
  refine Ev.steps tokX7_init 3 (P := True) (pc' := 135) (lv' := [some (.ref 35)]) (st' := []) (h' := (c118 b)) rfl trivial ?_
  refine Ev.steps tokX7_init 2 (P := True) (pc' := 138) (lv' := [some (.ref 35)]) (st' := [.int 6, .ref 35]) (h' := (c118 b)) rfl trivial ?_
  refine ev_anewN (n0 := 49) (ci := 9) (k := 17) (N := 6) (bc := 0) (bs := 0) (dcd tokX7_init rfl) rfl (Or.inr ⟨rfl, rfl⟩) rfl (by decide) (by decide) (by decide) (by decide) ?_
  show Ev _ _ _ _ _ _ _ (c119 b) _
  refine Ev.steps tokX7_init 1 (P := True) (pc' := 144) (lv' := [some (.ref 35)]) (st' := []) (h' := (c120 b)) rfl trivial ?_
  refine Ev.steps tokX7_init 3 (P := True) (pc' := 149) (lv' := [some (.ref 35)]) (st' := []) (h' := (c121 b)) rfl trivial ?_
  exact Ev.retv tokX7_init rfl rfl ⟨rfl, rfl⟩
def c122 (b : HP) : HP := sR (c121 (c84 b)) (u2 (kR (c121 (c84 b))) 33 4 (some 35))
def c123 (b : HP) : HP := mkn 50 (c122 b) 13 80
def c124 (b : HP) : HP := sR (c123 b) (u2 (kR (c123 b)) 33 5 (some 50))
def c125 (b : HP) : HP := sI (c124 b) (u2 (kI (c124 b)) 33 6 0)
def c126 (b : HP) : HP := sR (c125 b) (u2 (kR (c125 b)) 33 2 (some 1))
def c127 (b : HP) : HP := sR (c126 b) (u2 (kR (c126 b)) 33 3 (some 20))
set_option maxHeartbeats 8000000 in
set_option maxRecDepth 40000 in
theorem cn7 (b : HP) : Ct mX1_init 2 17 276 [.ref 33, .ref 1, .ref 20] (mkn 33 b 1 0) (fun v h => v = none ∧ h = (c127 b)) := by
  refine Ct.of (lv := [some (.ref 33), some (.ref 1), some (.ref 20)]) rfl rfl rfl (show (_ : Nat) ≤ _ from Nat.le_of_ble_eq_true rfl) (fun G => rfl) ?_
  refine Ev.steps tokX1_init 1 (P := True) (pc' := 1) (lv' := [some (.ref 33), some (.ref 1), some (.ref 20)]) (st' := [.ref 33]) (h' := (mkn 33 b 1 0)) rfl trivial ?_
  refine ev_objInit (dcd tokX1_init rfl) lk1_3 ob_in.1 ob_in.2 (by decide) (Nat.le_of_ble_eq_true rfl) ?_
  refine Ev.steps tokX1_init 3 (P := True) (pc' := 9) (lv' := [some (.ref 33), some (.ref 1), some (.ref 20)]) (st' := []) (h' := (c82 b)) rfl trivial ?_
  refine Ev.steps tokX1_init 2 (P := True) (pc' := 12) (lv' := [some (.ref 33), some (.ref 1), some (.ref 20)]) (st' := [.int 80, .ref 33]) (h' := (c82 b)) rfl trivial ?_
  refine ev_newaN (n0 := 34) (k := 13) (N := 80) (bc := 16) (bs := 196) (dcd tokX1_init rfl) rfl (by decide) rfl (by decide) (by decide) (by decide) (by decide) ?_
  show Ev _ _ _ _ _ _ _ (c83 b) _
  refine Ev.steps tokX1_init 1 (P := True) (pc' := 17) (lv' := [some (.ref 33), some (.ref 1), some (.ref 20)]) (st' := []) (h' := (c84 b)) rfl trivial ?_
  refine Ev.steps tokX1_init 1 (P := True) (pc' := 18) (lv' := [some (.ref 33), some (.ref 1), some (.ref 20)]) (st' := [.ref 33]) (h' := (c84 b)) rfl trivial ?_
  refine ev_newN (n := 35) (ci := 7) (bc := 15) (bs := 177) (dcd tokX1_init rfl) rfl rfl (by decide) ?_
  show Ev _ _ _ _ _ _ _ (c85 b) _
  refine Ev.steps tokX1_init 1 (P := True) (pc' := 22) (lv' := [some (.ref 33), some (.ref 1), some (.ref 20)]) (st' := [.ref 35, .ref 35, .ref 33]) (h' := (c85 b)) rfl trivial ?_
  refine ev_callIN (N := mX7_init) (d' := 1) (bc := 1) (bs := 80) (bc' := 14) (bs' := 97) (a := 35) (as := []) (rest := [.ref 35, .ref 33]) (dcd tokX1_init rfl) okX7_init rfl inX7_init rfl lk1_21 rfl (by decide) (Nat.le_of_ble_eq_true rfl) (cn6 (c84 b)) (fun v h' hq hn => ?_)
  obtain ⟨rfl, rfl⟩ := hq
  refine Ev.steps tokX1_init 1 (P := True) (pc' := 28) (lv' := [some (.ref 33), some (.ref 1), some (.ref 20)]) (st' := []) (h' := (c122 b)) rfl trivial ?_
  refine Ev.steps tokX1_init 2 (P := True) (pc' := 31) (lv' := [some (.ref 33), some (.ref 1), some (.ref 20)]) (st' := [.int 80, .ref 33]) (h' := (c122 b)) rfl trivial ?_
  refine ev_newaN (n0 := 50) (k := 13) (N := 80) (bc := 0) (bs := 0) (dcd tokX1_init rfl) rfl (by decide) rfl (by decide) (by decide) (by decide) (by decide) ?_
  show Ev _ _ _ _ _ _ _ (c123 b) _
  refine Ev.steps tokX1_init 1 (P := True) (pc' := 36) (lv' := [some (.ref 33), some (.ref 1), some (.ref 20)]) (st' := []) (h' := (c124 b)) rfl trivial ?_
  refine Ev.steps tokX1_init 3 (P := True) (pc' := 41) (lv' := [some (.ref 33), some (.ref 1), some (.ref 20)]) (st' := []) (h' := (c125 b)) rfl trivial ?_
  refine Ev.steps tokX1_init 3 (P := True) (pc' := 46) (lv' := [some (.ref 33), some (.ref 1), some (.ref 20)]) (st' := []) (h' := (c126 b)) rfl trivial ?_
  refine Ev.steps tokX1_init 3 (P := True) (pc' := 51) (lv' := [some (.ref 33), some (.ref 1), some (.ref 20)]) (st' := []) (h' := (c127 b)) rfl trivial ?_
  exact Ev.retv tokX1_init rfl rfl ⟨rfl, rfl⟩
def c128 (b : HP) : HP := sR (c127 (c80 b)) (u2 (kR (c127 (c80 b))) 0 6 (some 33))
def c129 (b : HP) : HP := mkn 51 (c128 b) 5 0
def c130 (b : HP) : HP := sI (mkn 51 b 5 0) (u2 (kI (mkn 51 b 5 0)) 51 0 0)
def c131 (b : HP) : HP := sI (c130 b) (u2 (kI (c130 b)) 51 1 (-1))
def c132 (b : HP) : HP := mkn 52 (c131 b) 13 24
def c133 (b : HP) : HP := sR (c132 b) (u2 (kR (c132 b)) 51 4 (some 52))
def c134 (b : HP) : HP := mkn 53 (c133 b) 13 50
def c135 (b : HP) : HP := sR (c134 b) (u2 (kR (c134 b)) 51 5 (some 53))
def c136 (b : HP) : HP := sR (c135 b) (u2 (kR (c135 b)) 51 2 (some 1))
def c137 (b : HP) : HP := sR (c136 b) (u2 (kR (c136 b)) 51 3 (some 33))
set_option maxHeartbeats 8000000 in
set_option maxRecDepth 40000 in
theorem cn8 (b : HP) : Ct mX5_init 1 2 74 [.ref 51, .ref 1, .ref 33] (mkn 51 b 5 0) (fun v h => v = none ∧ h = (c137 b)) := by
  refine Ct.of (lv := [some (.ref 51), some (.ref 1), some (.ref 33)]) rfl rfl rfl (show (_ : Nat) ≤ _ from Nat.le_of_ble_eq_true rfl) (fun G => rfl) ?_
  refine Ev.steps tokX5_init 1 (P := True) (pc' := 1) (lv' := [some (.ref 51), some (.ref 1), some (.ref 33)]) (st' := [.ref 51]) (h' := (mkn 51 b 5 0)) rfl trivial ?_
  refine ev_objInit (dcd tokX5_init rfl) lk5_3 ob_in.1 ob_in.2 (by decide) (Nat.le_of_ble_eq_true rfl) ?_
  refine Ev.steps tokX5_init 3 (P := True) (pc' := 9) (lv' := [some (.ref 51), some (.ref 1), some (.ref 33)]) (st' := []) (h' := (c130 b)) rfl trivial ?_
  refine Ev.steps tokX5_init 3 (P := True) (pc' := 14) (lv' := [some (.ref 51), some (.ref 1), some (.ref 33)]) (st' := []) (h' := (c131 b)) rfl trivial ?_
  refine Ev.steps tokX5_init 2 (P := True) (pc' := 17) (lv' := [some (.ref 51), some (.ref 1), some (.ref 33)]) (st' := [.int 24, .ref 51]) (h' := (c131 b)) rfl trivial ?_
  refine ev_newaN (n0 := 52) (k := 13) (N := 24) (bc := 1) (bs := 50) (dcd tokX5_init rfl) rfl (by decide) rfl (by decide) (by decide) (by decide) (by decide) ?_
  show Ev _ _ _ _ _ _ _ (c132 b) _
  refine Ev.steps tokX5_init 1 (P := True) (pc' := 22) (lv' := [some (.ref 51), some (.ref 1), some (.ref 33)]) (st' := []) (h' := (c133 b)) rfl trivial ?_
  refine Ev.steps tokX5_init 2 (P := True) (pc' := 25) (lv' := [some (.ref 51), some (.ref 1), some (.ref 33)]) (st' := [.int 50, .ref 51]) (h' := (c133 b)) rfl trivial ?_
  refine ev_newaN (n0 := 53) (k := 13) (N := 50) (bc := 0) (bs := 0) (dcd tokX5_init rfl) rfl (by decide) rfl (by decide) (by decide) (by decide) (by decide) ?_
  show Ev _ _ _ _ _ _ _ (c134 b) _
  refine Ev.steps tokX5_init 1 (P := True) (pc' := 30) (lv' := [some (.ref 51), some (.ref 1), some (.ref 33)]) (st' := []) (h' := (c135 b)) rfl trivial ?_
  refine Ev.steps tokX5_init 3 (P := True) (pc' := 35) (lv' := [some (.ref 51), some (.ref 1), some (.ref 33)]) (st' := []) (h' := (c136 b)) rfl trivial ?_
  refine Ev.steps tokX5_init 3 (P := True) (pc' := 40) (lv' := [some (.ref 51), some (.ref 1), some (.ref 33)]) (st' := []) (h' := (c137 b)) rfl trivial ?_
  exact Ev.retv tokX5_init rfl rfl ⟨rfl, rfl⟩
end
