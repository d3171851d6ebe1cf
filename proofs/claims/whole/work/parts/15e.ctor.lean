section
def c331 (b : HP) : HP := sQ (c330 (c293 b)) (u2 (kQ (c330 (c293 b))) 16 1 (some 115))
set_option maxHeartbeats 8000000 in
set_option maxRecDepth 40000 in
theorem cn16 (b : HP) : Ct mX10_init 3 129 4454 [.ref 0] (mkn 0 b 10 0) (fun v h => v = none ∧ h = (c331 b)) := by
  refine Ct.of (lv := [some (.ref 0), none]) rfl rfl rfl (show (_ : Nat) ≤ _ from Nat.le_of_ble_eq_true rfl) (fun G => rfl) ?_
  refine Ev.steps tokX10_init 1 (P := True) (pc' := 1) (lv' := [some (.ref 0), none]) (st' := [.ref 0]) (h' := (mkn 0 b 10 0)) rfl trivial ?_
  refine ev_objInit (dcd tokX10_init rfl) lk10_3 ob_in.1 ob_in.2 (by decide) (Nat.le_of_ble_eq_true rfl) ?_
  refine Ev.steps tokX10_init 1 (P := True) (pc' := 5) (lv' := [some (.ref 0), none]) (st' := [.ref 0]) (h' := (mkn 0 b 10 0)) rfl trivial ?_
  refine ev_newN (n := 1) (ci := 7) (bc := 128) (bs := 4435) (dcd tokX10_init rfl) rfl rfl (by decide) ?_
  show Ev _ _ _ _ _ _ _ (c1 b) _
  refine Ev.steps tokX10_init 1 (P := True) (pc' := 9) (lv' := [some (.ref 0), none]) (st' := [.ref 1, .ref 1, .ref 0]) (h' := (c1 b)) rfl trivial ?_
  refine ev_callIN (N := mX7_init) (d' := 1) (bc := 114) (bs := 4338) (bc' := 14) (bs' := 97) (a := 1) (as := []) (rest := [.ref 1, .ref 0]) (dcd tokX10_init rfl) okX7_init rfl inX7_init rfl lk10_11 rfl (by decide) (Nat.le_of_ble_eq_true rfl) (cn1 (mkn 0 b 10 0)) (fun v h' hq hn => ?_)
  obtain ⟨rfl, rfl⟩ := hq
  refine Ev.steps tokX10_init 1 (P := True) (pc' := 15) (lv' := [some (.ref 0), none]) (st' := []) (h' := (c38 b)) rfl trivial ?_
  refine Ev.steps tokX10_init 2 (P := True) (pc' := 17) (lv' := [some (.ref 0), none]) (st' := [.int 2, .ref 0]) (h' := (c38 b)) rfl trivial ?_
  refine ev_anewN (n0 := 16) (ci := 7) (k := 16) (N := 2) (bc := 113) (bs := 4336) (dcd tokX10_init rfl) rfl (Or.inl ⟨rfl, rfl⟩) rfl (by decide) (by decide) (by decide) (by decide) ?_
  show Ev _ _ _ _ _ _ _ (c39 b) _
  refine Ev.steps tokX10_init 1 (P := True) (pc' := 23) (lv' := [some (.ref 0), none]) (st' := []) (h' := (c40 b)) rfl trivial ?_
  refine Ev.steps tokX10_init 2 (P := True) (pc' := 25) (lv' := [some (.ref 0), none]) (st' := [.int 2, .ref 0]) (h' := (c40 b)) rfl trivial ?_
  refine ev_newaN (n0 := 17) (k := 15) (N := 2) (bc := 112) (bs := 4334) (dcd tokX10_init rfl) rfl (by decide) rfl (by decide) (by decide) (by decide) (by decide) ?_
  show Ev _ _ _ _ _ _ _ (c41 b) _
  refine Ev.steps tokX10_init 1 (P := True) (pc' := 30) (lv' := [some (.ref 0), none]) (st' := []) (h' := (c42 b)) rfl trivial ?_
  refine Ev.steps tokX10_init 1 (P := True) (pc' := 31) (lv' := [some (.ref 0), none]) (st' := [.ref 0]) (h' := (c42 b)) rfl trivial ?_
  refine ev_newN (n := 18) (ci := 8) (bc := 111) (bs := 4332) (dcd tokX10_init rfl) rfl rfl (by decide) ?_
  show Ev _ _ _ _ _ _ _ (c43 b) _
  refine Ev.steps tokX10_init 1 (P := True) (pc' := 35) (lv' := [some (.ref 0), none]) (st' := [.ref 18, .ref 18, .ref 0]) (h' := (c43 b)) rfl trivial ?_
  refine ev_callIN (N := mX8_init) (d' := 1) (bc := 110) (bs := 3932) (bc' := 1) (bs' := 400) (a := 18) (as := []) (rest := [.ref 18, .ref 0]) (dcd tokX10_init rfl) okX8_init rfl inX8_init rfl lk10_26 rfl (by decide) (Nat.le_of_ble_eq_true rfl) (cn2 (c42 b)) (fun v h' hq hn => ?_)
  obtain ⟨rfl, rfl⟩ := hq
  refine Ev.steps tokX10_init 1 (P := True) (pc' := 41) (lv' := [some (.ref 0), none]) (st' := []) (h' := (c47 b)) rfl trivial ?_
  refine Ev.steps tokX10_init 1 (P := True) (pc' := 42) (lv' := [some (.ref 0), none]) (st' := [.ref 0]) (h' := (c47 b)) rfl trivial ?_
  refine ev_newN (n := 20) (ci := 0) (bc := 109) (bs := 3929) (dcd tokX10_init rfl) rfl rfl (by decide) ?_
  show Ev _ _ _ _ _ _ _ (c48 b) _
  refine Ev.steps tokX10_init 1 (P := True) (pc' := 46) (lv' := [some (.ref 0), none]) (st' := [.ref 20, .ref 20, .ref 0]) (h' := (c48 b)) rfl trivial ?_
  refine ev_callIN (N := mX0_init) (d' := 1) (bc := 106) (bs := 3851) (bc' := 3) (bs' := 78) (a := 20) (as := []) (rest := [.ref 20, .ref 0]) (dcd tokX10_init rfl) okX0_init rfl inX0_init rfl lk10_33 rfl (by decide) (Nat.le_of_ble_eq_true rfl) (cn3 (c47 b)) (fun v h' hq hn => ?_)
  obtain ⟨rfl, rfl⟩ := hq
  refine Ev.steps tokX10_init 1 (P := True) (pc' := 52) (lv' := [some (.ref 0), none]) (st' := []) (h' := (c55 b)) rfl trivial ?_
  refine Ev.steps tokX10_init 1 (P := True) (pc' := 53) (lv' := [some (.ref 0), none]) (st' := [.ref 0]) (h' := (c55 b)) rfl trivial ?_
  refine ev_newN (n := 24) (ci := 4) (bc := 105) (bs := 3842) (dcd tokX10_init rfl) rfl rfl (by decide) ?_
  show Ev _ _ _ _ _ _ _ (c56 b) _
  refine Ev.steps tokX10_init 1 (P := True) (pc' := 57) (lv' := [some (.ref 0), none]) (st' := [.ref 24, .ref 24, .ref 0]) (h' := (c56 b)) rfl trivial ?_
  refine ev_callIN (N := mX4_init) (d' := 2) (bc := 97) (bs := 2161) (bc' := 8) (bs' := 1681) (a := 24) (as := []) (rest := [.ref 24, .ref 0]) (dcd tokX10_init rfl) okX4_init rfl inX4_init rfl lk10_40 rfl (by decide) (Nat.le_of_ble_eq_true rfl) (cn5 (c55 b)) (fun v h' hq hn => ?_)
  obtain ⟨rfl, rfl⟩ := hq
  refine Ev.steps tokX10_init 1 (P := True) (pc' := 63) (lv' := [some (.ref 0), none]) (st' := []) (h' := (c80 b)) rfl trivial ?_
  refine Ev.steps tokX10_init 1 (P := True) (pc' := 64) (lv' := [some (.ref 0), none]) (st' := [.ref 0]) (h' := (c80 b)) rfl trivial ?_
  refine ev_newN (n := 33) (ci := 1) (bc := 96) (bs := 2154) (dcd tokX10_init rfl) rfl rfl (by decide) ?_
  show Ev _ _ _ _ _ _ _ (c81 b) _
  refine Ev.steps tokX10_init 5 (P := True) (pc' := 76) (lv' := [some (.ref 0), none]) (st' := [.ref 20, .ref 1, .ref 33, .ref 33, .ref 0]) (h' := (c81 b)) rfl trivial ?_
  refine ev_callI (N := mX1_init) (d' := 2) (bc := 79) (bs := 1878) (bc' := 17) (bs' := 276) (a := 33) (as := [.ref 1, .ref 20]) (rest := [.ref 33, .ref 0]) (dcd tokX10_init rfl) okX1_init rfl inX1_init rfl lk10_47 rfl (by decide) (Nat.le_of_ble_eq_true rfl) (cn7 (c80 b)) (fun v h' hq hn => ?_)
  obtain ⟨rfl, rfl⟩ := hq
  refine Ev.steps tokX10_init 1 (P := True) (pc' := 82) (lv' := [some (.ref 0), none]) (st' := []) (h' := (c128 b)) rfl trivial ?_
  refine Ev.steps tokX10_init 1 (P := True) (pc' := 83) (lv' := [some (.ref 0), none]) (st' := [.ref 0]) (h' := (c128 b)) rfl trivial ?_
  refine ev_newN (n := 51) (ci := 5) (bc := 78) (bs := 1872) (dcd tokX10_init rfl) rfl rfl (by decide) ?_
  show Ev _ _ _ _ _ _ _ (c129 b) _
  refine Ev.steps tokX10_init 5 (P := True) (pc' := 95) (lv' := [some (.ref 0), none]) (st' := [.ref 33, .ref 1, .ref 51, .ref 51, .ref 0]) (h' := (c129 b)) rfl trivial ?_
  refine ev_callI (N := mX5_init) (d' := 1) (bc := 76) (bs := 1798) (bc' := 2) (bs' := 74) (a := 51) (as := [.ref 1, .ref 33]) (rest := [.ref 51, .ref 0]) (dcd tokX10_init rfl) okX5_init rfl inX5_init rfl lk10_56 rfl (by decide) (Nat.le_of_ble_eq_true rfl) (cn8 (c128 b)) (fun v h' hq hn => ?_)
  obtain ⟨rfl, rfl⟩ := hq
  refine Ev.steps tokX10_init 1 (P := True) (pc' := 101) (lv' := [some (.ref 0), none]) (st' := []) (h' := (c138 b)) rfl trivial ?_
  refine Ev.steps tokX10_init 1 (P := True) (pc' := 102) (lv' := [some (.ref 0), none]) (st' := [.ref 0]) (h' := (c138 b)) rfl trivial ?_
  refine ev_newN (n := 54) (ci := 6) (bc := 75) (bs := 1785) (dcd tokX10_init rfl) rfl rfl (by decide) ?_
  show Ev _ _ _ _ _ _ _ (c139 b) _
  refine Ev.steps tokX10_init 3 (P := True) (pc' := 110) (lv' := [some (.ref 0), none]) (st' := [.ref 20, .ref 54, .ref 54, .ref 0]) (h' := (c139 b)) rfl trivial ?_
  refine ev_callI (N := mX6_init) (d' := 2) (bc := 50) (bs := 389) (bc' := 25) (bs' := 1396) (a := 54) (as := [.ref 20]) (rest := [.ref 54, .ref 0]) (dcd tokX10_init rfl) okX6_init rfl inX6_init rfl lk10_65 rfl (by decide) (Nat.le_of_ble_eq_true rfl) (cn10 (c138 b)) (fun v h' hq hn => ?_)
  obtain ⟨rfl, rfl⟩ := hq
  refine Ev.steps tokX10_init 1 (P := True) (pc' := 116) (lv' := [some (.ref 0), none]) (st' := []) (h' := (c200 b)) rfl trivial ?_
  refine Ev.steps tokX10_init 1 (P := True) (pc' := 117) (lv' := [some (.ref 0), none]) (st' := [.ref 0]) (h' := (c200 b)) rfl trivial ?_
  refine ev_newN (n := 80) (ci := 3) (bc := 49) (bs := 386) (dcd tokX10_init rfl) rfl rfl (by decide) ?_
  show Ev _ _ _ _ _ _ _ (c201 b) _
  refine Ev.steps tokX10_init 3 (P := True) (pc' := 125) (lv' := [some (.ref 0), none]) (st' := [.ref 20, .ref 80, .ref 80, .ref 0]) (h' := (c201 b)) rfl trivial ?_
  refine ev_callI (N := mX3_init) (d' := 1) (bc := 47) (bs := 358) (bc' := 2) (bs' := 28) (a := 80) (as := [.ref 20]) (rest := [.ref 80, .ref 0]) (dcd tokX10_init rfl) okX3_init rfl inX3_init rfl lk10_74 rfl (by decide) (Nat.le_of_ble_eq_true rfl) (cn11 (c200 b)) (fun v h' hq hn => ?_)
  obtain ⟨rfl, rfl⟩ := hq
  refine Ev.steps tokX10_init 1 (P := True) (pc' := 131) (lv' := [some (.ref 0), none]) (st' := []) (h' := (c207 b)) rfl trivial ?_
  refine Ev.steps tokX10_init 1 (P := True) (pc' := 132) (lv' := [some (.ref 0), none]) (st' := [.ref 0]) (h' := (c207 b)) rfl trivial ?_
  refine ev_newN (n := 83) (ci := 2) (bc := 46) (bs := 355) (dcd tokX10_init rfl) rfl rfl (by decide) ?_
  show Ev _ _ _ _ _ _ _ (c208 b) _
  refine Ev.steps tokX10_init 3 (P := True) (pc' := 140) (lv' := [some (.ref 0), none]) (st' := [.ref 20, .ref 83, .ref 83, .ref 0]) (h' := (c208 b)) rfl trivial ?_
  refine ev_callI (N := mX2_init) (d' := 2) (bc := 31) (bs := 239) (bc' := 15) (bs' := 116) (a := 83) (as := [.ref 20]) (rest := [.ref 83, .ref 0]) (dcd tokX10_init rfl) okX2_init rfl inX2_init rfl lk10_81 rfl (by decide) (Nat.le_of_ble_eq_true rfl) (cn13 (c207 b)) (fun v h' hq hn => ?_)
  obtain ⟨rfl, rfl⟩ := hq
  refine Ev.steps tokX10_init 1 (P := True) (pc' := 146) (lv' := [some (.ref 0), none]) (st' := []) (h' := (c249 b)) rfl trivial ?_
  refine Ev.steps tokX10_init 2 (P := True) (pc' := 149) (lv' := [some (.ref 0), none]) (st' := [.int 7, .ref 0]) (h' := (c249 b)) rfl trivial ?_
  refine ev_newaN (n0 := 99) (k := 13) (N := 7) (bc := 30) (bs := 232) (dcd tokX10_init rfl) rfl (by decide) rfl (by decide) (by decide) (by decide) (by decide) ?_
  show Ev _ _ _ _ _ _ _ (c250 b) _
  refine Ev.steps tokX10_init 1 (P := True) (pc' := 154) (lv' := [some (.ref 0), none]) (st' := []) (h' := (c251 b)) rfl trivial ?_
  refine Ev.steps tokX10_init 3 (P := True) (pc' := 159) (lv' := [some (.ref 0), none]) (st' := []) (h' := (c252 b)) rfl trivial ?_
  refine Ev.steps tokX10_init 3 (P := True) (pc' := 164) (lv' := [some (.ref 0), none]) (st' := []) (h' := (c253 b)) rfl trivial ?_
  refine Ev.steps tokX10_init 3 (P := True) (pc' := 169) (lv' := [some (.ref 0), none]) (st' := []) (h' := (c254 b)) rfl trivial ?_
  refine Ev.steps tokX10_init 3 (P := True) (pc' := 174) (lv' := [some (.ref 0), none]) (st' := []) (h' := (c255 b)) rfl trivial ?_
  refine Ev.steps tokX10_init 5 (P := True) (pc' := if (2 : Int32) ≤ 0 then 200 else 181) (lv' := [some (.ref 0), some (.int 0)]) (st' := []) (h' := (c255 b)) rfl trivial ?_
  rw [if_neg (by decide)]
  refine Ev.steps tokX10_init 3 (P := True) (pc' := 186) (lv' := [some (.ref 0), some (.int 0)]) (st' := [.int 0, .ref 16]) (h' := (c255 b)) rfl trivial ?_
  refine ev_newN (n := 100) (ci := 7) (bc := 29) (bs := 213) (dcd tokX10_init rfl) rfl rfl (by decide) ?_
  show Ev _ _ _ _ _ _ _ (c256 b) _
  refine Ev.steps tokX10_init 1 (P := True) (pc' := 190) (lv' := [some (.ref 0), some (.int 0)]) (st' := [.ref 100, .ref 100, .int 0, .ref 16]) (h' := (c256 b)) rfl trivial ?_
  refine ev_callIN (N := mX7_init) (d' := 1) (bc := 15) (bs := 116) (bc' := 14) (bs' := 97) (a := 100) (as := []) (rest := [.ref 100, .int 0, .ref 16]) (dcd tokX10_init rfl) okX7_init rfl inX7_init rfl lk10_11 rfl (by decide) (Nat.le_of_ble_eq_true rfl) (cn14 (c255 b)) (fun v h' hq hn => ?_)
  obtain ⟨rfl, rfl⟩ := hq
  refine ev_aast (kd := 16) (ci := 7) (r := some 100) (dcd tokX10_init rfl) rfl (Or.inl ⟨rfl, rfl⟩) (show vp_in 0 2 from by unfold vp_in; decide) (fun b hb => by cases hb; rfl) ?_
  show Ev _ _ _ _ _ _ _ (c293 b) _
  refine Ev.steps tokX10_init 5 (P := True) (pc' := if (2 : Int32) ≤ 1 then 200 else 181) (lv' := [some (.ref 0), some (.int 1)]) (st' := []) (h' := (c293 b)) rfl trivial ?_
  rw [if_neg (by decide)]
  refine Ev.steps tokX10_init 3 (P := True) (pc' := 186) (lv' := [some (.ref 0), some (.int 1)]) (st' := [.int 1, .ref 16]) (h' := (c293 b)) rfl trivial ?_
  refine ev_newN (n := 115) (ci := 7) (bc := 14) (bs := 97) (dcd tokX10_init rfl) rfl rfl (by decide) ?_
  show Ev _ _ _ _ _ _ _ (c294 b) _
  refine Ev.steps tokX10_init 1 (P := True) (pc' := 190) (lv' := [some (.ref 0), some (.int 1)]) (st' := [.ref 115, .ref 115, .int 1, .ref 16]) (h' := (c294 b)) rfl trivial ?_
  refine ev_callIN (N := mX7_init) (d' := 1) (bc := 0) (bs := 0) (bc' := 14) (bs' := 97) (a := 115) (as := []) (rest := [.ref 115, .int 1, .ref 16]) (dcd tokX10_init rfl) okX7_init rfl inX7_init rfl lk10_11 rfl (by decide) (Nat.le_of_ble_eq_true rfl) (cn15 (c293 b)) (fun v h' hq hn => ?_)
  obtain ⟨rfl, rfl⟩ := hq
  refine ev_aast (kd := 16) (ci := 7) (r := some 115) (dcd tokX10_init rfl) rfl (Or.inl ⟨rfl, rfl⟩) (show vp_in 1 2 from by unfold vp_in; decide) (fun b hb => by cases hb; rfl) ?_
  show Ev _ _ _ _ _ _ _ (c331 b) _
  refine Ev.steps tokX10_init 5 (P := True) (pc' := if (2 : Int32) ≤ 2 then 200 else 181) (lv' := [some (.ref 0), some (.int 2)]) (st' := []) (h' := (c331 b)) rfl trivial ?_
  rw [if_pos (by decide)]
  exact Ev.retv tokX10_init rfl rfl ⟨rfl, rfl⟩
end
