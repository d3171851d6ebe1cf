section MIR
set_option maxHeartbeats 4000000 in
set_option maxRecDepth 20000 in
theorem bpX10_count_0_0 (x : XT)  (S : ST) (p1 : Int32) (r : Int32) (S' : ST) (hm : bfX10_count_0_0 x  S p1 = some (r, S')) : Ev mX10_count 2 0 0 0 [some (.ref 0), some (.int p1)] [] (mkS x S) (fun v h => v = some (.int r) ∧ h = mkS x S') := by
    unfold bfX10_count_0_0 at hm
    refine Ev.steps tokX10_count 1 (P := True) (pc' := 1) (lv' := [some (.ref 0), some (.int p1)]) (st' := [.int p1]) (h' := mkS x S) rfl trivial ?_
    by_cases c1 : p1 = 0
    · rw [if_pos c1] at hm
      refine ev_tIn (off := 79) (t := 80) (dcd tokX10_count rfl) (by rw [c1]; decide) (by rw [c1]; decide) (by rw [c1]; rfl) rfl ?_
      refine Ev.steps tokX10_count 3 (P := True) (pc' := 87) (lv' := [some (.ref 0), some (.int p1)]) (st' := [.int (S.1 1 0)]) (h' := mkS x S) rfl trivial ?_
      cases hm
      exact Ev.reti tokX10_count rfl rfl ⟨rfl, rfl⟩
    rw [if_neg c1] at hm
    by_cases c2 : p1 = 1
    · rw [if_pos c2] at hm
      refine ev_tIn (off := 87) (t := 88) (dcd tokX10_count rfl) (by rw [c2]; decide) (by rw [c2]; decide) (by rw [c2]; rfl) rfl ?_
      refine Ev.steps tokX10_count 3 (P := True) (pc' := 95) (lv' := [some (.ref 0), some (.int p1)]) (st' := [.int (S.1 1 6)]) (h' := mkS x S) rfl trivial ?_
      cases hm
      exact Ev.reti tokX10_count rfl rfl ⟨rfl, rfl⟩
    rw [if_neg c2] at hm
    by_cases c3 : p1 = 2
    · rw [if_pos c3] at hm
      refine ev_tIn (off := 95) (t := 96) (dcd tokX10_count rfl) (by rw [c3]; decide) (by rw [c3]; decide) (by rw [c3]; rfl) rfl ?_
      refine Ev.steps tokX10_count 2 (P := True) (pc' := 100) (lv' := [some (.ref 0), some (.int p1)]) (st' := [.ref 1]) (h' := mkS x S) rfl trivial ?_
      cases h4 : gfX7_allMany_1 x S with
      | none => rw [h4] at hm; cases hm
      | some q5 =>
        obtain ⟨r6, S7⟩ := q5
        rw [h4] at hm
        dsimp only at hm
        refine ev_callV (N := mX7_allMany) (d' := 1) (bc := 0) (bs := 0) (bc' := 0) (bs' := 0) (as := []) (rest := []) (a := 1) (ci := 7) (dcd tokX10_count rfl) okX7_allMany inX7_allMany seX7_allMany lk10_342 rfl (by decide) (Nat.le_of_ble_eq_true rfl) rfl ⟨by decide, rfl⟩ (gpX7_allMany_1 x S _ _ h4) (fun v h' hq hn => ?_)
        obtain ⟨rfl, rfl⟩ := hq
        cases hm
        exact Ev.reti tokX10_count rfl rfl ⟨rfl, rfl⟩
    rw [if_neg c3] at hm
    by_cases c8 : p1 = 3
    · rw [if_pos c8] at hm
      refine ev_tIn (off := 103) (t := 104) (dcd tokX10_count rfl) (by rw [c8]; decide) (by rw [c8]; decide) (by rw [c8]; rfl) rfl ?_
      refine Ev.steps tokX10_count 3 (P := True) (pc' := 111) (lv' := [some (.ref 0), some (.int p1)]) (st' := [.int (S.1 1 11)]) (h' := mkS x S) rfl trivial ?_
      cases hm
      exact Ev.reti tokX10_count rfl rfl ⟨rfl, rfl⟩
    rw [if_neg c8] at hm
    by_cases c9 : p1 = 4
    · rw [if_pos c9] at hm
      refine ev_tIn (off := 111) (t := 112) (dcd tokX10_count rfl) (by rw [c9]; decide) (by rw [c9]; decide) (by rw [c9]; rfl) rfl ?_
      refine Ev.steps tokX10_count 3 (P := True) (pc' := 119) (lv' := [some (.ref 0), some (.int p1)]) (st' := [.int (S.1 1 16)]) (h' := mkS x S) rfl trivial ?_
      cases hm
      exact Ev.reti tokX10_count rfl rfl ⟨rfl, rfl⟩
    rw [if_neg c9] at hm
    by_cases c10 : p1 = 5
    · rw [if_pos c10] at hm
      refine ev_tIn (off := 119) (t := 120) (dcd tokX10_count rfl) (by rw [c10]; decide) (by rw [c10]; decide) (by rw [c10]; rfl) rfl ?_
      refine Ev.steps tokX10_count 3 (P := True) (pc' := 127) (lv' := [some (.ref 0), some (.int p1)]) (st' := [.int (S.1 33 0)]) (h' := mkS x S) rfl trivial ?_
      cases hm
      exact Ev.reti tokX10_count rfl rfl ⟨rfl, rfl⟩
    rw [if_neg c10] at hm
    by_cases c11 : p1 = 6
    · rw [if_pos c11] at hm
      refine ev_tIn (off := 127) (t := 128) (dcd tokX10_count rfl) (by rw [c11]; decide) (by rw [c11]; decide) (by rw [c11]; rfl) rfl ?_
      refine Ev.steps tokX10_count 3 (P := True) (pc' := 135) (lv' := [some (.ref 0), some (.int p1)]) (st' := [.int (S.1 18 1)]) (h' := mkS x S) rfl trivial ?_
      cases hm
      exact Ev.reti tokX10_count rfl rfl ⟨rfl, rfl⟩
    rw [if_neg c11] at hm
    by_cases c12 : p1 = 7
    · rw [if_pos c12] at hm
      refine ev_tIn (off := 135) (t := 136) (dcd tokX10_count rfl) (by rw [c12]; decide) (by rw [c12]; decide) (by rw [c12]; rfl) rfl ?_
      refine Ev.steps tokX10_count 4 (P := vp_in 1 7 ∧ True) (pc' := 142) (lv' := [some (.ref 0), some (.int p1)]) (st' := [.int (S.2.1 99 1)]) (h' := mkS x S) rfl ⟨(by unfold vp_in; decide), trivial⟩ ?_
      cases hm
      exact Ev.reti tokX10_count rfl rfl ⟨rfl, rfl⟩
    rw [if_neg c12] at hm
    by_cases c13 : p1 = 8
    · rw [if_pos c13] at hm
      refine ev_tIn (off := 142) (t := 143) (dcd tokX10_count rfl) (by rw [c13]; decide) (by rw [c13]; decide) (by rw [c13]; rfl) rfl ?_
      refine Ev.steps tokX10_count 4 (P := vp_in 2 7 ∧ True) (pc' := 149) (lv' := [some (.ref 0), some (.int p1)]) (st' := [.int (S.2.1 99 2)]) (h' := mkS x S) rfl ⟨(by unfold vp_in; decide), trivial⟩ ?_
      cases hm
      exact Ev.reti tokX10_count rfl rfl ⟨rfl, rfl⟩
    rw [if_neg c13] at hm
    by_cases c14 : p1 = 9
    · rw [if_pos c14] at hm
      refine ev_tIn (off := 149) (t := 150) (dcd tokX10_count rfl) (by rw [c14]; decide) (by rw [c14]; decide) (by rw [c14]; rfl) rfl ?_
      refine Ev.steps tokX10_count 4 (P := vp_in 3 7 ∧ True) (pc' := 156) (lv' := [some (.ref 0), some (.int p1)]) (st' := [.int (S.2.1 99 3)]) (h' := mkS x S) rfl ⟨(by unfold vp_in; decide), trivial⟩ ?_
      cases hm
      exact Ev.reti tokX10_count rfl rfl ⟨rfl, rfl⟩
    rw [if_neg c14] at hm
    by_cases c15 : p1 = 10
    · rw [if_pos c15] at hm
      refine ev_tIn (off := 156) (t := 157) (dcd tokX10_count rfl) (by rw [c15]; decide) (by rw [c15]; decide) (by rw [c15]; rfl) rfl ?_
      refine Ev.steps tokX10_count 4 (P := vp_in 5 7 ∧ True) (pc' := 163) (lv' := [some (.ref 0), some (.int p1)]) (st' := [.int (S.2.1 99 5)]) (h' := mkS x S) rfl ⟨(by unfold vp_in; decide), trivial⟩ ?_
      cases hm
      exact Ev.reti tokX10_count rfl rfl ⟨rfl, rfl⟩
    rw [if_neg c15] at hm
    by_cases c16 : p1 = 11
    · rw [if_pos c16] at hm
      refine ev_tIn (off := 163) (t := 164) (dcd tokX10_count rfl) (by rw [c16]; decide) (by rw [c16]; decide) (by rw [c16]; rfl) rfl ?_
      refine Ev.steps tokX10_count 4 (P := vp_in 6 7 ∧ True) (pc' := 171) (lv' := [some (.ref 0), some (.int p1)]) (st' := [.int (S.2.1 99 6)]) (h' := mkS x S) rfl ⟨(by unfold vp_in; decide), trivial⟩ ?_
      cases hm
      exact Ev.reti tokX10_count rfl rfl ⟨rfl, rfl⟩
    rw [if_neg c16] at hm
    by_cases c17 : p1 = 12
    · rw [if_pos c17] at hm
      refine ev_tIn (off := 171) (t := 172) (dcd tokX10_count rfl) (by rw [c17]; decide) (by rw [c17]; decide) (by rw [c17]; rfl) rfl ?_
      refine Ev.steps tokX10_count 3 (P := True) (pc' := 179) (lv' := [some (.ref 0), some (.int p1)]) (st' := [.int (S.1 1 18)]) (h' := mkS x S) rfl trivial ?_
      cases hm
      exact Ev.reti tokX10_count rfl rfl ⟨rfl, rfl⟩
    rw [if_neg c17] at hm
    by_cases c18 : p1 = 13
    · rw [if_pos c18] at hm
      refine ev_tIn (off := 179) (t := 180) (dcd tokX10_count rfl) (by rw [c18]; decide) (by rw [c18]; decide) (by rw [c18]; rfl) rfl ?_
      refine Ev.steps tokX10_count 5 (P := vp_in 0 3 ∧ True) (pc' := 189) (lv' := [some (.ref 0), some (.int p1)]) (st' := [.int (S.2.1 14 0)]) (h' := mkS x S) rfl ⟨(by unfold vp_in; decide), trivial⟩ ?_
      cases hm
      exact Ev.reti tokX10_count rfl rfl ⟨rfl, rfl⟩
    rw [if_neg c18] at hm
    by_cases c19 : p1 = 14
    · rw [if_pos c19] at hm
      refine ev_tIn (off := 189) (t := 190) (dcd tokX10_count rfl) (by rw [c19]; decide) (by rw [c19]; decide) (by rw [c19]; rfl) rfl ?_
      refine Ev.steps tokX10_count 5 (P := vp_in 1 3 ∧ True) (pc' := 199) (lv' := [some (.ref 0), some (.int p1)]) (st' := [.int (S.2.1 14 1)]) (h' := mkS x S) rfl ⟨(by unfold vp_in; decide), trivial⟩ ?_
      cases hm
      exact Ev.reti tokX10_count rfl rfl ⟨rfl, rfl⟩
    rw [if_neg c19] at hm
    by_cases c20 : p1 = 15
    · rw [if_pos c20] at hm
      refine ev_tIn (off := 199) (t := 200) (dcd tokX10_count rfl) (by rw [c20]; decide) (by rw [c20]; decide) (by rw [c20]; rfl) rfl ?_
      refine Ev.steps tokX10_count 5 (P := vp_in 2 3 ∧ True) (pc' := 209) (lv' := [some (.ref 0), some (.int p1)]) (st' := [.int (S.2.1 14 2)]) (h' := mkS x S) rfl ⟨(by unfold vp_in; decide), trivial⟩ ?_
      cases hm
      exact Ev.reti tokX10_count rfl rfl ⟨rfl, rfl⟩
    rw [if_neg c20] at hm
    refine ev_tOut (t := 210) (dcd tokX10_count rfl) (by have zc1 := lv_neT c1 (show (0 : Int32).toInt = 0 from by decide); have zc2 := lv_neT c2 (show (1 : Int32).toInt = 1 from by decide); have zc3 := lv_neT c3 (show (2 : Int32).toInt = 2 from by decide); have zc8 := lv_neT c8 (show (3 : Int32).toInt = 3 from by decide); have zc9 := lv_neT c9 (show (4 : Int32).toInt = 4 from by decide); have zc10 := lv_neT c10 (show (5 : Int32).toInt = 5 from by decide); have zc11 := lv_neT c11 (show (6 : Int32).toInt = 6 from by decide); have zc12 := lv_neT c12 (show (7 : Int32).toInt = 7 from by decide); have zc13 := lv_neT c13 (show (8 : Int32).toInt = 8 from by decide); have zc14 := lv_neT c14 (show (9 : Int32).toInt = 9 from by decide); have zc15 := lv_neT c15 (show (10 : Int32).toInt = 10 from by decide); have zc16 := lv_neT c16 (show (11 : Int32).toInt = 11 from by decide); have zc17 := lv_neT c17 (show (12 : Int32).toInt = 12 from by decide); have zc18 := lv_neT c18 (show (13 : Int32).toInt = 13 from by decide); have zc19 := lv_neT c19 (show (14 : Int32).toInt = 14 from by decide); have zc20 := lv_neT c20 (show (15 : Int32).toInt = 15 from by decide); omega) rfl ?_
    refine Ev.steps tokX10_count 1 (P := True) (pc' := 211) (lv' := [some (.ref 0), some (.int p1)]) (st' := [.int (-1)]) (h' := mkS x S) rfl trivial ?_
    cases hm
    exact Ev.reti tokX10_count rfl rfl ⟨rfl, rfl⟩
theorem gpX10_count_0 (x : XT) (S : ST) (p1 : Int32) (r : Int32) (S' : ST) (hm : gfX10_count_0 x S p1 = some (r, S')) : Ct mX10_count 2 0 0 [.ref 0, .int p1] (mkS x S) (fun v h => v = some (.int r) ∧ h = mkS x S') :=
  Ct.of (lv := [some (.ref 0), some (.int p1)]) rfl rfl rfl (show (_ : Nat) ≤ _ from Nat.le_of_ble_eq_true rfl) (fun G => rfl) (bpX10_count_0_0 x S p1 r S' hm)
set_option maxHeartbeats 4000000 in
set_option maxRecDepth 20000 in
theorem bpX10_status_0_0 (x : XT)  (S : ST)  (r : Int32) (S' : ST) (hm : bfX10_status_0_0 x  S  = some (r, S')) : Ev mX10_status 1 0 0 0 [some (.ref 0)] [] (mkS x S) (fun v h => v = some (.int r) ∧ h = mkS x S') := by
    unfold bfX10_status_0_0 at hm
    refine Ev.steps tokX10_status 2 (P := True) (pc' := 4) (lv' := [some (.ref 0)]) (st' := [.int (S.1 0 12)]) (h' := mkS x S) rfl trivial ?_
    cases hm
    exact Ev.reti tokX10_status rfl rfl ⟨rfl, rfl⟩
theorem gpX10_status_0 (x : XT) (S : ST)  (r : Int32) (S' : ST) (hm : gfX10_status_0 x S  = some (r, S')) : Ct mX10_status 1 0 0 [.ref 0] (mkS x S) (fun v h => v = some (.int r) ∧ h = mkS x S') :=
  Ct.of (lv := [some (.ref 0)]) rfl rfl rfl (show (_ : Nat) ≤ _ from Nat.le_of_ble_eq_true rfl) (fun G => rfl) (bpX10_status_0_0 x S  r S' hm)
set_option maxHeartbeats 4000000 in
set_option maxRecDepth 20000 in
theorem bpX11_lies_15 (x : XT)  (S : ST) (t0 : Int32) (r : Int32) (S' : ST) (hm : bfX11_lies_15 x  S t0 = some (r, S')) : Ev mX11_lies 1 0 0 15 [none, none, none] [.int t0] (mkS x S) (fun v h => v = some (.int r) ∧ h = mkS x S') := by
    unfold bfX11_lies_15 at hm
    obtain ⟨o1, hm⟩ := oblk hm
    cases hm
    exact Ev.retz tokX11_lies rfl rfl (bbz_ok o1) ⟨rfl, rfl⟩
set_option maxHeartbeats 4000000 in
set_option maxRecDepth 20000 in
theorem bpX11_lies_14 (x : XT)  (S : ST)  (r : Int32) (S' : ST) (hm : bfX11_lies_14 x  S  = some (r, S')) : Ev mX11_lies 1 0 0 14 [none, none, none] [] (mkS x S) (fun v h => v = some (.int r) ∧ h = mkS x S') := by
    unfold bfX11_lies_14 at hm
    refine Ev.steps tokX11_lies 1 (P := True) (pc' := 15) (lv' := [none, none, none]) (st' := [.int 0]) (h' := mkS x S) rfl trivial ?_
    exact bpX11_lies_15 x S 0 _ _ hm
set_option maxHeartbeats 4000000 in
set_option maxRecDepth 20000 in
theorem bpX11_lies_0 (x : XT)  (S : ST) (p0 : Int32) (p1 : Int32) (p2 : Int32) (r : Int32) (S' : ST) (hm : bfX11_lies_0 x  S p0 p1 p2 = some (r, S')) : Ev mX11_lies 1 0 0 0 [some (.int p0), some (.int p1), some (.int p2)] [] (mkS x S) (fun v h => v = some (.int r) ∧ h = mkS x S') := by
    unfold bfX11_lies_0 at hm
    refine Ev.steps tokX11_lies 3 (P := True) (pc' := if p0 < p1 then 14 else 5) (lv' := [some (.int p0), some (.int p1), some (.int p2)]) (st' := []) (h' := mkS x S) rfl trivial ?_
    refine Ev.ite (fun c1 => ?_) (fun c1 => ?_)
    · rw [if_pos c1] at hm
      refine Ev.fgt (lv' := [none, none, none]) trivial ?_
      exact bpX11_lies_14 x S _ _ hm
    · rw [if_neg c1] at hm
      refine Ev.steps tokX11_lies 3 (P := True) (pc' := if p2 < p0 then 14 else 10) (lv' := [some (.int p0), some (.int p1), some (.int p2)]) (st' := []) (h' := mkS x S) rfl trivial ?_
      refine Ev.ite (fun c2 => ?_) (fun c2 => ?_)
      · rw [if_pos c2] at hm
        refine Ev.fgt (lv' := [none, none, none]) trivial ?_
        exact bpX11_lies_14 x S _ _ hm
      · rw [if_neg c2] at hm
        refine Ev.steps tokX11_lies 2 (P := True) (pc' := 15) (lv' := [some (.int p0), some (.int p1), some (.int p2)]) (st' := [.int 1]) (h' := mkS x S) rfl trivial ?_
        refine Ev.fgt (lv' := [none, none, none]) trivial ?_
        exact bpX11_lies_15 x S 1 _ _ hm
theorem gpX11_lies (x : XT) (S : ST) (p0 : Int32) (p1 : Int32) (p2 : Int32) (r : Int32) (S' : ST) (hm : gfX11_lies x S p0 p1 p2 = some (r, S')) : Ct mX11_lies 1 0 0 [.int p0, .int p1, .int p2] (mkS x S) (fun v h => v = some (.int r) ∧ h = mkS x S') :=
  Ct.of (lv := [some (.int p0), some (.int p1), some (.int p2)]) rfl rfl rfl (show (_ : Nat) ≤ _ from Nat.le_of_ble_eq_true rfl) (fun G => rfl) (bpX11_lies_0 x S p0 p1 p2 r S' hm)
set_option maxHeartbeats 4000000 in
set_option maxRecDepth 20000 in
theorem bpX11_lesser_10 (x : XT)  (S : ST) (t0 : Int32) (r : Int32) (S' : ST) (hm : bfX11_lesser_10 x  S t0 = some (r, S')) : Ev mX11_lesser 1 0 0 10 [none, none] [.int t0] (mkS x S) (fun v h => v = some (.int r) ∧ h = mkS x S') := by
    unfold bfX11_lesser_10 at hm
    cases hm
    exact Ev.reti tokX11_lesser rfl rfl ⟨rfl, rfl⟩
set_option maxHeartbeats 4000000 in
set_option maxRecDepth 20000 in
theorem bpX11_lesser_0 (x : XT)  (S : ST) (p0 : Int32) (p1 : Int32) (r : Int32) (S' : ST) (hm : bfX11_lesser_0 x  S p0 p1 = some (r, S')) : Ev mX11_lesser 1 0 0 0 [some (.int p0), some (.int p1)] [] (mkS x S) (fun v h => v = some (.int r) ∧ h = mkS x S') := by
    unfold bfX11_lesser_0 at hm
    refine Ev.steps tokX11_lesser 3 (P := True) (pc' := if p1 ≤ p0 then 9 else 5) (lv' := [some (.int p0), some (.int p1)]) (st' := []) (h' := mkS x S) rfl trivial ?_
    refine Ev.ite (fun c1 => ?_) (fun c1 => ?_)
    · rw [if_pos c1] at hm
      refine Ev.steps tokX11_lesser 1 (P := True) (pc' := 10) (lv' := [some (.int p0), some (.int p1)]) (st' := [.int p1]) (h' := mkS x S) rfl trivial ?_
      refine Ev.fgt (lv' := [none, none]) trivial ?_
      exact bpX11_lesser_10 x S p1 _ _ hm
    · rw [if_neg c1] at hm
      refine Ev.steps tokX11_lesser 2 (P := True) (pc' := 10) (lv' := [some (.int p0), some (.int p1)]) (st' := [.int p0]) (h' := mkS x S) rfl trivial ?_
      refine Ev.fgt (lv' := [none, none]) trivial ?_
      exact bpX11_lesser_10 x S p0 _ _ hm
theorem gpX11_lesser (x : XT) (S : ST) (p0 : Int32) (p1 : Int32) (r : Int32) (S' : ST) (hm : gfX11_lesser x S p0 p1 = some (r, S')) : Ct mX11_lesser 1 0 0 [.int p0, .int p1] (mkS x S) (fun v h => v = some (.int r) ∧ h = mkS x S') :=
  Ct.of (lv := [some (.int p0), some (.int p1)]) rfl rfl rfl (show (_ : Nat) ≤ _ from Nat.le_of_ble_eq_true rfl) (fun G => rfl) (bpX11_lesser_0 x S p0 p1 r S' hm)
set_option maxHeartbeats 4000000 in
set_option maxRecDepth 20000 in
theorem bpX11_greater_10 (x : XT)  (S : ST) (t0 : Int32) (r : Int32) (S' : ST) (hm : bfX11_greater_10 x  S t0 = some (r, S')) : Ev mX11_greater 1 0 0 10 [none, none] [.int t0] (mkS x S) (fun v h => v = some (.int r) ∧ h = mkS x S') := by
    unfold bfX11_greater_10 at hm
    cases hm
    exact Ev.reti tokX11_greater rfl rfl ⟨rfl, rfl⟩
set_option maxHeartbeats 4000000 in
set_option maxRecDepth 20000 in
theorem bpX11_greater_0 (x : XT)  (S : ST) (p0 : Int32) (p1 : Int32) (r : Int32) (S' : ST) (hm : bfX11_greater_0 x  S p0 p1 = some (r, S')) : Ev mX11_greater 1 0 0 0 [some (.int p0), some (.int p1)] [] (mkS x S) (fun v h => v = some (.int r) ∧ h = mkS x S') := by
    unfold bfX11_greater_0 at hm
    refine Ev.steps tokX11_greater 3 (P := True) (pc' := if p0 ≤ p1 then 9 else 5) (lv' := [some (.int p0), some (.int p1)]) (st' := []) (h' := mkS x S) rfl trivial ?_
    refine Ev.ite (fun c1 => ?_) (fun c1 => ?_)
    · rw [if_pos c1] at hm
      refine Ev.steps tokX11_greater 1 (P := True) (pc' := 10) (lv' := [some (.int p0), some (.int p1)]) (st' := [.int p1]) (h' := mkS x S) rfl trivial ?_
      refine Ev.fgt (lv' := [none, none]) trivial ?_
      exact bpX11_greater_10 x S p1 _ _ hm
    · rw [if_neg c1] at hm
      refine Ev.steps tokX11_greater 2 (P := True) (pc' := 10) (lv' := [some (.int p0), some (.int p1)]) (st' := [.int p0]) (h' := mkS x S) rfl trivial ?_
      refine Ev.fgt (lv' := [none, none]) trivial ?_
      exact bpX11_greater_10 x S p0 _ _ hm
theorem gpX11_greater (x : XT) (S : ST) (p0 : Int32) (p1 : Int32) (r : Int32) (S' : ST) (hm : gfX11_greater x S p0 p1 = some (r, S')) : Ct mX11_greater 1 0 0 [.int p0, .int p1] (mkS x S) (fun v h => v = some (.int r) ∧ h = mkS x S') :=
  Ct.of (lv := [some (.int p0), some (.int p1)]) rfl rfl rfl (show (_ : Nat) ≤ _ from Nat.le_of_ble_eq_true rfl) (fun G => rfl) (bpX11_greater_0 x S p0 p1 r S' hm)
set_option maxHeartbeats 4000000 in
set_option maxRecDepth 20000 in
theorem bpX11_refuses_130_0 (x : XT)  (S : ST) (p1 : Int32) (r : Int32) (S' : ST) (hm : bfX11_refuses_130_0 x  S p1 = some (r, S')) : Ev mX11_refuses 1 0 0 0 [some (.ref 130), some (.int p1)] [] (mkS x S) (fun v h => v = some (.int r) ∧ h = mkS x S') := by
    unfold bfX11_refuses_130_0 at hm
    obtain ⟨o1, hm⟩ := oblk hm
    obtain ⟨o2, hm⟩ := oblk hm
    refine Ev.steps tokX11_refuses 13 (P := vp_in (-p1) 7 ∧ vp_in (-p1) 7 ∧ True) (pc' := 17) (lv' := [some (.ref 130), some (.int p1)]) (st' := [.int p1]) (h' := mkS x ((u2 S.1 130 0 p1), (u2 S.2.1 131 ((-p1).toNatClampNeg) ((S.2.1 131 ((-p1).toNatClampNeg)) + 1)), S.2.2.1, S.2.2.2)) rfl ⟨inb_ok o1, inb_ok o2, trivial⟩ ?_
    cases hm
    exact Ev.reti tokX11_refuses rfl rfl ⟨rfl, rfl⟩
theorem gpX11_refuses_130 (x : XT) (S : ST) (p1 : Int32) (r : Int32) (S' : ST) (hm : gfX11_refuses_130 x S p1 = some (r, S')) : Ct mX11_refuses 1 0 0 [.ref 130, .int p1] (mkS x S) (fun v h => v = some (.int r) ∧ h = mkS x S') :=
  Ct.of (lv := [some (.ref 130), some (.int p1)]) rfl rfl rfl (show (_ : Nat) ≤ _ from Nat.le_of_ble_eq_true rfl) (fun G => rfl) (bpX11_refuses_130_0 x S p1 r S' hm)
set_option maxHeartbeats 4000000 in
set_option maxRecDepth 20000 in
theorem bpX11_good_130_0 (x : XT)  (S : ST) (p1 : Int32) (r : Int32) (S' : ST) (hm : bfX11_good_130_0 x  S p1 = some (r, S')) : Ev mX11_good 1 0 0 0 [some (.ref 130), some (.int p1)] [] (mkS x S) (fun v h => v = some (.int r) ∧ h = mkS x S') := by
    unfold bfX11_good_130_0 at hm
    refine Ev.steps tokX11_good 4 (P := True) (pc' := 6) (lv' := [some (.ref 130), some (.int p1)]) (st' := [.int p1]) (h' := mkS x ((u2 S.1 130 0 0), S.2.1, S.2.2.1, S.2.2.2)) rfl trivial ?_
    cases hm
    exact Ev.reti tokX11_good rfl rfl ⟨rfl, rfl⟩
theorem gpX11_good_130 (x : XT) (S : ST) (p1 : Int32) (r : Int32) (S' : ST) (hm : gfX11_good_130 x S p1 = some (r, S')) : Ct mX11_good 1 0 0 [.ref 130, .int p1] (mkS x S) (fun v h => v = some (.int r) ∧ h = mkS x S') :=
  Ct.of (lv := [some (.ref 130), some (.int p1)]) rfl rfl rfl (show (_ : Nat) ≤ _ from Nat.le_of_ble_eq_true rfl) (fun G => rfl) (bpX11_good_130_0 x S p1 r S' hm)
set_option maxHeartbeats 4000000 in
set_option maxRecDepth 20000 in
theorem bpX11_settled_130_0 (x : XT)  (S : ST) (p1 : Int32) (r : Int32) (S' : ST) (hm : bfX11_settled_130_0 x  S p1 = some (r, S')) : Ev mX11_settled 2 0 0 0 [some (.ref 130), some (.int p1)] [] (mkS x S) (fun v h => v = some (.int r) ∧ h = mkS x S') := by
    unfold bfX11_settled_130_0 at hm
    refine Ev.steps tokX11_settled 5 (P := True) (pc' := 7) (lv' := [some (.ref 130), some (.int p1)]) (st' := [.int p1, .ref 130]) (h' := mkS x ((u2 S.1 130 31 0), S.2.1, S.2.2.1, S.2.2.2)) rfl trivial ?_
    cases h1 : gfX11_good_130 x ((u2 S.1 130 31 0), S.2.1, S.2.2.1, S.2.2.2) p1 with
    | none => rw [h1] at hm; cases hm
    | some q2 =>
      obtain ⟨r3, S4⟩ := q2
      rw [h1] at hm
      dsimp only at hm
      refine ev_callV (N := mX11_good) (d' := 1) (bc := 0) (bs := 0) (bc' := 0) (bs' := 0) (as := [.int p1]) (rest := []) (a := 130) (ci := 11) (dcd tokX11_settled rfl) okX11_good inX11_good seX11_good lk11_14 rfl (by decide) (Nat.le_of_ble_eq_true rfl) rfl ⟨by decide, rfl⟩ (gpX11_good_130 x ((u2 S.1 130 31 0), S.2.1, S.2.2.1, S.2.2.2) p1 _ _ h1) (fun v h' hq hn => ?_)
      obtain ⟨rfl, rfl⟩ := hq
      cases hm
      exact Ev.reti tokX11_settled rfl rfl ⟨rfl, rfl⟩
theorem gpX11_settled_130 (x : XT) (S : ST) (p1 : Int32) (r : Int32) (S' : ST) (hm : gfX11_settled_130 x S p1 = some (r, S')) : Ct mX11_settled 2 0 0 [.ref 130, .int p1] (mkS x S) (fun v h => v = some (.int r) ∧ h = mkS x S') :=
  Ct.of (lv := [some (.ref 130), some (.int p1)]) rfl rfl rfl (show (_ : Nat) ≤ _ from Nat.le_of_ble_eq_true rfl) (fun G => rfl) (bpX11_settled_130_0 x S p1 r S' hm)
set_option maxHeartbeats 4000000 in
set_option maxRecDepth 20000 in
theorem bpX11_isIn_14 (x : XT)  (S : ST) (t0 : Int32) (r : Int32) (S' : ST) (hm : bfX11_isIn_14 x  S t0 = some (r, S')) : Ev mX11_isIn 1 0 0 14 [none, none] [.int t0] (mkS x S) (fun v h => v = some (.int r) ∧ h = mkS x S') := by
    unfold bfX11_isIn_14 at hm
    obtain ⟨o1, hm⟩ := oblk hm
    cases hm
    exact Ev.retz tokX11_isIn rfl rfl (bbz_ok o1) ⟨rfl, rfl⟩
set_option maxHeartbeats 4000000 in
set_option maxRecDepth 20000 in
theorem bpX11_isIn_0 (x : XT)  (S : ST) (p0 : Int32) (p1 : Int32) (r : Int32) (S' : ST) (hm : bfX11_isIn_0 x  S p0 p1 = some (r, S')) : Ev mX11_isIn 1 0 0 0 [some (.int p0), some (.int p1)] [] (mkS x S) (fun v h => v = some (.int r) ∧ h = mkS x S') := by
    unfold bfX11_isIn_0 at hm
    refine Ev.steps tokX11_isIn 7 (P := True) (pc' := if ¬ ((p0 >>> (p1 &&& 31)) &&& 1) = 1 then 13 else 9) (lv' := [some (.int p0), some (.int p1)]) (st' := []) (h' := mkS x S) rfl trivial ?_
    refine Ev.ite (fun c1 => ?_) (fun c1 => ?_)
    · rw [if_pos c1] at hm
      refine Ev.steps tokX11_isIn 1 (P := True) (pc' := 14) (lv' := [some (.int p0), some (.int p1)]) (st' := [.int 0]) (h' := mkS x S) rfl trivial ?_
      refine Ev.fgt (lv' := [none, none]) trivial ?_
      exact bpX11_isIn_14 x S 0 _ _ hm
    · rw [if_neg c1] at hm
      refine Ev.steps tokX11_isIn 2 (P := True) (pc' := 14) (lv' := [some (.int p0), some (.int p1)]) (st' := [.int 1]) (h' := mkS x S) rfl trivial ?_
      refine Ev.fgt (lv' := [none, none]) trivial ?_
      exact bpX11_isIn_14 x S 1 _ _ hm
theorem gpX11_isIn (x : XT) (S : ST) (p0 : Int32) (p1 : Int32) (r : Int32) (S' : ST) (hm : gfX11_isIn x S p0 p1 = some (r, S')) : Ct mX11_isIn 1 0 0 [.int p0, .int p1] (mkS x S) (fun v h => v = some (.int r) ∧ h = mkS x S') :=
  Ct.of (lv := [some (.int p0), some (.int p1)]) rfl rfl rfl (show (_ : Nat) ≤ _ from Nat.le_of_ble_eq_true rfl) (fun G => rfl) (bpX11_isIn_0 x S p0 p1 r S' hm)
set_option maxHeartbeats 4000000 in
set_option maxRecDepth 20000 in
theorem bpX11_ones_4 (x : XT) (k4 : ST → Int32 → Int32 → Int32 → Option (Int32 × ST)) (hk4 : ∀ (S : ST) (v0 : Int32) (v1 : Int32) (v2 : Int32) (r : Int32) (S' : ST), k4 S v0 v1 v2 = some (r, S') → Ev mX11_ones 1 0 0 4 [some (.int v0), some (.int v1), some (.int v2)] [] (mkS x S) (fun v h => v = some (.int r) ∧ h = mkS x S')) (S : ST) (v0 : Int32) (v1 : Int32) (v2 : Int32) (r : Int32) (S' : ST) (hm : bfX11_ones_4 x k4 S v0 v1 v2 = some (r, S')) : Ev mX11_ones 1 0 0 4 [some (.int v0), some (.int v1), some (.int v2)] [] (mkS x S) (fun v h => v = some (.int r) ∧ h = mkS x S') := by
    unfold bfX11_ones_4 at hm
    refine Ev.steps tokX11_ones 3 (P := True) (pc' := if 10 ≤ v2 then 24 else 10) (lv' := [some (.int v0), some (.int v1), some (.int v2)]) (st' := []) (h' := mkS x S) rfl trivial ?_
    refine Ev.ite (fun c1 => ?_) (fun c1 => ?_)
    · rw [if_pos c1] at hm
      refine Ev.steps tokX11_ones 1 (P := True) (pc' := 25) (lv' := [some (.int v0), some (.int v1), some (.int v2)]) (st' := [.int v1]) (h' := mkS x S) rfl trivial ?_
      cases hm
      exact Ev.reti tokX11_ones rfl rfl ⟨rfl, rfl⟩
    · rw [if_neg c1] at hm
      refine Ev.steps tokX11_ones 10 (P := True) (pc' := 4) (lv' := [some (.int v0), some (.int (v1 + ((v0 >>> (v2 &&& 31)) &&& 1))), some (.int (v2 + 1))]) (st' := []) (h' := mkS x S) rfl trivial ?_
      exact hk4 S v0 (v1 + ((v0 >>> (v2 &&& 31)) &&& 1)) (v2 + 1) _ _ hm
theorem lpX11_ones_4 (x : XT)  : ∀ (n : Nat) (S : ST) (v0 : Int32) (v1 : Int32) (v2 : Int32) (r : Int32) (S' : ST), lfX11_ones_4 x  n S v0 v1 v2 = some (r, S') → Ev mX11_ones 1 0 0 4 [some (.int v0), some (.int v1), some (.int v2)] [] (mkS x S) (fun v h => v = some (.int r) ∧ h = mkS x S')
  | 0, _, _, _, _, _, _, hm => by cases hm
  | n + 1, S, v0, v1, v2, r, S', hm => bpX11_ones_4 x (lfX11_ones_4 x  n) (lpX11_ones_4 x  n) S v0 v1 v2 r S' hm
set_option maxHeartbeats 4000000 in
set_option maxRecDepth 20000 in
theorem bpX11_ones_0 (x : XT)  (S : ST) (p0 : Int32) (r : Int32) (S' : ST) (hm : bfX11_ones_0 x  S p0 = some (r, S')) : Ev mX11_ones 1 0 0 0 [some (.int p0), none, none] [] (mkS x S) (fun v h => v = some (.int r) ∧ h = mkS x S') := by
    unfold bfX11_ones_0 at hm
    refine Ev.steps tokX11_ones 4 (P := True) (pc' := 4) (lv' := [some (.int p0), some (.int 0), some (.int 0)]) (st' := []) (h' := mkS x S) rfl trivial ?_
    exact lpX11_ones_4 x  20000 S p0 0 0 _ _ hm
theorem gpX11_ones (x : XT) (S : ST) (p0 : Int32) (r : Int32) (S' : ST) (hm : gfX11_ones x S p0 = some (r, S')) : Ct mX11_ones 1 0 0 [.int p0] (mkS x S) (fun v h => v = some (.int r) ∧ h = mkS x S') :=
  Ct.of (lv := [some (.int p0), none, none]) rfl rfl rfl (show (_ : Nat) ≤ _ from Nat.le_of_ble_eq_true rfl) (fun G => rfl) (bpX11_ones_0 x S p0 r S' hm)
set_option maxHeartbeats 4000000 in
set_option maxRecDepth 20000 in
theorem bpX11_isPark_0 (x : XT)  (S : ST) (p0 : Int32) (r : Int32) (S' : ST) (hm : bfX11_isPark_0 x  S p0 = some (r, S')) : Ev mX11_isPark 2 0 0 0 [some (.int p0)] [] (mkS x S) (fun v h => v = some (.int r) ∧ h = mkS x S') := by
    unfold bfX11_isPark_0 at hm
    refine Ev.steps tokX11_isPark 3 (P := True) (pc' := 3) (lv' := [some (.int p0)]) (st' := [.int 5, .int 0, .int p0]) (h' := mkS x S) rfl trivial ?_
    cases h1 : gfX11_lies x S p0 0 5 with
    | none => rw [h1] at hm; cases hm
    | some q2 =>
      obtain ⟨r3, S4⟩ := q2
      rw [h1] at hm
      dsimp only at hm
      refine ev_callS (N := mX11_lies) (d' := 1) (bc := 0) (bs := 0) (bc' := 0) (bs' := 0) (as := [.int p0, .int 0, .int 5]) (rest := []) (dcd tokX11_isPark rfl) okX11_lies inX11_lies lk11_18 rfl (by decide) (Nat.le_of_ble_eq_true rfl) (gpX11_lies x S p0 0 5 _ _ h1) (fun v h' hq hn => ?_)
      obtain ⟨rfl, rfl⟩ := hq
      obtain ⟨o5, hm⟩ := oblk hm
      cases hm
      exact Ev.retz tokX11_isPark rfl rfl (bbz_ok o5) ⟨rfl, rfl⟩
theorem gpX11_isPark (x : XT) (S : ST) (p0 : Int32) (r : Int32) (S' : ST) (hm : gfX11_isPark x S p0 = some (r, S')) : Ct mX11_isPark 2 0 0 [.int p0] (mkS x S) (fun v h => v = some (.int r) ∧ h = mkS x S') :=
  Ct.of (lv := [some (.int p0)]) rfl rfl rfl (show (_ : Nat) ≤ _ from Nat.le_of_ble_eq_true rfl) (fun G => rfl) (bpX11_isPark_0 x S p0 r S' hm)
set_option maxHeartbeats 4000000 in
set_option maxRecDepth 20000 in
theorem bpX11_isMany_0 (x : XT)  (S : ST) (p0 : Int32) (r : Int32) (S' : ST) (hm : bfX11_isMany_0 x  S p0 = some (r, S')) : Ev mX11_isMany 2 0 0 0 [some (.int p0)] [] (mkS x S) (fun v h => v = some (.int r) ∧ h = mkS x S') := by
    unfold bfX11_isMany_0 at hm
    refine Ev.steps tokX11_isMany 3 (P := True) (pc' := 4) (lv' := [some (.int p0)]) (st' := [.int 19, .int 0, .int p0]) (h' := mkS x S) rfl trivial ?_
    cases h1 : gfX11_lies x S p0 0 19 with
    | none => rw [h1] at hm; cases hm
    | some q2 =>
      obtain ⟨r3, S4⟩ := q2
      rw [h1] at hm
      dsimp only at hm
      refine ev_callS (N := mX11_lies) (d' := 1) (bc := 0) (bs := 0) (bc' := 0) (bs' := 0) (as := [.int p0, .int 0, .int 19]) (rest := []) (dcd tokX11_isMany rfl) okX11_lies inX11_lies lk11_18 rfl (by decide) (Nat.le_of_ble_eq_true rfl) (gpX11_lies x S p0 0 19 _ _ h1) (fun v h' hq hn => ?_)
      obtain ⟨rfl, rfl⟩ := hq
      obtain ⟨o5, hm⟩ := oblk hm
      cases hm
      exact Ev.retz tokX11_isMany rfl rfl (bbz_ok o5) ⟨rfl, rfl⟩
theorem gpX11_isMany (x : XT) (S : ST) (p0 : Int32) (r : Int32) (S' : ST) (hm : gfX11_isMany x S p0 = some (r, S')) : Ct mX11_isMany 2 0 0 [.int p0] (mkS x S) (fun v h => v = some (.int r) ∧ h = mkS x S') :=
  Ct.of (lv := [some (.int p0)]) rfl rfl rfl (show (_ : Nat) ≤ _ from Nat.le_of_ble_eq_true rfl) (fun G => rfl) (bpX11_isMany_0 x S p0 r S' hm)
set_option maxHeartbeats 4000000 in
set_option maxRecDepth 20000 in
theorem bpX11_isArm_0 (x : XT)  (S : ST) (p0 : Int32) (r : Int32) (S' : ST) (hm : bfX11_isArm_0 x  S p0 = some (r, S')) : Ev mX11_isArm 2 0 0 0 [some (.int p0)] [] (mkS x S) (fun v h => v = some (.int r) ∧ h = mkS x S') := by
    unfold bfX11_isArm_0 at hm
    refine Ev.steps tokX11_isArm 3 (P := True) (pc' := 4) (lv' := [some (.int p0)]) (st' := [.int 9, .int 0, .int p0]) (h' := mkS x S) rfl trivial ?_
    cases h1 : gfX11_lies x S p0 0 9 with
    | none => rw [h1] at hm; cases hm
    | some q2 =>
      obtain ⟨r3, S4⟩ := q2
      rw [h1] at hm
      dsimp only at hm
      refine ev_callS (N := mX11_lies) (d' := 1) (bc := 0) (bs := 0) (bc' := 0) (bs' := 0) (as := [.int p0, .int 0, .int 9]) (rest := []) (dcd tokX11_isArm rfl) okX11_lies inX11_lies lk11_18 rfl (by decide) (Nat.le_of_ble_eq_true rfl) (gpX11_lies x S p0 0 9 _ _ h1) (fun v h' hq hn => ?_)
      obtain ⟨rfl, rfl⟩ := hq
      obtain ⟨o5, hm⟩ := oblk hm
      cases hm
      exact Ev.retz tokX11_isArm rfl rfl (bbz_ok o5) ⟨rfl, rfl⟩
theorem gpX11_isArm (x : XT) (S : ST) (p0 : Int32) (r : Int32) (S' : ST) (hm : gfX11_isArm x S p0 = some (r, S')) : Ct mX11_isArm 2 0 0 [.int p0] (mkS x S) (fun v h => v = some (.int r) ∧ h = mkS x S') :=
  Ct.of (lv := [some (.int p0)]) rfl rfl rfl (show (_ : Nat) ≤ _ from Nat.le_of_ble_eq_true rfl) (fun G => rfl) (bpX11_isArm_0 x S p0 r S' hm)
set_option maxHeartbeats 4000000 in
set_option maxRecDepth 20000 in
theorem bpX11_laysAside_130_2 (x : XT) (k2 : ST → Int32 → Int32 → Option (Unit × ST)) (hk2 : ∀ (S : ST) (v1 : Int32) (v2 : Int32) (r : Unit) (S' : ST), k2 S v1 v2 = some (r, S') → Ev mX11_laysAside 1 0 0 2 [some (.ref 130), some (.int v1), some (.int v2)] [] (mkS x S) (fun v h => v = none ∧ h = mkS x S')) (S : ST) (v1 : Int32) (v2 : Int32) (r : Unit) (S' : ST) (hm : bfX11_laysAside_130_2 x k2 S v1 v2 = some (r, S')) : Ev mX11_laysAside 1 0 0 2 [some (.ref 130), some (.int v1), some (.int v2)] [] (mkS x S) (fun v h => v = none ∧ h = mkS x S') := by
    unfold bfX11_laysAside_130_2 at hm
    refine Ev.steps tokX11_laysAside 3 (P := True) (pc' := if 36 ≤ v2 then 31 else 8) (lv' := [some (.ref 130), some (.int v1), some (.int v2)]) (st' := []) (h' := mkS x S) rfl trivial ?_
    refine Ev.ite (fun c1 => ?_) (fun c1 => ?_)
    · rw [if_pos c1] at hm
      cases hm
      exact Ev.retv tokX11_laysAside rfl rfl ⟨rfl, rfl⟩
    · rw [if_neg c1] at hm
      obtain ⟨o2, hm⟩ := oblk hm
      obtain ⟨o3, hm⟩ := oblk hm
      refine Ev.steps tokX11_laysAside 14 (P := vp_in v2 5703 ∧ vp_in ((36 * v1) + v2) 72 ∧ True) (pc' := 2) (lv' := [some (.ref 130), some (.int v1), some (.int (v2 + 1))]) (st' := []) (h' := mkS x (S.1, (u2 S.2.1 135 (((36 * v1) + v2).toNatClampNeg) (S.2.1 132 v2.toNatClampNeg)), S.2.2.1, S.2.2.2)) rfl ⟨inb_ok o2, inb_ok o3, trivial⟩ ?_
      exact hk2 (S.1, (u2 S.2.1 135 (((36 * v1) + v2).toNatClampNeg) (S.2.1 132 v2.toNatClampNeg)), S.2.2.1, S.2.2.2) v1 (v2 + 1) _ _ hm
theorem lpX11_laysAside_130_2 (x : XT)  : ∀ (n : Nat) (S : ST) (v1 : Int32) (v2 : Int32) (r : Unit) (S' : ST), lfX11_laysAside_130_2 x  n S v1 v2 = some (r, S') → Ev mX11_laysAside 1 0 0 2 [some (.ref 130), some (.int v1), some (.int v2)] [] (mkS x S) (fun v h => v = none ∧ h = mkS x S')
  | 0, _, _, _, _, _, hm => by cases hm
  | n + 1, S, v1, v2, r, S', hm => bpX11_laysAside_130_2 x (lfX11_laysAside_130_2 x  n) (lpX11_laysAside_130_2 x  n) S v1 v2 r S' hm
set_option maxHeartbeats 4000000 in
set_option maxRecDepth 20000 in
theorem bpX11_laysAside_130_0 (x : XT)  (S : ST) (p1 : Int32) (r : Unit) (S' : ST) (hm : bfX11_laysAside_130_0 x  S p1 = some (r, S')) : Ev mX11_laysAside 1 0 0 0 [some (.ref 130), some (.int p1), none] [] (mkS x S) (fun v h => v = none ∧ h = mkS x S') := by
    unfold bfX11_laysAside_130_0 at hm
    refine Ev.steps tokX11_laysAside 2 (P := True) (pc' := 2) (lv' := [some (.ref 130), some (.int p1), some (.int 0)]) (st' := []) (h' := mkS x S) rfl trivial ?_
    exact lpX11_laysAside_130_2 x  20000 S p1 0 _ _ hm
theorem gpX11_laysAside_130 (x : XT) (S : ST) (p1 : Int32) (r : Unit) (S' : ST) (hm : gfX11_laysAside_130 x S p1 = some (r, S')) : Ct mX11_laysAside 1 0 0 [.ref 130, .int p1] (mkS x S) (fun v h => v = none ∧ h = mkS x S') :=
  Ct.of (lv := [some (.ref 130), some (.int p1), none]) rfl rfl rfl (show (_ : Nat) ≤ _ from Nat.le_of_ble_eq_true rfl) (fun G => rfl) (bpX11_laysAside_130_0 x S p1 r S' hm)
set_option maxHeartbeats 4000000 in
set_option maxRecDepth 20000 in
theorem bpX11_takesBack_130_2 (x : XT) (k2 : ST → Int32 → Int32 → Option (Unit × ST)) (hk2 : ∀ (S : ST) (v1 : Int32) (v2 : Int32) (r : Unit) (S' : ST), k2 S v1 v2 = some (r, S') → Ev mX11_takesBack 1 0 0 2 [some (.ref 130), some (.int v1), some (.int v2)] [] (mkS x S) (fun v h => v = none ∧ h = mkS x S')) (S : ST) (v1 : Int32) (v2 : Int32) (r : Unit) (S' : ST) (hm : bfX11_takesBack_130_2 x k2 S v1 v2 = some (r, S')) : Ev mX11_takesBack 1 0 0 2 [some (.ref 130), some (.int v1), some (.int v2)] [] (mkS x S) (fun v h => v = none ∧ h = mkS x S') := by
    unfold bfX11_takesBack_130_2 at hm
    refine Ev.steps tokX11_takesBack 3 (P := True) (pc' := if 36 ≤ v2 then 31 else 8) (lv' := [some (.ref 130), some (.int v1), some (.int v2)]) (st' := []) (h' := mkS x S) rfl trivial ?_
    refine Ev.ite (fun c1 => ?_) (fun c1 => ?_)
    · rw [if_pos c1] at hm
      cases hm
      exact Ev.retv tokX11_takesBack rfl rfl ⟨rfl, rfl⟩
    · rw [if_neg c1] at hm
      obtain ⟨o2, hm⟩ := oblk hm
      obtain ⟨o3, hm⟩ := oblk hm
      refine Ev.steps tokX11_takesBack 14 (P := vp_in ((36 * v1) + v2) 72 ∧ vp_in v2 5703 ∧ True) (pc' := 2) (lv' := [some (.ref 130), some (.int v1), some (.int (v2 + 1))]) (st' := []) (h' := mkS x (S.1, (u2 S.2.1 132 v2.toNatClampNeg (S.2.1 135 (((36 * v1) + v2).toNatClampNeg))), S.2.2.1, S.2.2.2)) rfl ⟨inb_ok o2, inb_ok o3, trivial⟩ ?_
      exact hk2 (S.1, (u2 S.2.1 132 v2.toNatClampNeg (S.2.1 135 (((36 * v1) + v2).toNatClampNeg))), S.2.2.1, S.2.2.2) v1 (v2 + 1) _ _ hm
theorem lpX11_takesBack_130_2 (x : XT)  : ∀ (n : Nat) (S : ST) (v1 : Int32) (v2 : Int32) (r : Unit) (S' : ST), lfX11_takesBack_130_2 x  n S v1 v2 = some (r, S') → Ev mX11_takesBack 1 0 0 2 [some (.ref 130), some (.int v1), some (.int v2)] [] (mkS x S) (fun v h => v = none ∧ h = mkS x S')
  | 0, _, _, _, _, _, hm => by cases hm
  | n + 1, S, v1, v2, r, S', hm => bpX11_takesBack_130_2 x (lfX11_takesBack_130_2 x  n) (lpX11_takesBack_130_2 x  n) S v1 v2 r S' hm
set_option maxHeartbeats 4000000 in
set_option maxRecDepth 20000 in
theorem bpX11_takesBack_130_0 (x : XT)  (S : ST) (p1 : Int32) (r : Unit) (S' : ST) (hm : bfX11_takesBack_130_0 x  S p1 = some (r, S')) : Ev mX11_takesBack 1 0 0 0 [some (.ref 130), some (.int p1), none] [] (mkS x S) (fun v h => v = none ∧ h = mkS x S') := by
    unfold bfX11_takesBack_130_0 at hm
    refine Ev.steps tokX11_takesBack 2 (P := True) (pc' := 2) (lv' := [some (.ref 130), some (.int p1), some (.int 0)]) (st' := []) (h' := mkS x S) rfl trivial ?_
    exact lpX11_takesBack_130_2 x  20000 S p1 0 _ _ hm
theorem gpX11_takesBack_130 (x : XT) (S : ST) (p1 : Int32) (r : Unit) (S' : ST) (hm : gfX11_takesBack_130 x S p1 = some (r, S')) : Ct mX11_takesBack 1 0 0 [.ref 130, .int p1] (mkS x S) (fun v h => v = none ∧ h = mkS x S') :=
  Ct.of (lv := [some (.ref 130), some (.int p1), none]) rfl rfl rfl (show (_ : Nat) ≤ _ from Nat.le_of_ble_eq_true rfl) (fun G => rfl) (bpX11_takesBack_130_0 x S p1 r S' hm)
set_option maxHeartbeats 4000000 in
set_option maxRecDepth 20000 in
theorem bpX11_image_130_17 (x : XT) (k17 : ST → Int32 → Int32 → Option (Int32 × ST)) (hk17 : ∀ (S : ST) (v1 : Int32) (v2 : Int32) (r : Int32) (S' : ST), k17 S v1 v2 = some (r, S') → Ev mX11_image 2 0 0 17 [some (.ref 130), some (.int v1), some (.int v2)] [] (mkS x S) (fun v h => v = some (.int r) ∧ h = mkS x S')) (S : ST) (v1 : Int32) (v2 : Int32) (r : Int32) (S' : ST) (hm : bfX11_image_130_17 x k17 S v1 v2 = some (r, S')) : Ev mX11_image 2 0 0 17 [some (.ref 130), some (.int v1), some (.int v2)] [] (mkS x S) (fun v h => v = some (.int r) ∧ h = mkS x S') := by
    unfold bfX11_image_130_17 at hm
    refine Ev.steps tokX11_image 3 (P := True) (pc' := if 5703 ≤ v2 then 48 else 24) (lv' := [some (.ref 130), some (.int v1), some (.int v2)]) (st' := []) (h' := mkS x S) rfl trivial ?_
    refine Ev.ite (fun c1 => ?_) (fun c1 => ?_)
    · rw [if_pos c1] at hm
      obtain ⟨o2, hm⟩ := oblk hm
      refine Ev.steps tokX11_image 7 (P := vp_in v1 2 ∧ True) (pc' := 57) (lv' := [some (.ref 130), some (.int v1), some (.int v2)]) (st' := [.int 0, .ref 130]) (h' := mkS x (S.1, (u2 S.2.1 134 v1.toNatClampNeg (vp_nar .boolean 1)), S.2.2.1, S.2.2.2)) rfl ⟨inb_ok o2, trivial⟩ ?_
      cases h3 : gfX11_good_130 x (S.1, (u2 S.2.1 134 v1.toNatClampNeg (vp_nar .boolean 1)), S.2.2.1, S.2.2.2) 0 with
      | none => rw [h3] at hm; cases hm
      | some q4 =>
        obtain ⟨r5, S6⟩ := q4
        rw [h3] at hm
        dsimp only at hm
        refine ev_callV (N := mX11_good) (d' := 1) (bc := 0) (bs := 0) (bc' := 0) (bs' := 0) (as := [.int 0]) (rest := []) (a := 130) (ci := 11) (dcd tokX11_image rfl) okX11_good inX11_good seX11_good lk11_14 rfl (by decide) (Nat.le_of_ble_eq_true rfl) rfl ⟨by decide, rfl⟩ (gpX11_good_130 x (S.1, (u2 S.2.1 134 v1.toNatClampNeg (vp_nar .boolean 1)), S.2.2.1, S.2.2.2) 0 _ _ h3) (fun v h' hq hn => ?_)
        obtain ⟨rfl, rfl⟩ := hq
        cases hm
        exact Ev.reti tokX11_image rfl rfl ⟨rfl, rfl⟩
    · rw [if_neg c1] at hm
      obtain ⟨o7, hm⟩ := oblk hm
      obtain ⟨o8, hm⟩ := oblk hm
      refine Ev.steps tokX11_image 14 (P := vp_in v2 5703 ∧ vp_in ((5703 * v1) + v2) 11406 ∧ True) (pc' := 17) (lv' := [some (.ref 130), some (.int v1), some (.int (v2 + 1))]) (st' := []) (h' := mkS x (S.1, (u2 S.2.1 133 (((5703 * v1) + v2).toNatClampNeg) (S.2.1 132 v2.toNatClampNeg)), S.2.2.1, S.2.2.2)) rfl ⟨inb_ok o7, inb_ok o8, trivial⟩ ?_
      exact hk17 (S.1, (u2 S.2.1 133 (((5703 * v1) + v2).toNatClampNeg) (S.2.1 132 v2.toNatClampNeg)), S.2.2.1, S.2.2.2) v1 (v2 + 1) _ _ hm
theorem lpX11_image_130_17 (x : XT)  : ∀ (n : Nat) (S : ST) (v1 : Int32) (v2 : Int32) (r : Int32) (S' : ST), lfX11_image_130_17 x  n S v1 v2 = some (r, S') → Ev mX11_image 2 0 0 17 [some (.ref 130), some (.int v1), some (.int v2)] [] (mkS x S) (fun v h => v = some (.int r) ∧ h = mkS x S')
  | 0, _, _, _, _, _, hm => by cases hm
  | n + 1, S, v1, v2, r, S', hm => bpX11_image_130_17 x (lfX11_image_130_17 x  n) (lpX11_image_130_17 x  n) S v1 v2 r S' hm
set_option maxHeartbeats 4000000 in
set_option maxRecDepth 20000 in
theorem bpX11_image_130_0 (x : XT)  (S : ST) (p1 : Int32) (r : Int32) (S' : ST) (hm : bfX11_image_130_0 x  S p1 = some (r, S')) : Ev mX11_image 2 0 0 0 [some (.ref 130), some (.int p1), none] [] (mkS x S) (fun v h => v = some (.int r) ∧ h = mkS x S') := by
    unfold bfX11_image_130_0 at hm
    refine Ev.steps tokX11_image 3 (P := True) (pc' := 3) (lv' := [some (.ref 130), some (.int p1), none]) (st' := [.int 1, .int 0, .int p1]) (h' := mkS x S) rfl trivial ?_
    cases h1 : gfX11_lies x S p1 0 1 with
    | none => rw [h1] at hm; cases hm
    | some q2 =>
      obtain ⟨r3, S4⟩ := q2
      rw [h1] at hm
      dsimp only at hm
      refine ev_callS (N := mX11_lies) (d' := 1) (bc := 0) (bs := 0) (bc' := 0) (bs' := 0) (as := [.int p1, .int 0, .int 1]) (rest := []) (dcd tokX11_image rfl) okX11_lies inX11_lies lk11_18 rfl (by decide) (Nat.le_of_ble_eq_true rfl) (gpX11_lies x S p1 0 1 _ _ h1) (fun v h' hq hn => ?_)
      obtain ⟨rfl, rfl⟩ := hq
      refine Ev.steps tokX11_image 1 (P := True) (pc' := if ¬ r3 = 0 then 15 else 9) (lv' := [some (.ref 130), some (.int p1), none]) (st' := []) (h' := mkS x S4) rfl trivial ?_
      refine Ev.ite (fun c5 => ?_) (fun c5 => ?_)
      · rw [if_pos c5] at hm
        refine Ev.steps tokX11_image 2 (P := True) (pc' := 17) (lv' := [some (.ref 130), some (.int p1), some (.int 0)]) (st' := []) (h' := mkS x S4) rfl trivial ?_
        exact lpX11_image_130_17 x  20000 S4 p1 0 _ _ hm
      · rw [if_neg c5] at hm
        refine Ev.steps tokX11_image 2 (P := True) (pc' := 11) (lv' := [some (.ref 130), some (.int p1), none]) (st' := [.int (-1), .ref 130]) (h' := mkS x S4) rfl trivial ?_
        cases h6 : gfX11_refuses_130 x S4 (-1) with
        | none => rw [h6] at hm; cases hm
        | some q7 =>
          obtain ⟨r8, S9⟩ := q7
          rw [h6] at hm
          dsimp only at hm
          refine ev_callV (N := mX11_refuses) (d' := 1) (bc := 0) (bs := 0) (bc' := 0) (bs' := 0) (as := [.int (-1)]) (rest := []) (a := 130) (ci := 11) (dcd tokX11_image rfl) okX11_refuses inX11_refuses seX11_refuses lk11_118 rfl (by decide) (Nat.le_of_ble_eq_true rfl) rfl ⟨by decide, rfl⟩ (gpX11_refuses_130 x S4 (-1) _ _ h6) (fun v h' hq hn => ?_)
          obtain ⟨rfl, rfl⟩ := hq
          cases hm
          exact Ev.reti tokX11_image rfl rfl ⟨rfl, rfl⟩
theorem gpX11_image_130 (x : XT) (S : ST) (p1 : Int32) (r : Int32) (S' : ST) (hm : gfX11_image_130 x S p1 = some (r, S')) : Ct mX11_image 2 0 0 [.ref 130, .int p1] (mkS x S) (fun v h => v = some (.int r) ∧ h = mkS x S') :=
  Ct.of (lv := [some (.ref 130), some (.int p1), none]) rfl rfl rfl (show (_ : Nat) ≤ _ from Nat.le_of_ble_eq_true rfl) (fun G => rfl) (bpX11_image_130_0 x S p1 r S' hm)
set_option maxHeartbeats 4000000 in
set_option maxRecDepth 20000 in
theorem bpX11_back_130_33 (x : XT) (k33 : ST → Int32 → Int32 → Option (Int32 × ST)) (hk33 : ∀ (S : ST) (v1 : Int32) (v2 : Int32) (r : Int32) (S' : ST), k33 S v1 v2 = some (r, S') → Ev mX11_back 3 0 0 33 [some (.ref 130), some (.int v1), some (.int v2)] [] (mkS x S) (fun v h => v = some (.int r) ∧ h = mkS x S')) (S : ST) (v1 : Int32) (v2 : Int32) (r : Int32) (S' : ST) (hm : bfX11_back_130_33 x k33 S v1 v2 = some (r, S')) : Ev mX11_back 3 0 0 33 [some (.ref 130), some (.int v1), some (.int v2)] [] (mkS x S) (fun v h => v = some (.int r) ∧ h = mkS x S') := by
    unfold bfX11_back_130_33 at hm
    refine Ev.steps tokX11_back 3 (P := True) (pc' := if 5703 ≤ v2 then 64 else 40) (lv' := [some (.ref 130), some (.int v1), some (.int v2)]) (st' := []) (h' := mkS x S) rfl trivial ?_
    refine Ev.ite (fun c1 => ?_) (fun c1 => ?_)
    · rw [if_pos c1] at hm
      refine Ev.steps tokX11_back 2 (P := True) (pc' := 66) (lv' := [some (.ref 130), some (.int v1), some (.int v2)]) (st' := [.int 0, .ref 130]) (h' := mkS x S) rfl trivial ?_
      cases h2 : gfX11_settled_130 x S 0 with
      | none => rw [h2] at hm; cases hm
      | some q3 =>
        obtain ⟨r4, S5⟩ := q3
        rw [h2] at hm
        dsimp only at hm
        refine ev_callV (N := mX11_settled) (d' := 2) (bc := 0) (bs := 0) (bc' := 0) (bs' := 0) (as := [.int 0]) (rest := []) (a := 130) (ci := 11) (dcd tokX11_back rfl) okX11_settled inX11_settled seX11_settled lk11_121 rfl (by decide) (Nat.le_of_ble_eq_true rfl) rfl ⟨by decide, rfl⟩ (gpX11_settled_130 x S 0 _ _ h2) (fun v h' hq hn => ?_)
        obtain ⟨rfl, rfl⟩ := hq
        cases hm
        exact Ev.reti tokX11_back rfl rfl ⟨rfl, rfl⟩
    · rw [if_neg c1] at hm
      obtain ⟨o6, hm⟩ := oblk hm
      obtain ⟨o7, hm⟩ := oblk hm
      refine Ev.steps tokX11_back 14 (P := vp_in ((5703 * v1) + v2) 11406 ∧ vp_in v2 5703 ∧ True) (pc' := 33) (lv' := [some (.ref 130), some (.int v1), some (.int (v2 + 1))]) (st' := []) (h' := mkS x (S.1, (u2 S.2.1 132 v2.toNatClampNeg (S.2.1 133 (((5703 * v1) + v2).toNatClampNeg))), S.2.2.1, S.2.2.2)) rfl ⟨inb_ok o6, inb_ok o7, trivial⟩ ?_
      exact hk33 (S.1, (u2 S.2.1 132 v2.toNatClampNeg (S.2.1 133 (((5703 * v1) + v2).toNatClampNeg))), S.2.2.1, S.2.2.2) v1 (v2 + 1) _ _ hm
theorem lpX11_back_130_33 (x : XT)  : ∀ (n : Nat) (S : ST) (v1 : Int32) (v2 : Int32) (r : Int32) (S' : ST), lfX11_back_130_33 x  n S v1 v2 = some (r, S') → Ev mX11_back 3 0 0 33 [some (.ref 130), some (.int v1), some (.int v2)] [] (mkS x S) (fun v h => v = some (.int r) ∧ h = mkS x S')
  | 0, _, _, _, _, _, hm => by cases hm
  | n + 1, S, v1, v2, r, S', hm => bpX11_back_130_33 x (lfX11_back_130_33 x  n) (lpX11_back_130_33 x  n) S v1 v2 r S' hm
set_option maxHeartbeats 4000000 in
set_option maxRecDepth 20000 in
theorem bpX11_back_130_0 (x : XT)  (S : ST) (p1 : Int32) (r : Int32) (S' : ST) (hm : bfX11_back_130_0 x  S p1 = some (r, S')) : Ev mX11_back 3 0 0 0 [some (.ref 130), some (.int p1), none] [] (mkS x S) (fun v h => v = some (.int r) ∧ h = mkS x S') := by
    unfold bfX11_back_130_0 at hm
    refine Ev.steps tokX11_back 3 (P := True) (pc' := 3) (lv' := [some (.ref 130), some (.int p1), none]) (st' := [.int 1, .int 0, .int p1]) (h' := mkS x S) rfl trivial ?_
    cases h1 : gfX11_lies x S p1 0 1 with
    | none => rw [h1] at hm; cases hm
    | some q2 =>
      obtain ⟨r3, S4⟩ := q2
      rw [h1] at hm
      dsimp only at hm
      refine ev_callS (N := mX11_lies) (d' := 1) (bc := 0) (bs := 0) (bc' := 0) (bs' := 0) (as := [.int p1, .int 0, .int 1]) (rest := []) (dcd tokX11_back rfl) okX11_lies inX11_lies lk11_18 rfl (by decide) (Nat.le_of_ble_eq_true rfl) (gpX11_lies x S p1 0 1 _ _ h1) (fun v h' hq hn => ?_)
      obtain ⟨rfl, rfl⟩ := hq
      refine Ev.steps tokX11_back 1 (P := True) (pc' := if ¬ r3 = 0 then 15 else 9) (lv' := [some (.ref 130), some (.int p1), none]) (st' := []) (h' := mkS x S4) rfl trivial ?_
      refine Ev.ite (fun c5 => ?_) (fun c5 => ?_)
      · rw [if_pos c5] at hm
        obtain ⟨o6, hm⟩ := oblk hm
        refine Ev.steps tokX11_back 5 (P := vp_in p1 2 ∧ True) (pc' := if ¬ (S4.2.1 134 p1.toNatClampNeg) = 0 then 31 else 24) (lv' := [some (.ref 130), some (.int p1), none]) (st' := []) (h' := mkS x S4) rfl ⟨inb_ok o6, trivial⟩ ?_
        refine Ev.ite (fun c7 => ?_) (fun c7 => ?_)
        · rw [if_pos c7] at hm
          refine Ev.steps tokX11_back 2 (P := True) (pc' := 33) (lv' := [some (.ref 130), some (.int p1), some (.int 0)]) (st' := []) (h' := mkS x S4) rfl trivial ?_
          exact lpX11_back_130_33 x  20000 S4 p1 0 _ _ hm
        · rw [if_neg c7] at hm
          refine Ev.steps tokX11_back 2 (P := True) (pc' := 27) (lv' := [some (.ref 130), some (.int p1), none]) (st' := [.int (-2), .ref 130]) (h' := mkS x S4) rfl trivial ?_
          cases h8 : gfX11_refuses_130 x S4 (-2) with
          | none => rw [h8] at hm; cases hm
          | some q9 =>
            obtain ⟨r10, S11⟩ := q9
            rw [h8] at hm
            dsimp only at hm
            refine ev_callV (N := mX11_refuses) (d' := 1) (bc := 0) (bs := 0) (bc' := 0) (bs' := 0) (as := [.int (-2)]) (rest := []) (a := 130) (ci := 11) (dcd tokX11_back rfl) okX11_refuses inX11_refuses seX11_refuses lk11_118 rfl (by decide) (Nat.le_of_ble_eq_true rfl) rfl ⟨by decide, rfl⟩ (gpX11_refuses_130 x S4 (-2) _ _ h8) (fun v h' hq hn => ?_)
            obtain ⟨rfl, rfl⟩ := hq
            cases hm
            exact Ev.reti tokX11_back rfl rfl ⟨rfl, rfl⟩
      · rw [if_neg c5] at hm
        refine Ev.steps tokX11_back 2 (P := True) (pc' := 11) (lv' := [some (.ref 130), some (.int p1), none]) (st' := [.int (-1), .ref 130]) (h' := mkS x S4) rfl trivial ?_
        cases h12 : gfX11_refuses_130 x S4 (-1) with
        | none => rw [h12] at hm; cases hm
        | some q13 =>
          obtain ⟨r14, S15⟩ := q13
          rw [h12] at hm
          dsimp only at hm
          refine ev_callV (N := mX11_refuses) (d' := 1) (bc := 0) (bs := 0) (bc' := 0) (bs' := 0) (as := [.int (-1)]) (rest := []) (a := 130) (ci := 11) (dcd tokX11_back rfl) okX11_refuses inX11_refuses seX11_refuses lk11_118 rfl (by decide) (Nat.le_of_ble_eq_true rfl) rfl ⟨by decide, rfl⟩ (gpX11_refuses_130 x S4 (-1) _ _ h12) (fun v h' hq hn => ?_)
          obtain ⟨rfl, rfl⟩ := hq
          cases hm
          exact Ev.reti tokX11_back rfl rfl ⟨rfl, rfl⟩
theorem gpX11_back_130 (x : XT) (S : ST) (p1 : Int32) (r : Int32) (S' : ST) (hm : gfX11_back_130 x S p1 = some (r, S')) : Ct mX11_back 3 0 0 [.ref 130, .int p1] (mkS x S) (fun v h => v = some (.int r) ∧ h = mkS x S') :=
  Ct.of (lv := [some (.ref 130), some (.int p1), none]) rfl rfl rfl (show (_ : Nat) ≤ _ from Nat.le_of_ble_eq_true rfl) (fun G => rfl) (bpX11_back_130_0 x S p1 r S' hm)
set_option maxHeartbeats 4000000 in
set_option maxRecDepth 20000 in
theorem bpX11_gateMany_130_0 (x : XT)  (S : ST)  (r : Int32) (S' : ST) (hm : bfX11_gateMany_130_0 x  S  = some (r, S')) : Ev mX11_gateMany 1 0 0 0 [some (.ref 130)] [] (mkS x S) (fun v h => v = some (.int r) ∧ h = mkS x S') := by
    unfold bfX11_gateMany_130_0 at hm
    refine Ev.steps tokX11_gateMany 4 (P := vp_in 91 5703 ∧ True) (pc' := 7) (lv' := [some (.ref 130)]) (st' := [.int (S.2.1 132 91)]) (h' := mkS x S) rfl ⟨(by unfold vp_in; decide), trivial⟩ ?_
    cases hm
    exact Ev.reti tokX11_gateMany rfl rfl ⟨rfl, rfl⟩
theorem gpX11_gateMany_130 (x : XT) (S : ST)  (r : Int32) (S' : ST) (hm : gfX11_gateMany_130 x S  = some (r, S')) : Ct mX11_gateMany 1 0 0 [.ref 130] (mkS x S) (fun v h => v = some (.int r) ∧ h = mkS x S') :=
  Ct.of (lv := [some (.ref 130)]) rfl rfl rfl (show (_ : Nat) ≤ _ from Nat.le_of_ble_eq_true rfl) (fun G => rfl) (bpX11_gateMany_130_0 x S  r S' hm)
set_option maxHeartbeats 4000000 in
set_option maxRecDepth 20000 in
theorem bpX11_isGate_130_0 (x : XT)  (S : ST) (p1 : Int32) (r : Int32) (S' : ST) (hm : bfX11_isGate_130_0 x  S p1 = some (r, S')) : Ev mX11_isGate 2 0 0 0 [some (.ref 130), some (.int p1)] [] (mkS x S) (fun v h => v = some (.int r) ∧ h = mkS x S') := by
    unfold bfX11_isGate_130_0 at hm
    refine Ev.steps tokX11_isGate 3 (P := True) (pc' := 3) (lv' := [some (.ref 130), some (.int p1)]) (st' := [.ref 130, .int 0, .int p1]) (h' := mkS x S) rfl trivial ?_
    cases h1 : gfX11_gateMany_130 x S with
    | none => rw [h1] at hm; cases hm
    | some q2 =>
      obtain ⟨r3, S4⟩ := q2
      rw [h1] at hm
      dsimp only at hm
      refine ev_callV (N := mX11_gateMany) (d' := 1) (bc := 0) (bs := 0) (bc' := 0) (bs' := 0) (as := []) (rest := [.int 0, .int p1]) (a := 130) (ci := 11) (dcd tokX11_isGate rfl) okX11_gateMany inX11_gateMany seX11_gateMany lk11_124 rfl (by decide) (Nat.le_of_ble_eq_true rfl) rfl ⟨by decide, rfl⟩ (gpX11_gateMany_130 x S _ _ h1) (fun v h' hq hn => ?_)
      obtain ⟨rfl, rfl⟩ := hq
      refine Ev.steps tokX11_isGate 2 (P := True) (pc' := 8) (lv' := [some (.ref 130), some (.int p1)]) (st' := [.int (r3 - 1), .int 0, .int p1]) (h' := mkS x S4) rfl trivial ?_
      cases h5 : gfX11_lies x S4 p1 0 (r3 - 1) with
      | none => rw [h5] at hm; cases hm
      | some q6 =>
        obtain ⟨r7, S8⟩ := q6
        rw [h5] at hm
        dsimp only at hm
        refine ev_callS (N := mX11_lies) (d' := 1) (bc := 0) (bs := 0) (bc' := 0) (bs' := 0) (as := [.int p1, .int 0, .int (r3 - 1)]) (rest := []) (dcd tokX11_isGate rfl) okX11_lies inX11_lies lk11_18 rfl (by decide) (Nat.le_of_ble_eq_true rfl) (gpX11_lies x S4 p1 0 (r3 - 1) _ _ h5) (fun v h' hq hn => ?_)
        obtain ⟨rfl, rfl⟩ := hq
        obtain ⟨o9, hm⟩ := oblk hm
        cases hm
        exact Ev.retz tokX11_isGate rfl rfl (bbz_ok o9) ⟨rfl, rfl⟩
theorem gpX11_isGate_130 (x : XT) (S : ST) (p1 : Int32) (r : Int32) (S' : ST) (hm : gfX11_isGate_130 x S p1 = some (r, S')) : Ct mX11_isGate 2 0 0 [.ref 130, .int p1] (mkS x S) (fun v h => v = some (.int r) ∧ h = mkS x S') :=
  Ct.of (lv := [some (.ref 130), some (.int p1)]) rfl rfl rfl (show (_ : Nat) ≤ _ from Nat.le_of_ble_eq_true rfl) (fun G => rfl) (bpX11_isGate_130_0 x S p1 r S' hm)
set_option maxHeartbeats 4000000 in
set_option maxRecDepth 20000 in
theorem bpX11_isGoer_130_0 (x : XT)  (S : ST) (p1 : Int32) (r : Int32) (S' : ST) (hm : bfX11_isGoer_130_0 x  S p1 = some (r, S')) : Ev mX11_isGoer 2 0 0 0 [some (.ref 130), some (.int p1)] [] (mkS x S) (fun v h => v = some (.int r) ∧ h = mkS x S') := by
    unfold bfX11_isGoer_130_0 at hm
    refine Ev.steps tokX11_isGoer 8 (P := vp_in 92 5703 ∧ True) (pc' := 11) (lv' := [some (.ref 130), some (.int p1)]) (st' := [.int ((S.2.1 132 92) - 1), .int 0, .int p1]) (h' := mkS x S) rfl ⟨(by unfold vp_in; decide), trivial⟩ ?_
    cases h1 : gfX11_lies x S p1 0 ((S.2.1 132 92) - 1) with
    | none => rw [h1] at hm; cases hm
    | some q2 =>
      obtain ⟨r3, S4⟩ := q2
      rw [h1] at hm
      dsimp only at hm
      refine ev_callS (N := mX11_lies) (d' := 1) (bc := 0) (bs := 0) (bc' := 0) (bs' := 0) (as := [.int p1, .int 0, .int ((S.2.1 132 92) - 1)]) (rest := []) (dcd tokX11_isGoer rfl) okX11_lies inX11_lies lk11_18 rfl (by decide) (Nat.le_of_ble_eq_true rfl) (gpX11_lies x S p1 0 ((S.2.1 132 92) - 1) _ _ h1) (fun v h' hq hn => ?_)
      obtain ⟨rfl, rfl⟩ := hq
      obtain ⟨o5, hm⟩ := oblk hm
      cases hm
      exact Ev.retz tokX11_isGoer rfl rfl (bbz_ok o5) ⟨rfl, rfl⟩
theorem gpX11_isGoer_130 (x : XT) (S : ST) (p1 : Int32) (r : Int32) (S' : ST) (hm : gfX11_isGoer_130 x S p1 = some (r, S')) : Ct mX11_isGoer 2 0 0 [.ref 130, .int p1] (mkS x S) (fun v h => v = some (.int r) ∧ h = mkS x S') :=
  Ct.of (lv := [some (.ref 130), some (.int p1)]) rfl rfl rfl (show (_ : Nat) ≤ _ from Nat.le_of_ble_eq_true rfl) (fun G => rfl) (bpX11_isGoer_130_0 x S p1 r S' hm)
set_option maxHeartbeats 4000000 in
set_option maxRecDepth 20000 in
theorem bpX11_canGate_36 (x : XT)  (S : ST) (t0 : Int32) (r : Int32) (S' : ST) (hm : bfX11_canGate_36 x  S t0 = some (r, S')) : Ev mX11_canGate 3 0 0 36 [none, none, none, none] [.int t0] (mkS x S) (fun v h => v = some (.int r) ∧ h = mkS x S') := by
    unfold bfX11_canGate_36 at hm
    obtain ⟨o1, hm⟩ := oblk hm
    cases hm
    exact Ev.retz tokX11_canGate rfl rfl (bbz_ok o1) ⟨rfl, rfl⟩
set_option maxHeartbeats 4000000 in
set_option maxRecDepth 20000 in
theorem bpX11_canGate_35 (x : XT)  (S : ST)  (r : Int32) (S' : ST) (hm : bfX11_canGate_35 x  S  = some (r, S')) : Ev mX11_canGate 3 0 0 35 [none, none, none, none] [] (mkS x S) (fun v h => v = some (.int r) ∧ h = mkS x S') := by
    unfold bfX11_canGate_35 at hm
    refine Ev.steps tokX11_canGate 1 (P := True) (pc' := 36) (lv' := [none, none, none, none]) (st' := [.int 0]) (h' := mkS x S) rfl trivial ?_
    exact bpX11_canGate_36 x S 0 _ _ hm
set_option maxHeartbeats 4000000 in
set_option maxRecDepth 20000 in
theorem bpX11_canGate_0 (x : XT)  (S : ST) (p0 : Int32) (p1 : Int32) (p2 : Int32) (p3 : Int32) (r : Int32) (S' : ST) (hm : bfX11_canGate_0 x  S p0 p1 p2 p3 = some (r, S')) : Ev mX11_canGate 3 0 0 0 [some (.int p0), some (.int p1), some (.int p2), some (.int p3)] [] (mkS x S) (fun v h => v = some (.int r) ∧ h = mkS x S') := by
    unfold bfX11_canGate_0 at hm
    refine Ev.steps tokX11_canGate 1 (P := True) (pc' := 1) (lv' := [some (.int p0), some (.int p1), some (.int p2), some (.int p3)]) (st' := [.int p0]) (h' := mkS x S) rfl trivial ?_
    cases h1 : gfX11_isPark x S p0 with
    | none => rw [h1] at hm; cases hm
    | some q2 =>
      obtain ⟨r3, S4⟩ := q2
      rw [h1] at hm
      dsimp only at hm
      refine ev_callS (N := mX11_isPark) (d' := 2) (bc := 0) (bs := 0) (bc' := 0) (bs' := 0) (as := [.int p0]) (rest := []) (dcd tokX11_canGate rfl) okX11_isPark inX11_isPark lk11_128 rfl (by decide) (Nat.le_of_ble_eq_true rfl) (gpX11_isPark x S p0 _ _ h1) (fun v h' hq hn => ?_)
      obtain ⟨rfl, rfl⟩ := hq
      refine Ev.steps tokX11_canGate 1 (P := True) (pc' := if r3 = 0 then 35 else 7) (lv' := [some (.int p0), some (.int p1), some (.int p2), some (.int p3)]) (st' := []) (h' := mkS x S4) rfl trivial ?_
      refine Ev.ite (fun c5 => ?_) (fun c5 => ?_)
      · rw [if_pos c5] at hm
        refine Ev.fgt (lv' := [none, none, none, none]) trivial ?_
        exact bpX11_canGate_35 x S4 _ _ hm
      · rw [if_neg c5] at hm
        refine Ev.steps tokX11_canGate 1 (P := True) (pc' := 8) (lv' := [some (.int p0), some (.int p1), some (.int p2), some (.int p3)]) (st' := [.int p1]) (h' := mkS x S4) rfl trivial ?_
        cases h6 : gfX11_isPark x S4 p1 with
        | none => rw [h6] at hm; cases hm
        | some q7 =>
          obtain ⟨r8, S9⟩ := q7
          rw [h6] at hm
          dsimp only at hm
          refine ev_callS (N := mX11_isPark) (d' := 2) (bc := 0) (bs := 0) (bc' := 0) (bs' := 0) (as := [.int p1]) (rest := []) (dcd tokX11_canGate rfl) okX11_isPark inX11_isPark lk11_128 rfl (by decide) (Nat.le_of_ble_eq_true rfl) (gpX11_isPark x S4 p1 _ _ h6) (fun v h' hq hn => ?_)
          obtain ⟨rfl, rfl⟩ := hq
          refine Ev.steps tokX11_canGate 1 (P := True) (pc' := if r8 = 0 then 35 else 14) (lv' := [some (.int p0), some (.int p1), some (.int p2), some (.int p3)]) (st' := []) (h' := mkS x S9) rfl trivial ?_
          refine Ev.ite (fun c10 => ?_) (fun c10 => ?_)
          · rw [if_pos c10] at hm
            refine Ev.fgt (lv' := [none, none, none, none]) trivial ?_
            exact bpX11_canGate_35 x S9 _ _ hm
          · rw [if_neg c10] at hm
            refine Ev.steps tokX11_canGate 3 (P := True) (pc' := 18) (lv' := [some (.int p0), some (.int p1), some (.int p2), some (.int p3)]) (st' := [.int 7, .int 0, .int p2]) (h' := mkS x S9) rfl trivial ?_
            cases h11 : gfX11_lies x S9 p2 0 7 with
            | none => rw [h11] at hm; cases hm
            | some q12 =>
              obtain ⟨r13, S14⟩ := q12
              rw [h11] at hm
              dsimp only at hm
              refine ev_callS (N := mX11_lies) (d' := 1) (bc := 0) (bs := 0) (bc' := 0) (bs' := 0) (as := [.int p2, .int 0, .int 7]) (rest := []) (dcd tokX11_canGate rfl) okX11_lies inX11_lies lk11_18 rfl (by decide) (Nat.le_of_ble_eq_true rfl) (gpX11_lies x S9 p2 0 7 _ _ h11) (fun v h' hq hn => ?_)
              obtain ⟨rfl, rfl⟩ := hq
              refine Ev.steps tokX11_canGate 1 (P := True) (pc' := if r13 = 0 then 35 else 24) (lv' := [some (.int p0), some (.int p1), some (.int p2), some (.int p3)]) (st' := []) (h' := mkS x S14) rfl trivial ?_
              refine Ev.ite (fun c15 => ?_) (fun c15 => ?_)
              · rw [if_pos c15] at hm
                refine Ev.fgt (lv' := [none, none, none, none]) trivial ?_
                exact bpX11_canGate_35 x S14 _ _ hm
              · rw [if_neg c15] at hm
                refine Ev.steps tokX11_canGate 1 (P := True) (pc' := 25) (lv' := [some (.int p0), some (.int p1), some (.int p2), some (.int p3)]) (st' := [.int p3]) (h' := mkS x S14) rfl trivial ?_
                cases h16 : gfX11_isArm x S14 p3 with
                | none => rw [h16] at hm; cases hm
                | some q17 =>
                  obtain ⟨r18, S19⟩ := q17
                  rw [h16] at hm
                  dsimp only at hm
                  refine ev_callS (N := mX11_isArm) (d' := 2) (bc := 0) (bs := 0) (bc' := 0) (bs' := 0) (as := [.int p3]) (rest := []) (dcd tokX11_canGate rfl) okX11_isArm inX11_isArm lk11_132 rfl (by decide) (Nat.le_of_ble_eq_true rfl) (gpX11_isArm x S14 p3 _ _ h16) (fun v h' hq hn => ?_)
                  obtain ⟨rfl, rfl⟩ := hq
                  refine Ev.steps tokX11_canGate 1 (P := True) (pc' := if r18 = 0 then 35 else 31) (lv' := [some (.int p0), some (.int p1), some (.int p2), some (.int p3)]) (st' := []) (h' := mkS x S19) rfl trivial ?_
                  refine Ev.ite (fun c20 => ?_) (fun c20 => ?_)
                  · rw [if_pos c20] at hm
                    refine Ev.fgt (lv' := [none, none, none, none]) trivial ?_
                    exact bpX11_canGate_35 x S19 _ _ hm
                  · rw [if_neg c20] at hm
                    refine Ev.steps tokX11_canGate 2 (P := True) (pc' := 36) (lv' := [some (.int p0), some (.int p1), some (.int p2), some (.int p3)]) (st' := [.int 1]) (h' := mkS x S19) rfl trivial ?_
                    refine Ev.fgt (lv' := [none, none, none, none]) trivial ?_
                    exact bpX11_canGate_36 x S19 1 _ _ hm
theorem gpX11_canGate (x : XT) (S : ST) (p0 : Int32) (p1 : Int32) (p2 : Int32) (p3 : Int32) (r : Int32) (S' : ST) (hm : gfX11_canGate x S p0 p1 p2 p3 = some (r, S')) : Ct mX11_canGate 3 0 0 [.int p0, .int p1, .int p2, .int p3] (mkS x S) (fun v h => v = some (.int r) ∧ h = mkS x S') :=
  Ct.of (lv := [some (.int p0), some (.int p1), some (.int p2), some (.int p3)]) rfl rfl rfl (show (_ : Nat) ≤ _ from Nat.le_of_ble_eq_true rfl) (fun G => rfl) (bpX11_canGate_0 x S p0 p1 p2 p3 r S' hm)
end MIR
