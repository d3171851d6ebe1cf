section MIR
set_option maxHeartbeats 4000000 in
set_option maxRecDepth 20000 in
theorem bpX11_manys_130_15 (x : XT)  (S : ST)  (r : Int32) (S' : ST) (hm : bfX11_manys_130_15 x  S  = some (r, S')) : Ev mX11_manys 128 0 0 15 [none, none, none, none, none] [] (mkS x S) (fun v h => v = some (.int r) ∧ h = mkS x S') := by
    unfold bfX11_manys_130_15 at hm
    refine Ev.steps tokX11_manys 1 (P := True) (pc' := 16) (lv' := [none, none, none, none, none]) (st' := [.int (-1)]) (h' := mkS x S) rfl trivial ?_
    cases hm
    exact Ev.reti tokX11_manys rfl rfl ⟨rfl, rfl⟩
set_option maxHeartbeats 4000000 in
set_option maxRecDepth 20000 in
theorem bpX11_manys_130_70 (x : XT) (k37 : ST → Int32 → Int32 → Int32 → Option (Int32 × ST)) (hk37 : ∀ (S : ST) (v2 : Int32) (v3 : Int32) (v4 : Int32) (r : Int32) (S' : ST), k37 S v2 v3 v4 = some (r, S') → Ev mX11_manys 128 0 0 37 [some (.ref 130), none, some (.int v2), some (.int v3), some (.int v4)] [] (mkS x S) (fun v h => v = some (.int r) ∧ h = mkS x S')) (S : ST) (v2 : Int32) (v4 : Int32) (t0 : Int32) (t1 : Int32) (r : Int32) (S' : ST) (hm : bfX11_manys_130_70 x k37 S v2 v4 t0 t1 = some (r, S')) : Ev mX11_manys 128 0 0 70 [some (.ref 130), none, some (.int v2), none, some (.int v4)] [.int t1, .int t0] (mkS x S) (fun v h => v = some (.int r) ∧ h = mkS x S') := by
    unfold bfX11_manys_130_70 at hm
    refine Ev.steps tokX11_manys 4 (P := True) (pc' := 37) (lv' := [some (.ref 130), none, some (.int v2), some (.int (t0 ||| t1)), some (.int (v4 + 1))]) (st' := []) (h' := mkS x S) rfl trivial ?_
    exact hk37 S v2 (t0 ||| t1) (v4 + 1) _ _ hm
set_option maxHeartbeats 4000000 in
set_option maxRecDepth 20000 in
theorem bpX11_manys_130_37 (x : XT) (k37 : ST → Int32 → Int32 → Int32 → Option (Int32 × ST)) (hk37 : ∀ (S : ST) (v2 : Int32) (v3 : Int32) (v4 : Int32) (r : Int32) (S' : ST), k37 S v2 v3 v4 = some (r, S') → Ev mX11_manys 128 0 0 37 [some (.ref 130), none, some (.int v2), some (.int v3), some (.int v4)] [] (mkS x S) (fun v h => v = some (.int r) ∧ h = mkS x S')) (S : ST) (v2 : Int32) (v3 : Int32) (v4 : Int32) (r : Int32) (S' : ST) (hm : bfX11_manys_130_37 x k37 S v2 v3 v4 = some (r, S')) : Ev mX11_manys 128 0 0 37 [some (.ref 130), none, some (.int v2), some (.int v3), some (.int v4)] [] (mkS x S) (fun v h => v = some (.int r) ∧ h = mkS x S') := by
    unfold bfX11_manys_130_37 at hm
    refine Ev.steps tokX11_manys 3 (P := True) (pc' := if 20 ≤ v4 then 78 else 44) (lv' := [some (.ref 130), none, some (.int v2), some (.int v3), some (.int v4)]) (st' := []) (h' := mkS x S) rfl trivial ?_
    refine Ev.ite (fun c1 => ?_) (fun c1 => ?_)
    · rw [if_pos c1] at hm
      refine Ev.steps tokX11_manys 1 (P := True) (pc' := 79) (lv' := [some (.ref 130), none, some (.int v2), some (.int v3), some (.int v4)]) (st' := [.int v3]) (h' := mkS x S) rfl trivial ?_
      cases hm
      exact Ev.reti tokX11_manys rfl rfl ⟨rfl, rfl⟩
    · rw [if_neg c1] at hm
      obtain ⟨o2, hm⟩ := oblk hm
      refine Ev.steps tokX11_manys 11 (P := vp_in ((20 * v2) + v4) 120 ∧ True) (pc' := if 1000000 ≤ (S.2.1 148 (((20 * v2) + v4).toNatClampNeg)) then 69 else 62) (lv' := [some (.ref 130), none, some (.int v2), some (.int v3), some (.int v4)]) (st' := [.int v3]) (h' := mkS x S) rfl ⟨inb_ok o2, trivial⟩ ?_
      refine Ev.ite (fun c3 => ?_) (fun c3 => ?_)
      · rw [if_pos c3] at hm
        refine Ev.steps tokX11_manys 1 (P := True) (pc' := 70) (lv' := [some (.ref 130), none, some (.int v2), some (.int v3), some (.int v4)]) (st' := [.int 0, .int v3]) (h' := mkS x S) rfl trivial ?_
        refine Ev.fgt (lv' := [some (.ref 130), none, some (.int v2), none, some (.int v4)]) ⟨rfl, rfl, rfl, trivial⟩ ?_
        exact bpX11_manys_130_70 x k37 hk37 S v2 v4 v3 0 _ _ hm
      · rw [if_neg c3] at hm
        refine Ev.steps tokX11_manys 4 (P := True) (pc' := 70) (lv' := [some (.ref 130), none, some (.int v2), some (.int v3), some (.int v4)]) (st' := [.int (1 <<< (v4 &&& 31)), .int v3]) (h' := mkS x S) rfl trivial ?_
        refine Ev.fgt (lv' := [some (.ref 130), none, some (.int v2), none, some (.int v4)]) ⟨rfl, rfl, rfl, trivial⟩ ?_
        exact bpX11_manys_130_70 x k37 hk37 S v2 v4 v3 (1 <<< (v4 &&& 31)) _ _ hm
theorem lpX11_manys_130_37 (x : XT)  : ∀ (n : Nat) (S : ST) (v2 : Int32) (v3 : Int32) (v4 : Int32) (r : Int32) (S' : ST), lfX11_manys_130_37 x  n S v2 v3 v4 = some (r, S') → Ev mX11_manys 128 0 0 37 [some (.ref 130), none, some (.int v2), some (.int v3), some (.int v4)] [] (mkS x S) (fun v h => v = some (.int r) ∧ h = mkS x S')
  | 0, _, _, _, _, _, _, hm => by cases hm
  | n + 1, S, v2, v3, v4, r, S', hm => bpX11_manys_130_37 x (lfX11_manys_130_37 x  n) (lpX11_manys_130_37 x  n) S v2 v3 v4 r S' hm
set_option maxHeartbeats 4000000 in
set_option maxRecDepth 20000 in
theorem bpX11_manys_130_0 (x : XT)  (S : ST) (p1 : Int32) (p2 : Int32) (r : Int32) (S' : ST) (hm : bfX11_manys_130_0 x  S p1 p2 = some (r, S')) : Ev mX11_manys 128 0 0 0 [some (.ref 130), some (.int p1), some (.int p2), none, none] [] (mkS x S) (fun v h => v = some (.int r) ∧ h = mkS x S') := by
    unfold bfX11_manys_130_0 at hm
    refine Ev.steps tokX11_manys 2 (P := True) (pc' := 2) (lv' := [some (.ref 130), some (.int p1), some (.int p2), none, none]) (st' := [.int p1, .ref 130]) (h' := mkS x S) rfl trivial ?_
    cases h1 : gfX11_isGoer_130 x S p1 with
    | none => rw [h1] at hm; cases hm
    | some q2 =>
      obtain ⟨r3, S4⟩ := q2
      rw [h1] at hm
      dsimp only at hm
      refine ev_callV (N := mX11_isGoer) (d' := 2) (bc := 0) (bs := 0) (bc' := 0) (bs' := 0) (as := [.int p1]) (rest := []) (a := 130) (ci := 11) (dcd tokX11_manys rfl) okX11_isGoer inX11_isGoer seX11_isGoer lk11_149 rfl (by decide) (Nat.le_of_ble_eq_true rfl) rfl ⟨by decide, rfl⟩ (gpX11_isGoer_130 x S p1 _ _ h1) (fun v h' hq hn => ?_)
      obtain ⟨rfl, rfl⟩ := hq
      refine Ev.steps tokX11_manys 1 (P := True) (pc' := if r3 = 0 then 15 else 8) (lv' := [some (.ref 130), some (.int p1), some (.int p2), none, none]) (st' := []) (h' := mkS x S4) rfl trivial ?_
      refine Ev.ite (fun c5 => ?_) (fun c5 => ?_)
      · rw [if_pos c5] at hm
        refine Ev.fgt (lv' := [none, none, none, none, none]) trivial ?_
        exact bpX11_manys_130_15 x S4 _ _ hm
      · rw [if_neg c5] at hm
        refine Ev.steps tokX11_manys 1 (P := True) (pc' := 9) (lv' := [some (.ref 130), some (.int p1), some (.int p2), none, none]) (st' := [.int p2]) (h' := mkS x S4) rfl trivial ?_
        cases h6 : gfX11_isPark x S4 p2 with
        | none => rw [h6] at hm; cases hm
        | some q7 =>
          obtain ⟨r8, S9⟩ := q7
          rw [h6] at hm
          dsimp only at hm
          refine ev_callS (N := mX11_isPark) (d' := 2) (bc := 0) (bs := 0) (bc' := 0) (bs' := 0) (as := [.int p2]) (rest := []) (dcd tokX11_manys rfl) okX11_isPark inX11_isPark lk11_128 rfl (by decide) (Nat.le_of_ble_eq_true rfl) (gpX11_isPark x S4 p2 _ _ h6) (fun v h' hq hn => ?_)
          obtain ⟨rfl, rfl⟩ := hq
          refine Ev.steps tokX11_manys 1 (P := True) (pc' := if ¬ r8 = 0 then 17 else 15) (lv' := [some (.ref 130), some (.int p1), some (.int p2), none, none]) (st' := []) (h' := mkS x S9) rfl trivial ?_
          refine Ev.ite (fun c10 => ?_) (fun c10 => ?_)
          · rw [if_pos c10] at hm
            refine Ev.steps tokX11_manys 2 (P := True) (pc' := 19) (lv' := [some (.ref 130), some (.int p1), some (.int p2), none, none]) (st' := [.int p1, .ref 130]) (h' := mkS x S9) rfl trivial ?_
            cases h11 : gfX11_laysOut_130 x S9 p1 with
            | none => rw [h11] at hm; cases hm
            | some q12 =>
              obtain ⟨r13, S14⟩ := q12
              rw [h11] at hm
              dsimp only at hm
              refine ev_callV (N := mX11_laysOut) (d' := 127) (bc := 0) (bs := 0) (bc' := 0) (bs' := 0) (as := [.int p1]) (rest := []) (a := 130) (ci := 11) (dcd tokX11_manys rfl) okX11_laysOut inX11_laysOut seX11_laysOut lk11_395 rfl (by decide) (Nat.le_of_ble_eq_true rfl) rfl ⟨by decide, rfl⟩ (gpX11_laysOut_130 x S9 p1 _ _ h11) (fun v h' hq hn => ?_)
              obtain ⟨rfl, rfl⟩ := hq
              refine Ev.steps tokX11_manys 3 (P := True) (pc' := 25) (lv' := [some (.ref 130), some (.int p1), some (.int p2), none, none]) (st' := [.int p1, .ref 130, .ref 130]) (h' := mkS x S14) rfl trivial ?_
              cases h15 : gfX11_placeOf_130 x S14 p1 with
              | none => rw [h15] at hm; cases hm
              | some q16 =>
                obtain ⟨r17, S18⟩ := q16
                rw [h15] at hm
                dsimp only at hm
                refine ev_callV (N := mX11_placeOf) (d' := 1) (bc := 0) (bs := 0) (bc' := 0) (bs' := 0) (as := [.int p1]) (rest := [.ref 130]) (a := 130) (ci := 11) (dcd tokX11_manys rfl) okX11_placeOf inX11_placeOf seX11_placeOf lk11_402 rfl (by decide) (Nat.le_of_ble_eq_true rfl) rfl ⟨by decide, rfl⟩ (gpX11_placeOf_130 x S14 p1 _ _ h15) (fun v h' hq hn => ?_)
                obtain ⟨rfl, rfl⟩ := hq
                refine Ev.steps tokX11_manys 1 (P := True) (pc' := 29) (lv' := [some (.ref 130), some (.int p1), some (.int p2), none, none]) (st' := [.int 0, .int r17, .ref 130]) (h' := mkS x S18) rfl trivial ?_
                cases h19 : gfX11_laysGone_130 x S18 r17 0 with
                | none => rw [h19] at hm; cases hm
                | some q20 =>
                  obtain ⟨r21, S22⟩ := q20
                  rw [h19] at hm
                  dsimp only at hm
                  refine ev_callV (N := mX11_laysGone) (d' := 2) (bc := 0) (bs := 0) (bc' := 0) (bs' := 0) (as := [.int r17, .int 0]) (rest := []) (a := 130) (ci := 11) (dcd tokX11_manys rfl) okX11_laysGone inX11_laysGone seX11_laysGone lk11_412 rfl (by decide) (Nat.le_of_ble_eq_true rfl) rfl ⟨by decide, rfl⟩ (gpX11_laysGone_130 x S18 r17 0 _ _ h19) (fun v h' hq hn => ?_)
                  obtain ⟨rfl, rfl⟩ := hq
                  refine Ev.steps tokX11_manys 4 (P := True) (pc' := 37) (lv' := [some (.ref 130), some (.int p1), some (.int p2), some (.int 0), some (.int 0)]) (st' := []) (h' := mkS x S22) rfl trivial ?_
                  refine Ev.fgt (lv' := [some (.ref 130), none, some (.int p2), some (.int 0), some (.int 0)]) ⟨rfl, rfl, rfl, rfl, trivial⟩ ?_
                  exact lpX11_manys_130_37 x  20000 S22 p2 0 0 _ _ hm
          · rw [if_neg c10] at hm
            refine Ev.fgt (lv' := [none, none, none, none, none]) trivial ?_
            exact bpX11_manys_130_15 x S9 _ _ hm
theorem gpX11_manys_130 (x : XT) (S : ST) (p1 : Int32) (p2 : Int32) (r : Int32) (S' : ST) (hm : gfX11_manys_130 x S p1 p2 = some (r, S')) : Ct mX11_manys 128 0 0 [.ref 130, .int p1, .int p2] (mkS x S) (fun v h => v = some (.int r) ∧ h = mkS x S') :=
  Ct.of (lv := [some (.ref 130), some (.int p1), some (.int p2), none, none]) rfl rfl rfl (show (_ : Nat) ≤ _ from Nat.le_of_ble_eq_true rfl) (fun G => rfl) (bpX11_manys_130_0 x S p1 p2 r S' hm)
set_option maxHeartbeats 4000000 in
set_option maxRecDepth 20000 in
theorem bpX11_reach_130_51 (x : XT) (k29 : ST → Int32 → Int32 → Option (Int32 × ST)) (hk29 : ∀ (S : ST) (v2 : Int32) (v3 : Int32) (r : Int32) (S' : ST), k29 S v2 v3 = some (r, S') → Ev mX11_reach 128 0 0 29 [some (.ref 130), none, some (.int v2), some (.int v3)] [] (mkS x S) (fun v h => v = some (.int r) ∧ h = mkS x S')) (S : ST) (v3 : Int32) (t0 : Int32) (t1 : Int32) (r : Int32) (S' : ST) (hm : bfX11_reach_130_51 x k29 S v3 t0 t1 = some (r, S')) : Ev mX11_reach 128 0 0 51 [some (.ref 130), none, none, some (.int v3)] [.int t1, .int t0] (mkS x S) (fun v h => v = some (.int r) ∧ h = mkS x S') := by
    unfold bfX11_reach_130_51 at hm
    refine Ev.steps tokX11_reach 4 (P := True) (pc' := 29) (lv' := [some (.ref 130), none, some (.int (t0 ||| t1)), some (.int (v3 + 1))]) (st' := []) (h' := mkS x S) rfl trivial ?_
    exact hk29 S (t0 ||| t1) (v3 + 1) _ _ hm
set_option maxHeartbeats 4000000 in
set_option maxRecDepth 20000 in
theorem bpX11_reach_130_29 (x : XT) (k29 : ST → Int32 → Int32 → Option (Int32 × ST)) (hk29 : ∀ (S : ST) (v2 : Int32) (v3 : Int32) (r : Int32) (S' : ST), k29 S v2 v3 = some (r, S') → Ev mX11_reach 128 0 0 29 [some (.ref 130), none, some (.int v2), some (.int v3)] [] (mkS x S) (fun v h => v = some (.int r) ∧ h = mkS x S')) (S : ST) (v2 : Int32) (v3 : Int32) (r : Int32) (S' : ST) (hm : bfX11_reach_130_29 x k29 S v2 v3 = some (r, S')) : Ev mX11_reach 128 0 0 29 [some (.ref 130), none, some (.int v2), some (.int v3)] [] (mkS x S) (fun v h => v = some (.int r) ∧ h = mkS x S') := by
    unfold bfX11_reach_130_29 at hm
    refine Ev.steps tokX11_reach 3 (P := True) (pc' := if 6 ≤ v3 then 59 else 35) (lv' := [some (.ref 130), none, some (.int v2), some (.int v3)]) (st' := []) (h' := mkS x S) rfl trivial ?_
    refine Ev.ite (fun c1 => ?_) (fun c1 => ?_)
    · rw [if_pos c1] at hm
      refine Ev.steps tokX11_reach 1 (P := True) (pc' := 60) (lv' := [some (.ref 130), none, some (.int v2), some (.int v3)]) (st' := [.int v2]) (h' := mkS x S) rfl trivial ?_
      cases hm
      exact Ev.reti tokX11_reach rfl rfl ⟨rfl, rfl⟩
    · rw [if_neg c1] at hm
      refine Ev.steps tokX11_reach 3 (P := True) (pc' := 38) (lv' := [some (.ref 130), none, some (.int v2), some (.int v3)]) (st' := [.int v3, .ref 130, .int v2]) (h' := mkS x S) rfl trivial ?_
      cases h2 : gfX11_comesTo_130 x S v3 with
      | none => rw [h2] at hm; cases hm
      | some q3 =>
        obtain ⟨r4, S5⟩ := q3
        rw [h2] at hm
        dsimp only at hm
        refine ev_callV (N := mX11_comesTo) (d' := 1) (bc := 0) (bs := 0) (bc' := 0) (bs' := 0) (as := [.int v3]) (rest := [.int v2]) (a := 130) (ci := 11) (dcd tokX11_reach rfl) okX11_comesTo inX11_comesTo seX11_comesTo lk11_415 rfl (by decide) (Nat.le_of_ble_eq_true rfl) rfl ⟨by decide, rfl⟩ (gpX11_comesTo_130 x S v3 _ _ h2) (fun v h' hq hn => ?_)
        obtain ⟨rfl, rfl⟩ := hq
        refine Ev.steps tokX11_reach 1 (P := True) (pc' := if r4 = 0 then 50 else 44) (lv' := [some (.ref 130), none, some (.int v2), some (.int v3)]) (st' := [.int v2]) (h' := mkS x S5) rfl trivial ?_
        refine Ev.ite (fun c6 => ?_) (fun c6 => ?_)
        · rw [if_pos c6] at hm
          refine Ev.steps tokX11_reach 1 (P := True) (pc' := 51) (lv' := [some (.ref 130), none, some (.int v2), some (.int v3)]) (st' := [.int 0, .int v2]) (h' := mkS x S5) rfl trivial ?_
          refine Ev.fgt (lv' := [some (.ref 130), none, none, some (.int v3)]) ⟨rfl, rfl, trivial⟩ ?_
          exact bpX11_reach_130_51 x k29 hk29 S5 v3 v2 0 _ _ hm
        · rw [if_neg c6] at hm
          refine Ev.steps tokX11_reach 4 (P := True) (pc' := 51) (lv' := [some (.ref 130), none, some (.int v2), some (.int v3)]) (st' := [.int (1 <<< (v3 &&& 31)), .int v2]) (h' := mkS x S5) rfl trivial ?_
          refine Ev.fgt (lv' := [some (.ref 130), none, none, some (.int v3)]) ⟨rfl, rfl, trivial⟩ ?_
          exact bpX11_reach_130_51 x k29 hk29 S5 v3 v2 (1 <<< (v3 &&& 31)) _ _ hm
theorem lpX11_reach_130_29 (x : XT)  : ∀ (n : Nat) (S : ST) (v2 : Int32) (v3 : Int32) (r : Int32) (S' : ST), lfX11_reach_130_29 x  n S v2 v3 = some (r, S') → Ev mX11_reach 128 0 0 29 [some (.ref 130), none, some (.int v2), some (.int v3)] [] (mkS x S) (fun v h => v = some (.int r) ∧ h = mkS x S')
  | 0, _, _, _, _, _, hm => by cases hm
  | n + 1, S, v2, v3, r, S', hm => bpX11_reach_130_29 x (lfX11_reach_130_29 x  n) (lpX11_reach_130_29 x  n) S v2 v3 r S' hm
set_option maxHeartbeats 4000000 in
set_option maxRecDepth 20000 in
theorem bpX11_reach_130_0 (x : XT)  (S : ST) (p1 : Int32) (r : Int32) (S' : ST) (hm : bfX11_reach_130_0 x  S p1 = some (r, S')) : Ev mX11_reach 128 0 0 0 [some (.ref 130), some (.int p1), none, none] [] (mkS x S) (fun v h => v = some (.int r) ∧ h = mkS x S') := by
    unfold bfX11_reach_130_0 at hm
    refine Ev.steps tokX11_reach 2 (P := True) (pc' := 2) (lv' := [some (.ref 130), some (.int p1), none, none]) (st' := [.int p1, .ref 130]) (h' := mkS x S) rfl trivial ?_
    cases h1 : gfX11_isGoer_130 x S p1 with
    | none => rw [h1] at hm; cases hm
    | some q2 =>
      obtain ⟨r3, S4⟩ := q2
      rw [h1] at hm
      dsimp only at hm
      refine ev_callV (N := mX11_isGoer) (d' := 2) (bc := 0) (bs := 0) (bc' := 0) (bs' := 0) (as := [.int p1]) (rest := []) (a := 130) (ci := 11) (dcd tokX11_reach rfl) okX11_isGoer inX11_isGoer seX11_isGoer lk11_149 rfl (by decide) (Nat.le_of_ble_eq_true rfl) rfl ⟨by decide, rfl⟩ (gpX11_isGoer_130 x S p1 _ _ h1) (fun v h' hq hn => ?_)
      obtain ⟨rfl, rfl⟩ := hq
      refine Ev.steps tokX11_reach 1 (P := True) (pc' := if ¬ r3 = 0 then 10 else 8) (lv' := [some (.ref 130), some (.int p1), none, none]) (st' := []) (h' := mkS x S4) rfl trivial ?_
      refine Ev.ite (fun c5 => ?_) (fun c5 => ?_)
      · rw [if_pos c5] at hm
        refine Ev.steps tokX11_reach 2 (P := True) (pc' := 12) (lv' := [some (.ref 130), some (.int p1), none, none]) (st' := [.int p1, .ref 130]) (h' := mkS x S4) rfl trivial ?_
        cases h6 : gfX11_laysOut_130 x S4 p1 with
        | none => rw [h6] at hm; cases hm
        | some q7 =>
          obtain ⟨r8, S9⟩ := q7
          rw [h6] at hm
          dsimp only at hm
          refine ev_callV (N := mX11_laysOut) (d' := 127) (bc := 0) (bs := 0) (bc' := 0) (bs' := 0) (as := [.int p1]) (rest := []) (a := 130) (ci := 11) (dcd tokX11_reach rfl) okX11_laysOut inX11_laysOut seX11_laysOut lk11_395 rfl (by decide) (Nat.le_of_ble_eq_true rfl) rfl ⟨by decide, rfl⟩ (gpX11_laysOut_130 x S4 p1 _ _ h6) (fun v h' hq hn => ?_)
          obtain ⟨rfl, rfl⟩ := hq
          refine Ev.steps tokX11_reach 3 (P := True) (pc' := 18) (lv' := [some (.ref 130), some (.int p1), none, none]) (st' := [.int p1, .ref 130, .ref 130]) (h' := mkS x S9) rfl trivial ?_
          cases h10 : gfX11_placeOf_130 x S9 p1 with
          | none => rw [h10] at hm; cases hm
          | some q11 =>
            obtain ⟨r12, S13⟩ := q11
            rw [h10] at hm
            dsimp only at hm
            refine ev_callV (N := mX11_placeOf) (d' := 1) (bc := 0) (bs := 0) (bc' := 0) (bs' := 0) (as := [.int p1]) (rest := [.ref 130]) (a := 130) (ci := 11) (dcd tokX11_reach rfl) okX11_placeOf inX11_placeOf seX11_placeOf lk11_402 rfl (by decide) (Nat.le_of_ble_eq_true rfl) rfl ⟨by decide, rfl⟩ (gpX11_placeOf_130 x S9 p1 _ _ h10) (fun v h' hq hn => ?_)
            obtain ⟨rfl, rfl⟩ := hq
            refine Ev.steps tokX11_reach 1 (P := True) (pc' := 22) (lv' := [some (.ref 130), some (.int p1), none, none]) (st' := [.int 0, .int r12, .ref 130]) (h' := mkS x S13) rfl trivial ?_
            cases h14 : gfX11_laysGone_130 x S13 r12 0 with
            | none => rw [h14] at hm; cases hm
            | some q15 =>
              obtain ⟨r16, S17⟩ := q15
              rw [h14] at hm
              dsimp only at hm
              refine ev_callV (N := mX11_laysGone) (d' := 2) (bc := 0) (bs := 0) (bc' := 0) (bs' := 0) (as := [.int r12, .int 0]) (rest := []) (a := 130) (ci := 11) (dcd tokX11_reach rfl) okX11_laysGone inX11_laysGone seX11_laysGone lk11_412 rfl (by decide) (Nat.le_of_ble_eq_true rfl) rfl ⟨by decide, rfl⟩ (gpX11_laysGone_130 x S13 r12 0 _ _ h14) (fun v h' hq hn => ?_)
              obtain ⟨rfl, rfl⟩ := hq
              refine Ev.steps tokX11_reach 4 (P := True) (pc' := 29) (lv' := [some (.ref 130), some (.int p1), some (.int 0), some (.int 0)]) (st' := []) (h' := mkS x S17) rfl trivial ?_
              refine Ev.fgt (lv' := [some (.ref 130), none, some (.int 0), some (.int 0)]) ⟨rfl, rfl, rfl, trivial⟩ ?_
              exact lpX11_reach_130_29 x  20000 S17 0 0 _ _ hm
      · rw [if_neg c5] at hm
        refine Ev.steps tokX11_reach 1 (P := True) (pc' := 9) (lv' := [some (.ref 130), some (.int p1), none, none]) (st' := [.int (-1)]) (h' := mkS x S4) rfl trivial ?_
        cases hm
        exact Ev.reti tokX11_reach rfl rfl ⟨rfl, rfl⟩
theorem gpX11_reach_130 (x : XT) (S : ST) (p1 : Int32) (r : Int32) (S' : ST) (hm : gfX11_reach_130 x S p1 = some (r, S')) : Ct mX11_reach 128 0 0 [.ref 130, .int p1] (mkS x S) (fun v h => v = some (.int r) ∧ h = mkS x S') :=
  Ct.of (lv := [some (.ref 130), some (.int p1), none, none]) rfl rfl rfl (show (_ : Nat) ≤ _ from Nat.le_of_ble_eq_true rfl) (fun G => rfl) (bpX11_reach_130_0 x S p1 r S' hm)
set_option maxHeartbeats 4000000 in
set_option maxRecDepth 20000 in
theorem bpX11_laysParts_130_36 (x : XT) (k8 : ST → Int32 → Int64 → Int32 → Option (Unit × ST)) (hk8 : ∀ (S : ST) (v1 : Int32) (v2 : Int64) (v4 : Int32) (r : Unit) (S' : ST), k8 S v1 v2 v4 = some (r, S') → Ev mX11_laysParts 128 0 0 8 [some (.ref 130), some (.int v1), some (.long v2), none, some (.int v4)] [] (mkS x S) (fun v h => v = none ∧ h = mkS x S')) (S : ST) (v1 : Int32) (v2 : Int64) (v4 : Int32) (t1 : Int32) (t2 : Int64) (r : Unit) (S' : ST) (hm : bfX11_laysParts_130_36 x k8 S v1 v2 v4 t1 t2 = some (r, S')) : Ev mX11_laysParts 128 0 0 36 [some (.ref 130), some (.int v1), some (.long v2), none, some (.int v4)] [.long t2, .int t1, .ref 150] (mkS x S) (fun v h => v = none ∧ h = mkS x S') := by
    unfold bfX11_laysParts_130_36 at hm
    obtain ⟨o1, hm⟩ := oblk hm
    refine Ev.steps tokX11_laysParts 3 (P := vp_in t1 120 ∧ True) (pc' := 8) (lv' := [some (.ref 130), some (.int v1), some (.long v2), none, some (.int (v4 + 1))]) (st' := []) (h' := mkS x (S.1, S.2.1, (u2 S.2.2.1 150 t1.toNatClampNeg t2), S.2.2.2)) rfl ⟨inb_ok o1, trivial⟩ ?_
    exact hk8 (S.1, S.2.1, (u2 S.2.2.1 150 t1.toNatClampNeg t2), S.2.2.2) v1 v2 (v4 + 1) _ _ hm
set_option maxHeartbeats 4000000 in
set_option maxRecDepth 20000 in
theorem bpX11_laysParts_130_8 (x : XT) (k8 : ST → Int32 → Int64 → Int32 → Option (Unit × ST)) (hk8 : ∀ (S : ST) (v1 : Int32) (v2 : Int64) (v4 : Int32) (r : Unit) (S' : ST), k8 S v1 v2 v4 = some (r, S') → Ev mX11_laysParts 128 0 0 8 [some (.ref 130), some (.int v1), some (.long v2), none, some (.int v4)] [] (mkS x S) (fun v h => v = none ∧ h = mkS x S')) (S : ST) (v1 : Int32) (v2 : Int64) (v4 : Int32) (r : Unit) (S' : ST) (hm : bfX11_laysParts_130_8 x k8 S v1 v2 v4 = some (r, S')) : Ev mX11_laysParts 128 0 0 8 [some (.ref 130), some (.int v1), some (.long v2), none, some (.int v4)] [] (mkS x S) (fun v h => v = none ∧ h = mkS x S') := by
    unfold bfX11_laysParts_130_8 at hm
    refine Ev.steps tokX11_laysParts 3 (P := True) (pc' := if 120 ≤ v4 then 43 else 15) (lv' := [some (.ref 130), some (.int v1), some (.long v2), none, some (.int v4)]) (st' := []) (h' := mkS x S) rfl trivial ?_
    refine Ev.ite (fun c1 => ?_) (fun c1 => ?_)
    · rw [if_pos c1] at hm
      cases hm
      exact Ev.retv tokX11_laysParts rfl rfl ⟨rfl, rfl⟩
    · rw [if_neg c1] at hm
      refine Ev.steps tokX11_laysParts 6 (P := True) (pc' := 25) (lv' := [some (.ref 130), some (.int v1), some (.long v2), none, some (.int v4)]) (st' := [.int v1, .ref 130, .int v4, .int v4, .ref 150]) (h' := mkS x S) rfl trivial ?_
      cases h2 : gfX11_placeOf_130 x S v1 with
      | none => rw [h2] at hm; cases hm
      | some q3 =>
        obtain ⟨r4, S5⟩ := q3
        rw [h2] at hm
        dsimp only at hm
        refine ev_callV (N := mX11_placeOf) (d' := 1) (bc := 0) (bs := 0) (bc' := 0) (bs' := 0) (as := [.int v1]) (rest := [.int v4, .int v4, .ref 150]) (a := 130) (ci := 11) (dcd tokX11_laysParts rfl) okX11_placeOf inX11_placeOf seX11_placeOf lk11_402 rfl (by decide) (Nat.le_of_ble_eq_true rfl) rfl ⟨by decide, rfl⟩ (gpX11_placeOf_130 x S v1 _ _ h2) (fun v h' hq hn => ?_)
        obtain ⟨rfl, rfl⟩ := hq
        refine Ev.steps tokX11_laysParts 1 (P := True) (pc' := if ¬ v4 = r4 then 35 else 31) (lv' := [some (.ref 130), some (.int v1), some (.long v2), none, some (.int v4)]) (st' := [.int v4, .ref 150]) (h' := mkS x S5) rfl trivial ?_
        refine Ev.ite (fun c6 => ?_) (fun c6 => ?_)
        · rw [if_pos c6] at hm
          refine Ev.steps tokX11_laysParts 1 (P := True) (pc' := 36) (lv' := [some (.ref 130), some (.int v1), some (.long v2), none, some (.int v4)]) (st' := [.long 0, .int v4, .ref 150]) (h' := mkS x S5) rfl trivial ?_
          exact bpX11_laysParts_130_36 x k8 hk8 S5 v1 v2 v4 v4 0 _ _ hm
        · rw [if_neg c6] at hm
          refine Ev.steps tokX11_laysParts 2 (P := True) (pc' := 36) (lv' := [some (.ref 130), some (.int v1), some (.long v2), none, some (.int v4)]) (st' := [.long v2, .int v4, .ref 150]) (h' := mkS x S5) rfl trivial ?_
          exact bpX11_laysParts_130_36 x k8 hk8 S5 v1 v2 v4 v4 v2 _ _ hm
theorem lpX11_laysParts_130_8 (x : XT)  : ∀ (n : Nat) (S : ST) (v1 : Int32) (v2 : Int64) (v4 : Int32) (r : Unit) (S' : ST), lfX11_laysParts_130_8 x  n S v1 v2 v4 = some (r, S') → Ev mX11_laysParts 128 0 0 8 [some (.ref 130), some (.int v1), some (.long v2), none, some (.int v4)] [] (mkS x S) (fun v h => v = none ∧ h = mkS x S')
  | 0, _, _, _, _, _, _, hm => by cases hm
  | n + 1, S, v1, v2, v4, r, S', hm => bpX11_laysParts_130_8 x (lfX11_laysParts_130_8 x  n) (lpX11_laysParts_130_8 x  n) S v1 v2 v4 r S' hm
set_option maxHeartbeats 4000000 in
set_option maxRecDepth 20000 in
theorem bpX11_laysParts_130_0 (x : XT)  (S : ST) (p1 : Int32) (p2 : Int64) (r : Unit) (S' : ST) (hm : bfX11_laysParts_130_0 x  S p1 p2 = some (r, S')) : Ev mX11_laysParts 128 0 0 0 [some (.ref 130), some (.int p1), some (.long p2), none, none] [] (mkS x S) (fun v h => v = none ∧ h = mkS x S') := by
    unfold bfX11_laysParts_130_0 at hm
    refine Ev.steps tokX11_laysParts 2 (P := True) (pc' := 2) (lv' := [some (.ref 130), some (.int p1), some (.long p2), none, none]) (st' := [.int p1, .ref 130]) (h' := mkS x S) rfl trivial ?_
    cases h1 : gfX11_laysOut_130 x S p1 with
    | none => rw [h1] at hm; cases hm
    | some q2 =>
      obtain ⟨r3, S4⟩ := q2
      rw [h1] at hm
      dsimp only at hm
      refine ev_callV (N := mX11_laysOut) (d' := 127) (bc := 0) (bs := 0) (bc' := 0) (bs' := 0) (as := [.int p1]) (rest := []) (a := 130) (ci := 11) (dcd tokX11_laysParts rfl) okX11_laysOut inX11_laysOut seX11_laysOut lk11_395 rfl (by decide) (Nat.le_of_ble_eq_true rfl) rfl ⟨by decide, rfl⟩ (gpX11_laysOut_130 x S p1 _ _ h1) (fun v h' hq hn => ?_)
      obtain ⟨rfl, rfl⟩ := hq
      refine Ev.steps tokX11_laysParts 2 (P := True) (pc' := 8) (lv' := [some (.ref 130), some (.int p1), some (.long p2), none, some (.int 0)]) (st' := []) (h' := mkS x S4) rfl trivial ?_
      exact lpX11_laysParts_130_8 x  20000 S4 p1 p2 0 _ _ hm
theorem gpX11_laysParts_130 (x : XT) (S : ST) (p1 : Int32) (p2 : Int64) (r : Unit) (S' : ST) (hm : gfX11_laysParts_130 x S p1 p2 = some (r, S')) : Ct mX11_laysParts 128 0 0 [.ref 130, .int p1, .long p2] (mkS x S) (fun v h => v = none ∧ h = mkS x S') :=
  Ct.of (lv := [some (.ref 130), some (.int p1), some (.long p2), none, none]) rfl rfl rfl (show (_ : Nat) ≤ _ from Nat.le_of_ble_eq_true rfl) (fun G => rfl) (bpX11_laysParts_130_0 x S p1 p2 r S' hm)
set_option maxHeartbeats 4000000 in
set_option maxRecDepth 20000 in
theorem bpX11_gatesFrom_130_28 (x : XT) (k4 : ST → Int32 → Int32 → Int32 → Option (Int32 × ST)) (hk4 : ∀ (S : ST) (v1 : Int32) (v2 : Int32) (v3 : Int32) (r : Int32) (S' : ST), k4 S v1 v2 v3 = some (r, S') → Ev mX11_gatesFrom 2 0 0 4 [some (.ref 130), some (.int v1), some (.int v2), some (.int v3)] [] (mkS x S) (fun v h => v = some (.int r) ∧ h = mkS x S')) (S : ST) (v1 : Int32) (v3 : Int32) (t0 : Int32) (t1 : Int32) (r : Int32) (S' : ST) (hm : bfX11_gatesFrom_130_28 x k4 S v1 v3 t0 t1 = some (r, S')) : Ev mX11_gatesFrom 2 0 0 28 [some (.ref 130), some (.int v1), none, some (.int v3)] [.int t1, .int t0] (mkS x S) (fun v h => v = some (.int r) ∧ h = mkS x S') := by
    unfold bfX11_gatesFrom_130_28 at hm
    refine Ev.steps tokX11_gatesFrom 4 (P := True) (pc' := 4) (lv' := [some (.ref 130), some (.int v1), some (.int (t0 + t1)), some (.int (v3 + 1))]) (st' := []) (h' := mkS x S) rfl trivial ?_
    exact hk4 S v1 (t0 + t1) (v3 + 1) _ _ hm
set_option maxHeartbeats 4000000 in
set_option maxRecDepth 20000 in
theorem bpX11_gatesFrom_130_4 (x : XT) (k4 : ST → Int32 → Int32 → Int32 → Option (Int32 × ST)) (hk4 : ∀ (S : ST) (v1 : Int32) (v2 : Int32) (v3 : Int32) (r : Int32) (S' : ST), k4 S v1 v2 v3 = some (r, S') → Ev mX11_gatesFrom 2 0 0 4 [some (.ref 130), some (.int v1), some (.int v2), some (.int v3)] [] (mkS x S) (fun v h => v = some (.int r) ∧ h = mkS x S')) (S : ST) (v1 : Int32) (v2 : Int32) (v3 : Int32) (r : Int32) (S' : ST) (hm : bfX11_gatesFrom_130_4 x k4 S v1 v2 v3 = some (r, S')) : Ev mX11_gatesFrom 2 0 0 4 [some (.ref 130), some (.int v1), some (.int v2), some (.int v3)] [] (mkS x S) (fun v h => v = some (.int r) ∧ h = mkS x S') := by
    unfold bfX11_gatesFrom_130_4 at hm
    refine Ev.steps tokX11_gatesFrom 2 (P := True) (pc' := 6) (lv' := [some (.ref 130), some (.int v1), some (.int v2), some (.int v3)]) (st' := [.ref 130, .int v3]) (h' := mkS x S) rfl trivial ?_
    cases h1 : gfX11_gateMany_130 x S with
    | none => rw [h1] at hm; cases hm
    | some q2 =>
      obtain ⟨r3, S4⟩ := q2
      rw [h1] at hm
      dsimp only at hm
      refine ev_callV (N := mX11_gateMany) (d' := 1) (bc := 0) (bs := 0) (bc' := 0) (bs' := 0) (as := []) (rest := [.int v3]) (a := 130) (ci := 11) (dcd tokX11_gatesFrom rfl) okX11_gateMany inX11_gateMany seX11_gateMany lk11_124 rfl (by decide) (Nat.le_of_ble_eq_true rfl) rfl ⟨by decide, rfl⟩ (gpX11_gateMany_130 x S _ _ h1) (fun v h' hq hn => ?_)
      obtain ⟨rfl, rfl⟩ := hq
      refine Ev.steps tokX11_gatesFrom 1 (P := True) (pc' := if r3 ≤ v3 then 36 else 12) (lv' := [some (.ref 130), some (.int v1), some (.int v2), some (.int v3)]) (st' := []) (h' := mkS x S4) rfl trivial ?_
      refine Ev.ite (fun c5 => ?_) (fun c5 => ?_)
      · rw [if_pos c5] at hm
        refine Ev.steps tokX11_gatesFrom 1 (P := True) (pc' := 37) (lv' := [some (.ref 130), some (.int v1), some (.int v2), some (.int v3)]) (st' := [.int v2]) (h' := mkS x S4) rfl trivial ?_
        cases hm
        exact Ev.reti tokX11_gatesFrom rfl rfl ⟨rfl, rfl⟩
      · rw [if_neg c5] at hm
        refine Ev.steps tokX11_gatesFrom 4 (P := True) (pc' := 16) (lv' := [some (.ref 130), some (.int v1), some (.int v2), some (.int v3)]) (st' := [.int v3, .int v1, .ref 130, .int v2]) (h' := mkS x S4) rfl trivial ?_
        cases h6 : gfX11_nextPlace_130 x S4 v1 v3 with
        | none => rw [h6] at hm; cases hm
        | some q7 =>
          obtain ⟨r8, S9⟩ := q7
          rw [h6] at hm
          dsimp only at hm
          refine ev_callV (N := mX11_nextPlace) (d' := 1) (bc := 0) (bs := 0) (bc' := 0) (bs' := 0) (as := [.int v1, .int v3]) (rest := [.int v2]) (a := 130) (ci := 11) (dcd tokX11_gatesFrom rfl) okX11_nextPlace inX11_nextPlace seX11_nextPlace lk11_389 rfl (by decide) (Nat.le_of_ble_eq_true rfl) rfl ⟨by decide, rfl⟩ (gpX11_nextPlace_130 x S4 v1 v3 _ _ h6) (fun v h' hq hn => ?_)
          obtain ⟨rfl, rfl⟩ := hq
          refine Ev.steps tokX11_gatesFrom 2 (P := True) (pc' := if ¬ r8 = (-1) then 27 else 23) (lv' := [some (.ref 130), some (.int v1), some (.int v2), some (.int v3)]) (st' := [.int v2]) (h' := mkS x S9) rfl trivial ?_
          refine Ev.ite (fun c10 => ?_) (fun c10 => ?_)
          · rw [if_pos c10] at hm
            refine Ev.steps tokX11_gatesFrom 1 (P := True) (pc' := 28) (lv' := [some (.ref 130), some (.int v1), some (.int v2), some (.int v3)]) (st' := [.int 1, .int v2]) (h' := mkS x S9) rfl trivial ?_
            refine Ev.fgt (lv' := [some (.ref 130), some (.int v1), none, some (.int v3)]) ⟨rfl, rfl, rfl, trivial⟩ ?_
            exact bpX11_gatesFrom_130_28 x k4 hk4 S9 v1 v3 v2 1 _ _ hm
          · rw [if_neg c10] at hm
            refine Ev.steps tokX11_gatesFrom 2 (P := True) (pc' := 28) (lv' := [some (.ref 130), some (.int v1), some (.int v2), some (.int v3)]) (st' := [.int 0, .int v2]) (h' := mkS x S9) rfl trivial ?_
            refine Ev.fgt (lv' := [some (.ref 130), some (.int v1), none, some (.int v3)]) ⟨rfl, rfl, rfl, trivial⟩ ?_
            exact bpX11_gatesFrom_130_28 x k4 hk4 S9 v1 v3 v2 0 _ _ hm
theorem lpX11_gatesFrom_130_4 (x : XT)  : ∀ (n : Nat) (S : ST) (v1 : Int32) (v2 : Int32) (v3 : Int32) (r : Int32) (S' : ST), lfX11_gatesFrom_130_4 x  n S v1 v2 v3 = some (r, S') → Ev mX11_gatesFrom 2 0 0 4 [some (.ref 130), some (.int v1), some (.int v2), some (.int v3)] [] (mkS x S) (fun v h => v = some (.int r) ∧ h = mkS x S')
  | 0, _, _, _, _, _, _, hm => by cases hm
  | n + 1, S, v1, v2, v3, r, S', hm => bpX11_gatesFrom_130_4 x (lfX11_gatesFrom_130_4 x  n) (lpX11_gatesFrom_130_4 x  n) S v1 v2 v3 r S' hm
set_option maxHeartbeats 4000000 in
set_option maxRecDepth 20000 in
theorem bpX11_gatesFrom_130_0 (x : XT)  (S : ST) (p1 : Int32) (r : Int32) (S' : ST) (hm : bfX11_gatesFrom_130_0 x  S p1 = some (r, S')) : Ev mX11_gatesFrom 2 0 0 0 [some (.ref 130), some (.int p1), none, none] [] (mkS x S) (fun v h => v = some (.int r) ∧ h = mkS x S') := by
    unfold bfX11_gatesFrom_130_0 at hm
    refine Ev.steps tokX11_gatesFrom 4 (P := True) (pc' := 4) (lv' := [some (.ref 130), some (.int p1), some (.int 0), some (.int 0)]) (st' := []) (h' := mkS x S) rfl trivial ?_
    exact lpX11_gatesFrom_130_4 x  20000 S p1 0 0 _ _ hm
theorem gpX11_gatesFrom_130 (x : XT) (S : ST) (p1 : Int32) (r : Int32) (S' : ST) (hm : gfX11_gatesFrom_130 x S p1 = some (r, S')) : Ct mX11_gatesFrom 2 0 0 [.ref 130, .int p1] (mkS x S) (fun v h => v = some (.int r) ∧ h = mkS x S') :=
  Ct.of (lv := [some (.ref 130), some (.int p1), none, none]) rfl rfl rfl (show (_ : Nat) ≤ _ from Nat.le_of_ble_eq_true rfl) (fun G => rfl) (bpX11_gatesFrom_130_0 x S p1 r S' hm)
set_option maxHeartbeats 4000000 in
set_option maxRecDepth 20000 in
theorem bpX11_steps_130_149 (x : XT) (k149 : ST → Int32 → Option (Unit × ST)) (hk149 : ∀ (S : ST) (v2 : Int32) (r : Unit) (S' : ST), k149 S v2 = some (r, S') → Ev mX11_steps 3 0 0 149 [some (.ref 130), none, some (.int v2), none, none] [] (mkS x S) (fun v h => v = none ∧ h = mkS x S')) (S : ST) (v2 : Int32) (r : Unit) (S' : ST) (hm : bfX11_steps_130_149 x k149 S v2 = some (r, S')) : Ev mX11_steps 3 0 0 149 [some (.ref 130), none, some (.int v2), none, none] [] (mkS x S) (fun v h => v = none ∧ h = mkS x S') := by
    unfold bfX11_steps_130_149 at hm
    refine Ev.steps tokX11_steps 3 (P := True) (pc' := if 120 ≤ v2 then 173 else 155) (lv' := [some (.ref 130), none, some (.int v2), none, none]) (st' := []) (h' := mkS x S) rfl trivial ?_
    refine Ev.ite (fun c1 => ?_) (fun c1 => ?_)
    · rw [if_pos c1] at hm
      cases hm
      exact Ev.retv tokX11_steps rfl rfl ⟨rfl, rfl⟩
    · rw [if_neg c1] at hm
      obtain ⟨o2, hm⟩ := oblk hm
      obtain ⟨o3, hm⟩ := oblk hm
      refine Ev.steps tokX11_steps 10 (P := vp_in v2 120 ∧ vp_in v2 120 ∧ True) (pc' := 149) (lv' := [some (.ref 130), none, some (.int (v2 + 1)), none, none]) (st' := []) (h' := mkS x (S.1, S.2.1, (u2 S.2.2.1 150 v2.toNatClampNeg (S.2.2.1 151 v2.toNatClampNeg)), S.2.2.2)) rfl ⟨inb_ok o2, inb_ok o3, trivial⟩ ?_
      exact hk149 (S.1, S.2.1, (u2 S.2.2.1 150 v2.toNatClampNeg (S.2.2.1 151 v2.toNatClampNeg)), S.2.2.2) (v2 + 1) _ _ hm
theorem lpX11_steps_130_149 (x : XT)  : ∀ (n : Nat) (S : ST) (v2 : Int32) (r : Unit) (S' : ST), lfX11_steps_130_149 x  n S v2 = some (r, S') → Ev mX11_steps 3 0 0 149 [some (.ref 130), none, some (.int v2), none, none] [] (mkS x S) (fun v h => v = none ∧ h = mkS x S')
  | 0, _, _, _, _, hm => by cases hm
  | n + 1, S, v2, r, S', hm => bpX11_steps_130_149 x (lfX11_steps_130_149 x  n) (lpX11_steps_130_149 x  n) S v2 r S' hm
set_option maxHeartbeats 4000000 in
set_option maxRecDepth 20000 in
theorem bpX11_steps_130_141 (x : XT) (k23 : ST → Int32 → Int32 → Option (Unit × ST)) (hk23 : ∀ (S : ST) (v1 : Int32) (v2 : Int32) (r : Unit) (S' : ST), k23 S v1 v2 = some (r, S') → Ev mX11_steps 3 0 0 23 [some (.ref 130), some (.int v1), some (.int v2), none, none] [] (mkS x S) (fun v h => v = none ∧ h = mkS x S')) (S : ST) (v1 : Int32) (v2 : Int32) (r : Unit) (S' : ST) (hm : bfX11_steps_130_141 x k23 S v1 v2 = some (r, S')) : Ev mX11_steps 3 0 0 141 [some (.ref 130), some (.int v1), some (.int v2), none, none] [] (mkS x S) (fun v h => v = none ∧ h = mkS x S') := by
    unfold bfX11_steps_130_141 at hm
    refine Ev.steps tokX11_steps 2 (P := True) (pc' := 23) (lv' := [some (.ref 130), some (.int v1), some (.int (v2 + 1)), none, none]) (st' := []) (h' := mkS x S) rfl trivial ?_
    exact hk23 S v1 (v2 + 1) _ _ hm
set_option maxHeartbeats 4000000 in
set_option maxRecDepth 20000 in
theorem bpX11_steps_130_135 (x : XT) (k23 : ST → Int32 → Int32 → Option (Unit × ST)) (hk23 : ∀ (S : ST) (v1 : Int32) (v2 : Int32) (r : Unit) (S' : ST), k23 S v1 v2 = some (r, S') → Ev mX11_steps 3 0 0 23 [some (.ref 130), some (.int v1), some (.int v2), none, none] [] (mkS x S) (fun v h => v = none ∧ h = mkS x S')) (k76 : ST → Int32 → Int32 → Int32 → Int32 → Option (Unit × ST)) (hk76 : ∀ (S : ST) (v1 : Int32) (v2 : Int32) (v3 : Int32) (v4 : Int32) (r : Unit) (S' : ST), k76 S v1 v2 v3 v4 = some (r, S') → Ev mX11_steps 3 0 0 76 [some (.ref 130), some (.int v1), some (.int v2), some (.int v3), some (.int v4)] [] (mkS x S) (fun v h => v = none ∧ h = mkS x S')) (S : ST) (v1 : Int32) (v2 : Int32) (v3 : Int32) (v4 : Int32) (r : Unit) (S' : ST) (hm : bfX11_steps_130_135 x k23 k76 S v1 v2 v3 v4 = some (r, S')) : Ev mX11_steps 3 0 0 135 [some (.ref 130), some (.int v1), some (.int v2), some (.int v3), some (.int v4)] [] (mkS x S) (fun v h => v = none ∧ h = mkS x S') := by
    unfold bfX11_steps_130_135 at hm
    refine Ev.steps tokX11_steps 2 (P := True) (pc' := 76) (lv' := [some (.ref 130), some (.int v1), some (.int v2), some (.int v3), some (.int (v4 + 1))]) (st' := []) (h' := mkS x S) rfl trivial ?_
    exact hk76 S v1 v2 v3 (v4 + 1) _ _ hm
set_option maxHeartbeats 4000000 in
set_option maxRecDepth 20000 in
theorem bpX11_steps_130_76 (x : XT) (k23 : ST → Int32 → Int32 → Option (Unit × ST)) (hk23 : ∀ (S : ST) (v1 : Int32) (v2 : Int32) (r : Unit) (S' : ST), k23 S v1 v2 = some (r, S') → Ev mX11_steps 3 0 0 23 [some (.ref 130), some (.int v1), some (.int v2), none, none] [] (mkS x S) (fun v h => v = none ∧ h = mkS x S')) (k76 : ST → Int32 → Int32 → Int32 → Int32 → Option (Unit × ST)) (hk76 : ∀ (S : ST) (v1 : Int32) (v2 : Int32) (v3 : Int32) (v4 : Int32) (r : Unit) (S' : ST), k76 S v1 v2 v3 v4 = some (r, S') → Ev mX11_steps 3 0 0 76 [some (.ref 130), some (.int v1), some (.int v2), some (.int v3), some (.int v4)] [] (mkS x S) (fun v h => v = none ∧ h = mkS x S')) (S : ST) (v1 : Int32) (v2 : Int32) (v3 : Int32) (v4 : Int32) (r : Unit) (S' : ST) (hm : bfX11_steps_130_76 x k23 k76 S v1 v2 v3 v4 = some (r, S')) : Ev mX11_steps 3 0 0 76 [some (.ref 130), some (.int v1), some (.int v2), some (.int v3), some (.int v4)] [] (mkS x S) (fun v h => v = none ∧ h = mkS x S') := by
    unfold bfX11_steps_130_76 at hm
    refine Ev.steps tokX11_steps 2 (P := True) (pc' := 79) (lv' := [some (.ref 130), some (.int v1), some (.int v2), some (.int v3), some (.int v4)]) (st' := [.ref 130, .int v4]) (h' := mkS x S) rfl trivial ?_
    cases h1 : gfX11_gateMany_130 x S with
    | none => rw [h1] at hm; cases hm
    | some q2 =>
      obtain ⟨r3, S4⟩ := q2
      rw [h1] at hm
      dsimp only at hm
      refine ev_callV (N := mX11_gateMany) (d' := 1) (bc := 0) (bs := 0) (bc' := 0) (bs' := 0) (as := []) (rest := [.int v4]) (a := 130) (ci := 11) (dcd tokX11_steps rfl) okX11_gateMany inX11_gateMany seX11_gateMany lk11_124 rfl (by decide) (Nat.le_of_ble_eq_true rfl) rfl ⟨by decide, rfl⟩ (gpX11_gateMany_130 x S _ _ h1) (fun v h' hq hn => ?_)
      obtain ⟨rfl, rfl⟩ := hq
      refine Ev.steps tokX11_steps 1 (P := True) (pc' := if r3 ≤ v4 then 141 else 85) (lv' := [some (.ref 130), some (.int v1), some (.int v2), some (.int v3), some (.int v4)]) (st' := []) (h' := mkS x S4) rfl trivial ?_
      refine Ev.ite (fun c5 => ?_) (fun c5 => ?_)
      · rw [if_pos c5] at hm
        refine Ev.fgt (lv' := [some (.ref 130), some (.int v1), some (.int v2), none, none]) ⟨rfl, rfl, rfl, trivial⟩ ?_
        exact bpX11_steps_130_141 x k23 hk23 S4 v1 v2 _ _ hm
      · rw [if_neg c5] at hm
        refine Ev.steps tokX11_steps 2 (P := True) (pc' := if v3 ≤ 0 then 141 else 89) (lv' := [some (.ref 130), some (.int v1), some (.int v2), some (.int v3), some (.int v4)]) (st' := []) (h' := mkS x S4) rfl trivial ?_
        refine Ev.ite (fun c6 => ?_) (fun c6 => ?_)
        · rw [if_pos c6] at hm
          refine Ev.fgt (lv' := [some (.ref 130), some (.int v1), some (.int v2), none, none]) ⟨rfl, rfl, rfl, trivial⟩ ?_
          exact bpX11_steps_130_141 x k23 hk23 S4 v1 v2 _ _ hm
        · rw [if_neg c6] at hm
          obtain ⟨o7, hm⟩ := oblk hm
          refine Ev.steps tokX11_steps 7 (P := vp_in v2 120 ∧ True) (pc' := if (lg_cmp (S4.2.2.1 150 v2.toNatClampNeg) 0) ≤ 0 then 141 else 100) (lv' := [some (.ref 130), some (.int v1), some (.int v2), some (.int v3), some (.int v4)]) (st' := []) (h' := mkS x S4) rfl ⟨inb_ok o7, trivial⟩ ?_
          refine Ev.ite (fun c8 => ?_) (fun c8 => ?_)
          · rw [if_pos c8] at hm
            refine Ev.fgt (lv' := [some (.ref 130), some (.int v1), some (.int v2), none, none]) ⟨rfl, rfl, rfl, trivial⟩ ?_
            exact bpX11_steps_130_141 x k23 hk23 S4 v1 v2 _ _ hm
          · rw [if_neg c8] at hm
            refine Ev.steps tokX11_steps 3 (P := True) (pc' := 104) (lv' := [some (.ref 130), some (.int v1), some (.int v2), some (.int v3), some (.int v4)]) (st' := [.int v4, .int v2, .ref 130]) (h' := mkS x S4) rfl trivial ?_
            cases h9 : gfX11_nextPlace_130 x S4 v2 v4 with
            | none => rw [h9] at hm; cases hm
            | some q10 =>
              obtain ⟨r11, S12⟩ := q10
              rw [h9] at hm
              dsimp only at hm
              refine ev_callV (N := mX11_nextPlace) (d' := 1) (bc := 0) (bs := 0) (bc' := 0) (bs' := 0) (as := [.int v2, .int v4]) (rest := []) (a := 130) (ci := 11) (dcd tokX11_steps rfl) okX11_nextPlace inX11_nextPlace seX11_nextPlace lk11_389 rfl (by decide) (Nat.le_of_ble_eq_true rfl) rfl ⟨by decide, rfl⟩ (gpX11_nextPlace_130 x S4 v2 v4 _ _ h9) (fun v h' hq hn => ?_)
              obtain ⟨rfl, rfl⟩ := hq
              refine Ev.steps tokX11_steps 2 (P := True) (pc' := if r11 = (-1) then 135 else 111) (lv' := [some (.ref 130), some (.int v1), some (.int v2), some (.int v3), some (.int v4)]) (st' := []) (h' := mkS x S12) rfl trivial ?_
              refine Ev.ite (fun c13 => ?_) (fun c13 => ?_)
              · rw [if_pos c13] at hm
                exact bpX11_steps_130_135 x k23 hk23 k76 hk76 S12 v1 v2 v3 v4 _ _ hm
              · rw [if_neg c13] at hm
                refine Ev.steps tokX11_steps 5 (P := True) (pc' := 119) (lv' := [some (.ref 130), some (.int v1), some (.int v2), some (.int v3), some (.int v4)]) (st' := [.int v4, .int v2, .ref 130, .ref 151]) (h' := mkS x S12) rfl trivial ?_
                cases h14 : gfX11_nextPlace_130 x S12 v2 v4 with
                | none => rw [h14] at hm; cases hm
                | some q15 =>
                  obtain ⟨r16, S17⟩ := q15
                  rw [h14] at hm
                  dsimp only at hm
                  refine ev_callV (N := mX11_nextPlace) (d' := 1) (bc := 0) (bs := 0) (bc' := 0) (bs' := 0) (as := [.int v2, .int v4]) (rest := [.ref 151]) (a := 130) (ci := 11) (dcd tokX11_steps rfl) okX11_nextPlace inX11_nextPlace seX11_nextPlace lk11_389 rfl (by decide) (Nat.le_of_ble_eq_true rfl) rfl ⟨by decide, rfl⟩ (gpX11_nextPlace_130 x S12 v2 v4 _ _ h14) (fun v h' hq hn => ?_)
                  obtain ⟨rfl, rfl⟩ := hq
                  obtain ⟨o18, hm⟩ := oblk hm
                  obtain ⟨o19, hm⟩ := oblk hm
                  obtain ⟨o20, hm⟩ := oblk hm
                  obtain ⟨o21, hm⟩ := oblk hm
                  refine Ev.steps tokX11_steps 11 (P := vp_in r16 120 ∧ vp_in v2 120 ∧ ¬ v3.toInt64 = 0 ∧ vp_in r16 120 ∧ True) (pc' := 135) (lv' := [some (.ref 130), some (.int v1), some (.int v2), some (.int v3), some (.int v4)]) (st' := []) (h' := mkS x (S17.1, S17.2.1, (u2 S17.2.2.1 151 r16.toNatClampNeg ((S17.2.2.1 151 r16.toNatClampNeg) + ((S17.2.2.1 150 v2.toNatClampNeg) / v3.toInt64))), S17.2.2.2)) rfl ⟨inb_ok o18, inb_ok o19, nzl_ok o20, inb_ok o21, trivial⟩ ?_
                  exact bpX11_steps_130_135 x k23 hk23 k76 hk76 (S17.1, S17.2.1, (u2 S17.2.2.1 151 r16.toNatClampNeg ((S17.2.2.1 151 r16.toNatClampNeg) + ((S17.2.2.1 150 v2.toNatClampNeg) / v3.toInt64))), S17.2.2.2) v1 v2 v3 v4 _ _ hm
theorem lpX11_steps_130_76 (x : XT) (k23 : ST → Int32 → Int32 → Option (Unit × ST)) (hk23 : ∀ (S : ST) (v1 : Int32) (v2 : Int32) (r : Unit) (S' : ST), k23 S v1 v2 = some (r, S') → Ev mX11_steps 3 0 0 23 [some (.ref 130), some (.int v1), some (.int v2), none, none] [] (mkS x S) (fun v h => v = none ∧ h = mkS x S')) : ∀ (n : Nat) (S : ST) (v1 : Int32) (v2 : Int32) (v3 : Int32) (v4 : Int32) (r : Unit) (S' : ST), lfX11_steps_130_76 x k23 n S v1 v2 v3 v4 = some (r, S') → Ev mX11_steps 3 0 0 76 [some (.ref 130), some (.int v1), some (.int v2), some (.int v3), some (.int v4)] [] (mkS x S) (fun v h => v = none ∧ h = mkS x S')
  | 0, _, _, _, _, _, _, _, hm => by cases hm
  | n + 1, S, v1, v2, v3, v4, r, S', hm => bpX11_steps_130_76 x k23 hk23 (lfX11_steps_130_76 x k23 n) (lpX11_steps_130_76 x k23 hk23 n) S v1 v2 v3 v4 r S' hm
set_option maxHeartbeats 4000000 in
set_option maxRecDepth 20000 in
theorem bpX11_steps_130_73 (x : XT) (k23 : ST → Int32 → Int32 → Option (Unit × ST)) (hk23 : ∀ (S : ST) (v1 : Int32) (v2 : Int32) (r : Unit) (S' : ST), k23 S v1 v2 = some (r, S') → Ev mX11_steps 3 0 0 23 [some (.ref 130), some (.int v1), some (.int v2), none, none] [] (mkS x S) (fun v h => v = none ∧ h = mkS x S')) (S : ST) (v1 : Int32) (v2 : Int32) (v3 : Int32) (r : Unit) (S' : ST) (hm : bfX11_steps_130_73 x k23 S v1 v2 v3 = some (r, S')) : Ev mX11_steps 3 0 0 73 [some (.ref 130), some (.int v1), some (.int v2), some (.int v3), none] [] (mkS x S) (fun v h => v = none ∧ h = mkS x S') := by
    unfold bfX11_steps_130_73 at hm
    refine Ev.steps tokX11_steps 2 (P := True) (pc' := 76) (lv' := [some (.ref 130), some (.int v1), some (.int v2), some (.int v3), some (.int 0)]) (st' := []) (h' := mkS x S) rfl trivial ?_
    exact lpX11_steps_130_76 x k23 hk23 20000 S v1 v2 v3 0 _ _ hm
set_option maxHeartbeats 4000000 in
set_option maxRecDepth 20000 in
theorem bpX11_steps_130_53 (x : XT) (k23 : ST → Int32 → Int32 → Option (Unit × ST)) (hk23 : ∀ (S : ST) (v1 : Int32) (v2 : Int32) (r : Unit) (S' : ST), k23 S v1 v2 = some (r, S') → Ev mX11_steps 3 0 0 23 [some (.ref 130), some (.int v1), some (.int v2), none, none] [] (mkS x S) (fun v h => v = none ∧ h = mkS x S')) (S : ST) (v1 : Int32) (v2 : Int32) (t0 : Int32) (r : Unit) (S' : ST) (hm : bfX11_steps_130_53 x k23 S v1 v2 t0 = some (r, S')) : Ev mX11_steps 3 0 0 53 [some (.ref 130), some (.int v1), some (.int v2), none, none] [.int t0] (mkS x S) (fun v h => v = none ∧ h = mkS x S') := by
    unfold bfX11_steps_130_53 at hm
    refine Ev.steps tokX11_steps 3 (P := True) (pc' := if ¬ t0 = 0 then 73 else 58) (lv' := [some (.ref 130), some (.int v1), some (.int v2), some (.int t0), none]) (st' := []) (h' := mkS x S) rfl trivial ?_
    refine Ev.ite (fun c1 => ?_) (fun c1 => ?_)
    · rw [if_pos c1] at hm
      exact bpX11_steps_130_73 x k23 hk23 S v1 v2 t0 _ _ hm
    · rw [if_neg c1] at hm
      obtain ⟨o2, hm⟩ := oblk hm
      obtain ⟨o3, hm⟩ := oblk hm
      obtain ⟨o4, hm⟩ := oblk hm
      refine Ev.steps tokX11_steps 11 (P := vp_in v2 120 ∧ vp_in v2 120 ∧ vp_in v2 120 ∧ True) (pc' := 73) (lv' := [some (.ref 130), some (.int v1), some (.int v2), some (.int t0), none]) (st' := []) (h' := mkS x (S.1, S.2.1, (u2 S.2.2.1 151 v2.toNatClampNeg ((S.2.2.1 151 v2.toNatClampNeg) + (S.2.2.1 150 v2.toNatClampNeg))), S.2.2.2)) rfl ⟨inb_ok o2, inb_ok o3, inb_ok o4, trivial⟩ ?_
      exact bpX11_steps_130_73 x k23 hk23 (S.1, S.2.1, (u2 S.2.2.1 151 v2.toNatClampNeg ((S.2.2.1 151 v2.toNatClampNeg) + (S.2.2.1 150 v2.toNatClampNeg))), S.2.2.2) v1 v2 t0 _ _ hm
set_option maxHeartbeats 4000000 in
set_option maxRecDepth 20000 in
theorem bpX11_steps_130_52 (x : XT) (k23 : ST → Int32 → Int32 → Option (Unit × ST)) (hk23 : ∀ (S : ST) (v1 : Int32) (v2 : Int32) (r : Unit) (S' : ST), k23 S v1 v2 = some (r, S') → Ev mX11_steps 3 0 0 23 [some (.ref 130), some (.int v1), some (.int v2), none, none] [] (mkS x S) (fun v h => v = none ∧ h = mkS x S')) (S : ST) (v1 : Int32) (v2 : Int32) (r : Unit) (S' : ST) (hm : bfX11_steps_130_52 x k23 S v1 v2 = some (r, S')) : Ev mX11_steps 3 0 0 52 [some (.ref 130), some (.int v1), some (.int v2), none, none] [] (mkS x S) (fun v h => v = none ∧ h = mkS x S') := by
    unfold bfX11_steps_130_52 at hm
    refine Ev.steps tokX11_steps 1 (P := True) (pc' := 53) (lv' := [some (.ref 130), some (.int v1), some (.int v2), none, none]) (st' := [.int 1]) (h' := mkS x S) rfl trivial ?_
    exact bpX11_steps_130_53 x k23 hk23 S v1 v2 1 _ _ hm
set_option maxHeartbeats 4000000 in
set_option maxRecDepth 20000 in
theorem bpX11_steps_130_23 (x : XT) (k23 : ST → Int32 → Int32 → Option (Unit × ST)) (hk23 : ∀ (S : ST) (v1 : Int32) (v2 : Int32) (r : Unit) (S' : ST), k23 S v1 v2 = some (r, S') → Ev mX11_steps 3 0 0 23 [some (.ref 130), some (.int v1), some (.int v2), none, none] [] (mkS x S) (fun v h => v = none ∧ h = mkS x S')) (S : ST) (v1 : Int32) (v2 : Int32) (r : Unit) (S' : ST) (hm : bfX11_steps_130_23 x k23 S v1 v2 = some (r, S')) : Ev mX11_steps 3 0 0 23 [some (.ref 130), some (.int v1), some (.int v2), none, none] [] (mkS x S) (fun v h => v = none ∧ h = mkS x S') := by
    unfold bfX11_steps_130_23 at hm
    refine Ev.steps tokX11_steps 3 (P := True) (pc' := if 120 ≤ v2 then 147 else 29) (lv' := [some (.ref 130), some (.int v1), some (.int v2), none, none]) (st' := []) (h' := mkS x S) rfl trivial ?_
    refine Ev.ite (fun c1 => ?_) (fun c1 => ?_)
    · rw [if_pos c1] at hm
      refine Ev.steps tokX11_steps 2 (P := True) (pc' := 149) (lv' := [some (.ref 130), some (.int v1), some (.int 0), none, none]) (st' := []) (h' := mkS x S) rfl trivial ?_
      refine Ev.fgt (lv' := [some (.ref 130), none, some (.int 0), none, none]) ⟨rfl, rfl, trivial⟩ ?_
      exact lpX11_steps_130_149 x  20000 S 0 _ _ hm
    · rw [if_neg c1] at hm
      refine Ev.steps tokX11_steps 2 (P := True) (pc' := if v1 = 0 then 52 else 33) (lv' := [some (.ref 130), some (.int v1), some (.int v2), none, none]) (st' := []) (h' := mkS x S) rfl trivial ?_
      refine Ev.ite (fun c2 => ?_) (fun c2 => ?_)
      · rw [if_pos c2] at hm
        exact bpX11_steps_130_52 x k23 hk23 S v1 v2 _ _ hm
      · rw [if_neg c2] at hm
        obtain ⟨o3, hm⟩ := oblk hm
        refine Ev.steps tokX11_steps 7 (P := vp_in v2 120 ∧ True) (pc' := if (lg_cmp (S.2.2.1 150 v2.toNatClampNeg) 0) ≤ 0 then 52 else 44) (lv' := [some (.ref 130), some (.int v1), some (.int v2), none, none]) (st' := []) (h' := mkS x S) rfl ⟨inb_ok o3, trivial⟩ ?_
        refine Ev.ite (fun c4 => ?_) (fun c4 => ?_)
        · rw [if_pos c4] at hm
          exact bpX11_steps_130_52 x k23 hk23 S v1 v2 _ _ hm
        · rw [if_neg c4] at hm
          refine Ev.steps tokX11_steps 2 (P := True) (pc' := 46) (lv' := [some (.ref 130), some (.int v1), some (.int v2), none, none]) (st' := [.int v2, .ref 130]) (h' := mkS x S) rfl trivial ?_
          cases h5 : gfX11_gatesFrom_130 x S v2 with
          | none => rw [h5] at hm; cases hm
          | some q6 =>
            obtain ⟨r7, S8⟩ := q6
            rw [h5] at hm
            dsimp only at hm
            refine ev_callV (N := mX11_gatesFrom) (d' := 2) (bc := 0) (bs := 0) (bc' := 0) (bs' := 0) (as := [.int v2]) (rest := []) (a := 130) (ci := 11) (dcd tokX11_steps rfl) okX11_gatesFrom inX11_gatesFrom seX11_gatesFrom lk11_418 rfl (by decide) (Nat.le_of_ble_eq_true rfl) rfl ⟨by decide, rfl⟩ (gpX11_gatesFrom_130 x S v2 _ _ h5) (fun v h' hq hn => ?_)
            obtain ⟨rfl, rfl⟩ := hq
            refine Ev.steps tokX11_steps 1 (P := True) (pc' := 53) (lv' := [some (.ref 130), some (.int v1), some (.int v2), none, none]) (st' := [.int r7]) (h' := mkS x S8) rfl trivial ?_
            exact bpX11_steps_130_53 x k23 hk23 S8 v1 v2 r7 _ _ hm
theorem lpX11_steps_130_23 (x : XT)  : ∀ (n : Nat) (S : ST) (v1 : Int32) (v2 : Int32) (r : Unit) (S' : ST), lfX11_steps_130_23 x  n S v1 v2 = some (r, S') → Ev mX11_steps 3 0 0 23 [some (.ref 130), some (.int v1), some (.int v2), none, none] [] (mkS x S) (fun v h => v = none ∧ h = mkS x S')
  | 0, _, _, _, _, _, hm => by cases hm
  | n + 1, S, v1, v2, r, S', hm => bpX11_steps_130_23 x (lfX11_steps_130_23 x  n) (lpX11_steps_130_23 x  n) S v1 v2 r S' hm
set_option maxHeartbeats 4000000 in
set_option maxRecDepth 20000 in
theorem bpX11_steps_130_2 (x : XT) (k2 : ST → Int32 → Int32 → Option (Unit × ST)) (hk2 : ∀ (S : ST) (v1 : Int32) (v2 : Int32) (r : Unit) (S' : ST), k2 S v1 v2 = some (r, S') → Ev mX11_steps 3 0 0 2 [some (.ref 130), some (.int v1), some (.int v2), none, none] [] (mkS x S) (fun v h => v = none ∧ h = mkS x S')) (S : ST) (v1 : Int32) (v2 : Int32) (r : Unit) (S' : ST) (hm : bfX11_steps_130_2 x k2 S v1 v2 = some (r, S')) : Ev mX11_steps 3 0 0 2 [some (.ref 130), some (.int v1), some (.int v2), none, none] [] (mkS x S) (fun v h => v = none ∧ h = mkS x S') := by
    unfold bfX11_steps_130_2 at hm
    refine Ev.steps tokX11_steps 3 (P := True) (pc' := if 120 ≤ v2 then 21 else 8) (lv' := [some (.ref 130), some (.int v1), some (.int v2), none, none]) (st' := []) (h' := mkS x S) rfl trivial ?_
    refine Ev.ite (fun c1 => ?_) (fun c1 => ?_)
    · rw [if_pos c1] at hm
      refine Ev.steps tokX11_steps 2 (P := True) (pc' := 23) (lv' := [some (.ref 130), some (.int v1), some (.int 0), none, none]) (st' := []) (h' := mkS x S) rfl trivial ?_
      exact lpX11_steps_130_23 x  20000 S v1 0 _ _ hm
    · rw [if_neg c1] at hm
      obtain ⟨o2, hm⟩ := oblk hm
      refine Ev.steps tokX11_steps 7 (P := vp_in v2 120 ∧ True) (pc' := 2) (lv' := [some (.ref 130), some (.int v1), some (.int (v2 + 1)), none, none]) (st' := []) (h' := mkS x (S.1, S.2.1, (u2 S.2.2.1 151 v2.toNatClampNeg 0), S.2.2.2)) rfl ⟨inb_ok o2, trivial⟩ ?_
      exact hk2 (S.1, S.2.1, (u2 S.2.2.1 151 v2.toNatClampNeg 0), S.2.2.2) v1 (v2 + 1) _ _ hm
theorem lpX11_steps_130_2 (x : XT)  : ∀ (n : Nat) (S : ST) (v1 : Int32) (v2 : Int32) (r : Unit) (S' : ST), lfX11_steps_130_2 x  n S v1 v2 = some (r, S') → Ev mX11_steps 3 0 0 2 [some (.ref 130), some (.int v1), some (.int v2), none, none] [] (mkS x S) (fun v h => v = none ∧ h = mkS x S')
  | 0, _, _, _, _, _, hm => by cases hm
  | n + 1, S, v1, v2, r, S', hm => bpX11_steps_130_2 x (lfX11_steps_130_2 x  n) (lpX11_steps_130_2 x  n) S v1 v2 r S' hm
set_option maxHeartbeats 4000000 in
set_option maxRecDepth 20000 in
theorem bpX11_steps_130_0 (x : XT)  (S : ST) (p1 : Int32) (r : Unit) (S' : ST) (hm : bfX11_steps_130_0 x  S p1 = some (r, S')) : Ev mX11_steps 3 0 0 0 [some (.ref 130), some (.int p1), none, none, none] [] (mkS x S) (fun v h => v = none ∧ h = mkS x S') := by
    unfold bfX11_steps_130_0 at hm
    refine Ev.steps tokX11_steps 2 (P := True) (pc' := 2) (lv' := [some (.ref 130), some (.int p1), some (.int 0), none, none]) (st' := []) (h' := mkS x S) rfl trivial ?_
    exact lpX11_steps_130_2 x  20000 S p1 0 _ _ hm
theorem gpX11_steps_130 (x : XT) (S : ST) (p1 : Int32) (r : Unit) (S' : ST) (hm : gfX11_steps_130 x S p1 = some (r, S')) : Ct mX11_steps 3 0 0 [.ref 130, .int p1] (mkS x S) (fun v h => v = none ∧ h = mkS x S') :=
  Ct.of (lv := [some (.ref 130), some (.int p1), none, none, none]) rfl rfl rfl (show (_ : Nat) ≤ _ from Nat.le_of_ble_eq_true rfl) (fun G => rfl) (bpX11_steps_130_0 x S p1 r S' hm)
set_option maxHeartbeats 4000000 in
set_option maxRecDepth 20000 in
theorem bpX11_partsAt_130_34 (x : XT) (k5 : ST → Int32 → Int32 → Int64 → Int32 → Option (Int64 × ST)) (hk5 : ∀ (S : ST) (v1 : Int32) (v2 : Int32) (v3 : Int64) (v5 : Int32) (r : Int64) (S' : ST), k5 S v1 v2 v3 v5 = some (r, S') → Ev mX11_partsAt 2 0 0 5 [some (.ref 130), some (.int v1), some (.int v2), some (.long v3), none, some (.int v5)] [] (mkS x S) (fun v h => v = some (.long r) ∧ h = mkS x S')) (S : ST) (v1 : Int32) (v2 : Int32) (v5 : Int32) (t0 : Int64) (t1 : Int64) (r : Int64) (S' : ST) (hm : bfX11_partsAt_130_34 x k5 S v1 v2 v5 t0 t1 = some (r, S')) : Ev mX11_partsAt 2 0 0 34 [some (.ref 130), some (.int v1), some (.int v2), none, none, some (.int v5)] [.long t1, .long t0] (mkS x S) (fun v h => v = some (.long r) ∧ h = mkS x S') := by
    unfold bfX11_partsAt_130_34 at hm
    refine Ev.steps tokX11_partsAt 4 (P := True) (pc' := 5) (lv' := [some (.ref 130), some (.int v1), some (.int v2), some (.long (t0 + t1)), none, some (.int (v5 + 1))]) (st' := []) (h' := mkS x S) rfl trivial ?_
    exact hk5 S v1 v2 (t0 + t1) (v5 + 1) _ _ hm
set_option maxHeartbeats 4000000 in
set_option maxRecDepth 20000 in
theorem bpX11_partsAt_130_5 (x : XT) (k5 : ST → Int32 → Int32 → Int64 → Int32 → Option (Int64 × ST)) (hk5 : ∀ (S : ST) (v1 : Int32) (v2 : Int32) (v3 : Int64) (v5 : Int32) (r : Int64) (S' : ST), k5 S v1 v2 v3 v5 = some (r, S') → Ev mX11_partsAt 2 0 0 5 [some (.ref 130), some (.int v1), some (.int v2), some (.long v3), none, some (.int v5)] [] (mkS x S) (fun v h => v = some (.long r) ∧ h = mkS x S')) (S : ST) (v1 : Int32) (v2 : Int32) (v3 : Int64) (v5 : Int32) (r : Int64) (S' : ST) (hm : bfX11_partsAt_130_5 x k5 S v1 v2 v3 v5 = some (r, S')) : Ev mX11_partsAt 2 0 0 5 [some (.ref 130), some (.int v1), some (.int v2), some (.long v3), none, some (.int v5)] [] (mkS x S) (fun v h => v = some (.long r) ∧ h = mkS x S') := by
    unfold bfX11_partsAt_130_5 at hm
    refine Ev.steps tokX11_partsAt 3 (P := True) (pc' := if 120 ≤ v5 then 42 else 12) (lv' := [some (.ref 130), some (.int v1), some (.int v2), some (.long v3), none, some (.int v5)]) (st' := []) (h' := mkS x S) rfl trivial ?_
    refine Ev.ite (fun c1 => ?_) (fun c1 => ?_)
    · rw [if_pos c1] at hm
      refine Ev.steps tokX11_partsAt 1 (P := True) (pc' := 43) (lv' := [some (.ref 130), some (.int v1), some (.int v2), some (.long v3), none, some (.int v5)]) (st' := [.long v3]) (h' := mkS x S) rfl trivial ?_
      cases hm
      exact Ev.retl tokX11_partsAt rfl rfl ⟨rfl, rfl⟩
    · rw [if_neg c1] at hm
      refine Ev.steps tokX11_partsAt 4 (P := True) (pc' := 17) (lv' := [some (.ref 130), some (.int v1), some (.int v2), some (.long v3), none, some (.int v5)]) (st' := [.int v2, .int v1, .int v5, .long v3]) (h' := mkS x S) rfl trivial ?_
      cases h2 : gfX11_isGoal x S v5 v1 v2 with
      | none => rw [h2] at hm; cases hm
      | some q3 =>
        obtain ⟨r4, S5⟩ := q3
        rw [h2] at hm
        dsimp only at hm
        refine ev_callS (N := mX11_isGoal) (d' := 1) (bc := 0) (bs := 0) (bc' := 0) (bs' := 0) (as := [.int v5, .int v1, .int v2]) (rest := [.long v3]) (dcd tokX11_partsAt rfl) okX11_isGoal inX11_isGoal lk11_386 rfl (by decide) (Nat.le_of_ble_eq_true rfl) (gpX11_isGoal x S v5 v1 v2 _ _ h2) (fun v h' hq hn => ?_)
        obtain ⟨rfl, rfl⟩ := hq
        refine Ev.steps tokX11_partsAt 1 (P := True) (pc' := if r4 = 0 then 33 else 23) (lv' := [some (.ref 130), some (.int v1), some (.int v2), some (.long v3), none, some (.int v5)]) (st' := [.long v3]) (h' := mkS x S5) rfl trivial ?_
        refine Ev.ite (fun c6 => ?_) (fun c6 => ?_)
        · rw [if_pos c6] at hm
          refine Ev.steps tokX11_partsAt 1 (P := True) (pc' := 34) (lv' := [some (.ref 130), some (.int v1), some (.int v2), some (.long v3), none, some (.int v5)]) (st' := [.long 0, .long v3]) (h' := mkS x S5) rfl trivial ?_
          refine Ev.fgt (lv' := [some (.ref 130), some (.int v1), some (.int v2), none, none, some (.int v5)]) ⟨rfl, rfl, rfl, rfl, trivial⟩ ?_
          exact bpX11_partsAt_130_34 x k5 hk5 S5 v1 v2 v5 v3 0 _ _ hm
        · rw [if_neg c6] at hm
          obtain ⟨o7, hm⟩ := oblk hm
          refine Ev.steps tokX11_partsAt 5 (P := vp_in v5 120 ∧ True) (pc' := 34) (lv' := [some (.ref 130), some (.int v1), some (.int v2), some (.long v3), none, some (.int v5)]) (st' := [.long (S5.2.2.1 150 v5.toNatClampNeg), .long v3]) (h' := mkS x S5) rfl ⟨inb_ok o7, trivial⟩ ?_
          refine Ev.fgt (lv' := [some (.ref 130), some (.int v1), some (.int v2), none, none, some (.int v5)]) ⟨rfl, rfl, rfl, rfl, trivial⟩ ?_
          exact bpX11_partsAt_130_34 x k5 hk5 S5 v1 v2 v5 v3 (S5.2.2.1 150 v5.toNatClampNeg) _ _ hm
theorem lpX11_partsAt_130_5 (x : XT)  : ∀ (n : Nat) (S : ST) (v1 : Int32) (v2 : Int32) (v3 : Int64) (v5 : Int32) (r : Int64) (S' : ST), lfX11_partsAt_130_5 x  n S v1 v2 v3 v5 = some (r, S') → Ev mX11_partsAt 2 0 0 5 [some (.ref 130), some (.int v1), some (.int v2), some (.long v3), none, some (.int v5)] [] (mkS x S) (fun v h => v = some (.long r) ∧ h = mkS x S')
  | 0, _, _, _, _, _, _, _, hm => by cases hm
  | n + 1, S, v1, v2, v3, v5, r, S', hm => bpX11_partsAt_130_5 x (lfX11_partsAt_130_5 x  n) (lpX11_partsAt_130_5 x  n) S v1 v2 v3 v5 r S' hm
set_option maxHeartbeats 4000000 in
set_option maxRecDepth 20000 in
theorem bpX11_partsAt_130_0 (x : XT)  (S : ST) (p1 : Int32) (p2 : Int32) (r : Int64) (S' : ST) (hm : bfX11_partsAt_130_0 x  S p1 p2 = some (r, S')) : Ev mX11_partsAt 2 0 0 0 [some (.ref 130), some (.int p1), some (.int p2), none, none, none] [] (mkS x S) (fun v h => v = some (.long r) ∧ h = mkS x S') := by
    unfold bfX11_partsAt_130_0 at hm
    refine Ev.steps tokX11_partsAt 4 (P := True) (pc' := 5) (lv' := [some (.ref 130), some (.int p1), some (.int p2), some (.long 0), none, some (.int 0)]) (st' := []) (h' := mkS x S) rfl trivial ?_
    exact lpX11_partsAt_130_5 x  20000 S p1 p2 0 0 _ _ hm
theorem gpX11_partsAt_130 (x : XT) (S : ST) (p1 : Int32) (p2 : Int32) (r : Int64) (S' : ST) (hm : gfX11_partsAt_130 x S p1 p2 = some (r, S')) : Ct mX11_partsAt 2 0 0 [.ref 130, .int p1, .int p2] (mkS x S) (fun v h => v = some (.long r) ∧ h = mkS x S') :=
  Ct.of (lv := [some (.ref 130), some (.int p1), some (.int p2), none, none, none]) rfl rfl rfl (show (_ : Nat) ≤ _ from Nat.le_of_ble_eq_true rfl) (fun G => rfl) (bpX11_partsAt_130_0 x S p1 p2 r S' hm)
end MIR
