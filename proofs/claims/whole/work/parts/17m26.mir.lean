section MIR
set_option maxHeartbeats 4000000 in
set_option maxRecDepth 20000 in
theorem bpX11_latchesKept_130_0 (x : XT)  (S : ST) (p1 : Int32) (r : Int32) (S' : ST) (hm : bfX11_latchesKept_130_0 x  S p1 = some (r, S')) : Ev mX11_latchesKept 3 0 0 0 [some (.ref 130), some (.int p1)] [] (mkS x S) (fun v h => v = some (.int r) ∧ h = mkS x S') := by
    unfold bfX11_latchesKept_130_0 at hm
    refine Ev.steps tokX11_latchesKept 2 (P := True) (pc' := 2) (lv' := [some (.ref 130), some (.int p1)]) (st' := [.int p1, .ref 130]) (h' := mkS x S) rfl trivial ?_
    cases h1 : gfX11_isGate_130 x S p1 with
    | none => rw [h1] at hm; cases hm
    | some q2 =>
      obtain ⟨r3, S4⟩ := q2
      rw [h1] at hm
      dsimp only at hm
      refine ev_callV (N := mX11_isGate) (d' := 2) (bc := 0) (bs := 0) (bc' := 0) (bs' := 0) (as := [.int p1]) (rest := []) (a := 130) (ci := 11) (dcd tokX11_latchesKept rfl) okX11_isGate inX11_isGate seX11_isGate lk11_143 rfl (by decide) (Nat.le_of_ble_eq_true rfl) rfl ⟨by decide, rfl⟩ (gpX11_isGate_130 x S p1 _ _ h1) (fun v h' hq hn => ?_)
      obtain ⟨rfl, rfl⟩ := hq
      refine Ev.steps tokX11_latchesKept 1 (P := True) (pc' := if ¬ r3 = 0 then 11 else 8) (lv' := [some (.ref 130), some (.int p1)]) (st' := []) (h' := mkS x S4) rfl trivial ?_
      refine Ev.ite (fun c5 => ?_) (fun c5 => ?_)
      · rw [if_pos c5] at hm
        refine Ev.steps tokX11_latchesKept 2 (P := True) (pc' := 13) (lv' := [some (.ref 130), some (.int p1)]) (st' := [.int 1, .ref 130]) (h' := mkS x S4) rfl trivial ?_
        cases h6 : gfX11_keeps_130 x S4 1 with
        | none => rw [h6] at hm; cases hm
        | some q7 =>
          obtain ⟨r8, S9⟩ := q7
          rw [h6] at hm
          dsimp only at hm
          refine ev_callV (N := mX11_keeps) (d' := 1) (bc := 0) (bs := 0) (bc' := 0) (bs' := 0) (as := [.int 1]) (rest := []) (a := 130) (ci := 11) (dcd tokX11_latchesKept rfl) okX11_keeps inX11_keeps seX11_keeps lk11_362 rfl (by decide) (Nat.le_of_ble_eq_true rfl) rfl ⟨by decide, rfl⟩ (gpX11_keeps_130 x S4 1 _ _ h6) (fun v h' hq hn => ?_)
          obtain ⟨rfl, rfl⟩ := hq
          obtain ⟨o10, hm⟩ := oblk hm
          obtain ⟨o11, hm⟩ := oblk hm
          obtain ⟨o12, hm⟩ := oblk hm
          refine Ev.steps tokX11_latchesKept 20 (P := vp_in (25 + p1) 5703 ∧ vp_in (25 + p1) 5703 ∧ vp_in (25 + p1) 5703 ∧ True) (pc' := 45) (lv' := [some (.ref 130), some (.int p1)]) (st' := [.int ((u2 S9.2.1 132 ((25 + p1).toNatClampNeg) (1 - (S9.2.1 132 ((25 + p1).toNatClampNeg)))) 132 ((25 + p1).toNatClampNeg))]) (h' := mkS x (S9.1, (u2 S9.2.1 132 ((25 + p1).toNatClampNeg) (1 - (S9.2.1 132 ((25 + p1).toNatClampNeg)))), S9.2.2.1, S9.2.2.2)) rfl ⟨inb_ok o10, inb_ok o11, inb_ok o12, trivial⟩ ?_
          cases hm
          exact Ev.reti tokX11_latchesKept rfl rfl ⟨rfl, rfl⟩
      · rw [if_neg c5] at hm
        refine Ev.steps tokX11_latchesKept 1 (P := True) (pc' := 10) (lv' := [some (.ref 130), some (.int p1)]) (st' := [.int (-2)]) (h' := mkS x S4) rfl trivial ?_
        cases hm
        exact Ev.reti tokX11_latchesKept rfl rfl ⟨rfl, rfl⟩
theorem gpX11_latchesKept_130 (x : XT) (S : ST) (p1 : Int32) (r : Int32) (S' : ST) (hm : gfX11_latchesKept_130 x S p1 = some (r, S')) : Ct mX11_latchesKept 3 0 0 [.ref 130, .int p1] (mkS x S) (fun v h => v = some (.int r) ∧ h = mkS x S') :=
  Ct.of (lv := [some (.ref 130), some (.int p1)]) rfl rfl rfl (show (_ : Nat) ≤ _ from Nat.le_of_ble_eq_true rfl) (fun G => rfl) (bpX11_latchesKept_130_0 x S p1 r S' hm)
set_option maxHeartbeats 4000000 in
set_option maxRecDepth 20000 in
theorem bpX11_setsKept_130_0 (x : XT)  (S : ST) (p1 : Int32) (p2 : Int32) (r : Int32) (S' : ST) (hm : bfX11_setsKept_130_0 x  S p1 p2 = some (r, S')) : Ev mX11_setsKept 3 0 0 0 [some (.ref 130), some (.int p1), some (.int p2), none] [] (mkS x S) (fun v h => v = some (.int r) ∧ h = mkS x S') := by
    unfold bfX11_setsKept_130_0 at hm
    refine Ev.steps tokX11_setsKept 1 (P := True) (pc' := 1) (lv' := [some (.ref 130), some (.int p1), some (.int p2), none]) (st' := [.int p2]) (h' := mkS x S) rfl trivial ?_
    cases h1 : gfX11_isArm x S p2 with
    | none => rw [h1] at hm; cases hm
    | some q2 =>
      obtain ⟨r3, S4⟩ := q2
      rw [h1] at hm
      dsimp only at hm
      refine ev_callS (N := mX11_isArm) (d' := 2) (bc := 0) (bs := 0) (bc' := 0) (bs' := 0) (as := [.int p2]) (rest := []) (dcd tokX11_setsKept rfl) okX11_isArm inX11_isArm lk11_132 rfl (by decide) (Nat.le_of_ble_eq_true rfl) (gpX11_isArm x S p2 _ _ h1) (fun v h' hq hn => ?_)
      obtain ⟨rfl, rfl⟩ := hq
      refine Ev.steps tokX11_setsKept 1 (P := True) (pc' := if ¬ r3 = 0 then 9 else 7) (lv' := [some (.ref 130), some (.int p1), some (.int p2), none]) (st' := []) (h' := mkS x S4) rfl trivial ?_
      refine Ev.ite (fun c5 => ?_) (fun c5 => ?_)
      · rw [if_pos c5] at hm
        refine Ev.steps tokX11_setsKept 2 (P := True) (pc' := 11) (lv' := [some (.ref 130), some (.int p1), some (.int p2), none]) (st' := [.int p1, .ref 130]) (h' := mkS x S4) rfl trivial ?_
        cases h6 : gfX11_isGate_130 x S4 p1 with
        | none => rw [h6] at hm; cases hm
        | some q7 =>
          obtain ⟨r8, S9⟩ := q7
          rw [h6] at hm
          dsimp only at hm
          refine ev_callV (N := mX11_isGate) (d' := 2) (bc := 0) (bs := 0) (bc' := 0) (bs' := 0) (as := [.int p1]) (rest := []) (a := 130) (ci := 11) (dcd tokX11_setsKept rfl) okX11_isGate inX11_isGate seX11_isGate lk11_143 rfl (by decide) (Nat.le_of_ble_eq_true rfl) rfl ⟨by decide, rfl⟩ (gpX11_isGate_130 x S4 p1 _ _ h6) (fun v h' hq hn => ?_)
          obtain ⟨rfl, rfl⟩ := hq
          refine Ev.steps tokX11_setsKept 1 (P := True) (pc' := if ¬ r8 = 0 then 20 else 17) (lv' := [some (.ref 130), some (.int p1), some (.int p2), none]) (st' := []) (h' := mkS x S9) rfl trivial ?_
          refine Ev.ite (fun c10 => ?_) (fun c10 => ?_)
          · rw [if_pos c10] at hm
            obtain ⟨o11, hm⟩ := oblk hm
            refine Ev.steps tokX11_setsKept 10 (P := vp_in (15 + p1) 5703 ∧ True) (pc' := if ¬ (S9.2.1 132 ((15 + p1).toNatClampNeg)) = p2 then 38 else 35) (lv' := [some (.ref 130), some (.int p1), some (.int p2), some (.int (S9.2.1 132 ((15 + p1).toNatClampNeg)))]) (st' := []) (h' := mkS x S9) rfl ⟨inb_ok o11, trivial⟩ ?_
            refine Ev.ite (fun c12 => ?_) (fun c12 => ?_)
            · rw [if_pos c12] at hm
              refine Ev.steps tokX11_setsKept 2 (P := True) (pc' := 40) (lv' := [some (.ref 130), some (.int p1), some (.int p2), some (.int (S9.2.1 132 ((15 + p1).toNatClampNeg)))]) (st' := [.int 2, .ref 130]) (h' := mkS x S9) rfl trivial ?_
              cases h13 : gfX11_keeps_130 x S9 2 with
              | none => rw [h13] at hm; cases hm
              | some q14 =>
                obtain ⟨r15, S16⟩ := q14
                rw [h13] at hm
                dsimp only at hm
                refine ev_callV (N := mX11_keeps) (d' := 1) (bc := 0) (bs := 0) (bc' := 0) (bs' := 0) (as := [.int 2]) (rest := []) (a := 130) (ci := 11) (dcd tokX11_setsKept rfl) okX11_keeps inX11_keeps seX11_keeps lk11_362 rfl (by decide) (Nat.le_of_ble_eq_true rfl) rfl ⟨by decide, rfl⟩ (gpX11_keeps_130 x S9 2 _ _ h13) (fun v h' hq hn => ?_)
                obtain ⟨rfl, rfl⟩ := hq
                obtain ⟨o17, hm⟩ := oblk hm
                refine Ev.steps tokX11_setsKept 8 (P := vp_in (15 + p1) 5703 ∧ True) (pc' := 54) (lv' := [some (.ref 130), some (.int p1), some (.int p2), some (.int (S9.2.1 132 ((15 + p1).toNatClampNeg)))]) (st' := [.int (S9.2.1 132 ((15 + p1).toNatClampNeg))]) (h' := mkS x (S16.1, (u2 S16.2.1 132 ((15 + p1).toNatClampNeg) p2), S16.2.2.1, S16.2.2.2)) rfl ⟨inb_ok o17, trivial⟩ ?_
                cases hm
                exact Ev.reti tokX11_setsKept rfl rfl ⟨rfl, rfl⟩
            · rw [if_neg c12] at hm
              refine Ev.steps tokX11_setsKept 1 (P := True) (pc' := 37) (lv' := [some (.ref 130), some (.int p1), some (.int p2), some (.int (S9.2.1 132 ((15 + p1).toNatClampNeg)))]) (st' := [.int (-3)]) (h' := mkS x S9) rfl trivial ?_
              cases hm
              exact Ev.reti tokX11_setsKept rfl rfl ⟨rfl, rfl⟩
          · rw [if_neg c10] at hm
            refine Ev.steps tokX11_setsKept 1 (P := True) (pc' := 19) (lv' := [some (.ref 130), some (.int p1), some (.int p2), none]) (st' := [.int (-2)]) (h' := mkS x S9) rfl trivial ?_
            cases hm
            exact Ev.reti tokX11_setsKept rfl rfl ⟨rfl, rfl⟩
      · rw [if_neg c5] at hm
        refine Ev.steps tokX11_setsKept 1 (P := True) (pc' := 8) (lv' := [some (.ref 130), some (.int p1), some (.int p2), none]) (st' := [.int (-1)]) (h' := mkS x S4) rfl trivial ?_
        cases hm
        exact Ev.reti tokX11_setsKept rfl rfl ⟨rfl, rfl⟩
theorem gpX11_setsKept_130 (x : XT) (S : ST) (p1 : Int32) (p2 : Int32) (r : Int32) (S' : ST) (hm : gfX11_setsKept_130 x S p1 p2 = some (r, S')) : Ct mX11_setsKept 3 0 0 [.ref 130, .int p1, .int p2] (mkS x S) (fun v h => v = some (.int r) ∧ h = mkS x S') :=
  Ct.of (lv := [some (.ref 130), some (.int p1), some (.int p2), none]) rfl rfl rfl (show (_ : Nat) ≤ _ from Nat.le_of_ble_eq_true rfl) (fun G => rfl) (bpX11_setsKept_130_0 x S p1 p2 r S' hm)
set_option maxHeartbeats 4000000 in
set_option maxRecDepth 20000 in
theorem bpX11_passesKept_130_0 (x : XT)  (S : ST)  (r : Int32) (S' : ST) (hm : bfX11_passesKept_130_0 x  S  = some (r, S')) : Ev mX11_passesKept 2 0 0 0 [some (.ref 130)] [] (mkS x S) (fun v h => v = some (.int r) ∧ h = mkS x S') := by
    unfold bfX11_passesKept_130_0 at hm
    refine Ev.steps tokX11_passesKept 6 (P := vp_in 35 5703 ∧ True) (pc' := if ¬ (S.2.1 132 35) = 999 then 16 else 13) (lv' := [some (.ref 130)]) (st' := []) (h' := mkS x S) rfl ⟨(by unfold vp_in; decide), trivial⟩ ?_
    refine Ev.ite (fun c1 => ?_) (fun c1 => ?_)
    · rw [if_pos c1] at hm
      refine Ev.steps tokX11_passesKept 2 (P := True) (pc' := 18) (lv' := [some (.ref 130)]) (st' := [.int 3, .ref 130]) (h' := mkS x S) rfl trivial ?_
      cases h2 : gfX11_keeps_130 x S 3 with
      | none => rw [h2] at hm; cases hm
      | some q3 =>
        obtain ⟨r4, S5⟩ := q3
        rw [h2] at hm
        dsimp only at hm
        refine ev_callV (N := mX11_keeps) (d' := 1) (bc := 0) (bs := 0) (bc' := 0) (bs' := 0) (as := [.int 3]) (rest := []) (a := 130) (ci := 11) (dcd tokX11_passesKept rfl) okX11_keeps inX11_keeps seX11_keeps lk11_362 rfl (by decide) (Nat.le_of_ble_eq_true rfl) rfl ⟨by decide, rfl⟩ (gpX11_keeps_130 x S 3 _ _ h2) (fun v h' hq hn => ?_)
        obtain ⟨rfl, rfl⟩ := hq
        refine Ev.steps tokX11_passesKept 12 (P := vp_in 35 5703 ∧ vp_in 35 5703 ∧ vp_in 35 5703 ∧ True) (pc' := 39) (lv' := [some (.ref 130)]) (st' := [.int ((S5.2.1 132 35) + 1)]) (h' := mkS x (S5.1, (u2 S5.2.1 132 35 ((S5.2.1 132 35) + 1)), S5.2.2.1, S5.2.2.2)) rfl ⟨(by unfold vp_in; decide), (by unfold vp_in; decide), (by unfold vp_in; decide), trivial⟩ ?_
        cases hm
        exact Ev.reti tokX11_passesKept rfl rfl ⟨rfl, rfl⟩
    · rw [if_neg c1] at hm
      refine Ev.steps tokX11_passesKept 1 (P := True) (pc' := 15) (lv' := [some (.ref 130)]) (st' := [.int (-3)]) (h' := mkS x S) rfl trivial ?_
      cases hm
      exact Ev.reti tokX11_passesKept rfl rfl ⟨rfl, rfl⟩
theorem gpX11_passesKept_130 (x : XT) (S : ST)  (r : Int32) (S' : ST) (hm : gfX11_passesKept_130 x S  = some (r, S')) : Ct mX11_passesKept 2 0 0 [.ref 130] (mkS x S) (fun v h => v = some (.int r) ∧ h = mkS x S') :=
  Ct.of (lv := [some (.ref 130)]) rfl rfl rfl (show (_ : Nat) ≤ _ from Nat.le_of_ble_eq_true rfl) (fun G => rfl) (bpX11_passesKept_130_0 x S  r S' hm)
set_option maxHeartbeats 4000000 in
set_option maxRecDepth 20000 in
theorem bpX11_go_130_0 (x : XT)  (S : ST) (p1 : Int32) (p2 : Int32) (r : Int32) (S' : ST) (hm : bfX11_go_130_0 x  S p1 p2 = some (r, S')) : Ev mX11_go 128 0 0 0 [some (.ref 130), some (.int p1), some (.int p2)] [] (mkS x S) (fun v h => v = some (.int r) ∧ h = mkS x S') := by
    unfold bfX11_go_130_0 at hm
    refine Ev.steps tokX11_go 4 (P := True) (pc' := 4) (lv' := [some (.ref 130), some (.int p1), some (.int p2)]) (st' := [.int p2, .int p1, .ref 130, .ref 130]) (h' := mkS x S) rfl trivial ?_
    cases h1 : gfX11_goesKept_130 x S p1 p2 with
    | none => rw [h1] at hm; cases hm
    | some q2 =>
      obtain ⟨r3, S4⟩ := q2
      rw [h1] at hm
      dsimp only at hm
      refine ev_callV (N := mX11_goesKept) (d' := 127) (bc := 0) (bs := 0) (bc' := 0) (bs' := 0) (as := [.int p1, .int p2]) (rest := [.ref 130]) (a := 130) (ci := 11) (dcd tokX11_go rfl) okX11_goesKept inX11_goesKept seX11_goesKept lk11_368 rfl (by decide) (Nat.le_of_ble_eq_true rfl) rfl ⟨by decide, rfl⟩ (gpX11_goesKept_130 x S p1 p2 _ _ h1) (fun v h' hq hn => ?_)
      obtain ⟨rfl, rfl⟩ := hq
      cases h5 : gfX11_goodOr_130 x S4 r3 with
      | none => rw [h5] at hm; cases hm
      | some q6 =>
        obtain ⟨r7, S8⟩ := q6
        rw [h5] at hm
        dsimp only at hm
        refine ev_callV (N := mX11_goodOr) (d' := 2) (bc := 0) (bs := 0) (bc' := 0) (bs' := 0) (as := [.int r3]) (rest := []) (a := 130) (ci := 11) (dcd tokX11_go rfl) okX11_goodOr inX11_goodOr seX11_goodOr lk11_371 rfl (by decide) (Nat.le_of_ble_eq_true rfl) rfl ⟨by decide, rfl⟩ (gpX11_goodOr_130 x S4 r3 _ _ h5) (fun v h' hq hn => ?_)
        obtain ⟨rfl, rfl⟩ := hq
        cases hm
        exact Ev.reti tokX11_go rfl rfl ⟨rfl, rfl⟩
theorem gpX11_go_130 (x : XT) (S : ST) (p1 : Int32) (p2 : Int32) (r : Int32) (S' : ST) (hm : gfX11_go_130 x S p1 p2 = some (r, S')) : Ct mX11_go 128 0 0 [.ref 130, .int p1, .int p2] (mkS x S) (fun v h => v = some (.int r) ∧ h = mkS x S') :=
  Ct.of (lv := [some (.ref 130), some (.int p1), some (.int p2)]) rfl rfl rfl (show (_ : Nat) ≤ _ from Nat.le_of_ble_eq_true rfl) (fun G => rfl) (bpX11_go_130_0 x S p1 p2 r S' hm)
set_option maxHeartbeats 4000000 in
set_option maxRecDepth 20000 in
theorem bpX11_latch_130_0 (x : XT)  (S : ST) (p1 : Int32) (r : Int32) (S' : ST) (hm : bfX11_latch_130_0 x  S p1 = some (r, S')) : Ev mX11_latch 4 0 0 0 [some (.ref 130), some (.int p1)] [] (mkS x S) (fun v h => v = some (.int r) ∧ h = mkS x S') := by
    unfold bfX11_latch_130_0 at hm
    refine Ev.steps tokX11_latch 3 (P := True) (pc' := 3) (lv' := [some (.ref 130), some (.int p1)]) (st' := [.int p1, .ref 130, .ref 130]) (h' := mkS x S) rfl trivial ?_
    cases h1 : gfX11_latchesKept_130 x S p1 with
    | none => rw [h1] at hm; cases hm
    | some q2 =>
      obtain ⟨r3, S4⟩ := q2
      rw [h1] at hm
      dsimp only at hm
      refine ev_callV (N := mX11_latchesKept) (d' := 3) (bc := 0) (bs := 0) (bc' := 0) (bs' := 0) (as := [.int p1]) (rest := [.ref 130]) (a := 130) (ci := 11) (dcd tokX11_latch rfl) okX11_latchesKept inX11_latchesKept seX11_latchesKept lk11_374 rfl (by decide) (Nat.le_of_ble_eq_true rfl) rfl ⟨by decide, rfl⟩ (gpX11_latchesKept_130 x S p1 _ _ h1) (fun v h' hq hn => ?_)
      obtain ⟨rfl, rfl⟩ := hq
      cases h5 : gfX11_goodOr_130 x S4 r3 with
      | none => rw [h5] at hm; cases hm
      | some q6 =>
        obtain ⟨r7, S8⟩ := q6
        rw [h5] at hm
        dsimp only at hm
        refine ev_callV (N := mX11_goodOr) (d' := 2) (bc := 0) (bs := 0) (bc' := 0) (bs' := 0) (as := [.int r3]) (rest := []) (a := 130) (ci := 11) (dcd tokX11_latch rfl) okX11_goodOr inX11_goodOr seX11_goodOr lk11_371 rfl (by decide) (Nat.le_of_ble_eq_true rfl) rfl ⟨by decide, rfl⟩ (gpX11_goodOr_130 x S4 r3 _ _ h5) (fun v h' hq hn => ?_)
        obtain ⟨rfl, rfl⟩ := hq
        cases hm
        exact Ev.reti tokX11_latch rfl rfl ⟨rfl, rfl⟩
theorem gpX11_latch_130 (x : XT) (S : ST) (p1 : Int32) (r : Int32) (S' : ST) (hm : gfX11_latch_130 x S p1 = some (r, S')) : Ct mX11_latch 4 0 0 [.ref 130, .int p1] (mkS x S) (fun v h => v = some (.int r) ∧ h = mkS x S') :=
  Ct.of (lv := [some (.ref 130), some (.int p1)]) rfl rfl rfl (show (_ : Nat) ≤ _ from Nat.le_of_ble_eq_true rfl) (fun G => rfl) (bpX11_latch_130_0 x S p1 r S' hm)
set_option maxHeartbeats 4000000 in
set_option maxRecDepth 20000 in
theorem bpX11_set_130_0 (x : XT)  (S : ST) (p1 : Int32) (p2 : Int32) (r : Int32) (S' : ST) (hm : bfX11_set_130_0 x  S p1 p2 = some (r, S')) : Ev mX11_set 4 0 0 0 [some (.ref 130), some (.int p1), some (.int p2)] [] (mkS x S) (fun v h => v = some (.int r) ∧ h = mkS x S') := by
    unfold bfX11_set_130_0 at hm
    refine Ev.steps tokX11_set 4 (P := True) (pc' := 4) (lv' := [some (.ref 130), some (.int p1), some (.int p2)]) (st' := [.int p2, .int p1, .ref 130, .ref 130]) (h' := mkS x S) rfl trivial ?_
    cases h1 : gfX11_setsKept_130 x S p1 p2 with
    | none => rw [h1] at hm; cases hm
    | some q2 =>
      obtain ⟨r3, S4⟩ := q2
      rw [h1] at hm
      dsimp only at hm
      refine ev_callV (N := mX11_setsKept) (d' := 3) (bc := 0) (bs := 0) (bc' := 0) (bs' := 0) (as := [.int p1, .int p2]) (rest := [.ref 130]) (a := 130) (ci := 11) (dcd tokX11_set rfl) okX11_setsKept inX11_setsKept seX11_setsKept lk11_377 rfl (by decide) (Nat.le_of_ble_eq_true rfl) rfl ⟨by decide, rfl⟩ (gpX11_setsKept_130 x S p1 p2 _ _ h1) (fun v h' hq hn => ?_)
      obtain ⟨rfl, rfl⟩ := hq
      cases h5 : gfX11_goodOr_130 x S4 r3 with
      | none => rw [h5] at hm; cases hm
      | some q6 =>
        obtain ⟨r7, S8⟩ := q6
        rw [h5] at hm
        dsimp only at hm
        refine ev_callV (N := mX11_goodOr) (d' := 2) (bc := 0) (bs := 0) (bc' := 0) (bs' := 0) (as := [.int r3]) (rest := []) (a := 130) (ci := 11) (dcd tokX11_set rfl) okX11_goodOr inX11_goodOr seX11_goodOr lk11_371 rfl (by decide) (Nat.le_of_ble_eq_true rfl) rfl ⟨by decide, rfl⟩ (gpX11_goodOr_130 x S4 r3 _ _ h5) (fun v h' hq hn => ?_)
        obtain ⟨rfl, rfl⟩ := hq
        cases hm
        exact Ev.reti tokX11_set rfl rfl ⟨rfl, rfl⟩
theorem gpX11_set_130 (x : XT) (S : ST) (p1 : Int32) (p2 : Int32) (r : Int32) (S' : ST) (hm : gfX11_set_130 x S p1 p2 = some (r, S')) : Ct mX11_set 4 0 0 [.ref 130, .int p1, .int p2] (mkS x S) (fun v h => v = some (.int r) ∧ h = mkS x S') :=
  Ct.of (lv := [some (.ref 130), some (.int p1), some (.int p2)]) rfl rfl rfl (show (_ : Nat) ≤ _ from Nat.le_of_ble_eq_true rfl) (fun G => rfl) (bpX11_set_130_0 x S p1 p2 r S' hm)
set_option maxHeartbeats 4000000 in
set_option maxRecDepth 20000 in
theorem bpX11_pass_130_0 (x : XT)  (S : ST)  (r : Int32) (S' : ST) (hm : bfX11_pass_130_0 x  S  = some (r, S')) : Ev mX11_pass 3 0 0 0 [some (.ref 130)] [] (mkS x S) (fun v h => v = some (.int r) ∧ h = mkS x S') := by
    unfold bfX11_pass_130_0 at hm
    refine Ev.steps tokX11_pass 2 (P := True) (pc' := 2) (lv' := [some (.ref 130)]) (st' := [.ref 130, .ref 130]) (h' := mkS x S) rfl trivial ?_
    cases h1 : gfX11_passesKept_130 x S with
    | none => rw [h1] at hm; cases hm
    | some q2 =>
      obtain ⟨r3, S4⟩ := q2
      rw [h1] at hm
      dsimp only at hm
      refine ev_callV (N := mX11_passesKept) (d' := 2) (bc := 0) (bs := 0) (bc' := 0) (bs' := 0) (as := []) (rest := [.ref 130]) (a := 130) (ci := 11) (dcd tokX11_pass rfl) okX11_passesKept inX11_passesKept seX11_passesKept lk11_380 rfl (by decide) (Nat.le_of_ble_eq_true rfl) rfl ⟨by decide, rfl⟩ (gpX11_passesKept_130 x S _ _ h1) (fun v h' hq hn => ?_)
      obtain ⟨rfl, rfl⟩ := hq
      cases h5 : gfX11_goodOr_130 x S4 r3 with
      | none => rw [h5] at hm; cases hm
      | some q6 =>
        obtain ⟨r7, S8⟩ := q6
        rw [h5] at hm
        dsimp only at hm
        refine ev_callV (N := mX11_goodOr) (d' := 2) (bc := 0) (bs := 0) (bc' := 0) (bs' := 0) (as := [.int r3]) (rest := []) (a := 130) (ci := 11) (dcd tokX11_pass rfl) okX11_goodOr inX11_goodOr seX11_goodOr lk11_371 rfl (by decide) (Nat.le_of_ble_eq_true rfl) rfl ⟨by decide, rfl⟩ (gpX11_goodOr_130 x S4 r3 _ _ h5) (fun v h' hq hn => ?_)
        obtain ⟨rfl, rfl⟩ := hq
        cases hm
        exact Ev.reti tokX11_pass rfl rfl ⟨rfl, rfl⟩
theorem gpX11_pass_130 (x : XT) (S : ST)  (r : Int32) (S' : ST) (hm : gfX11_pass_130 x S  = some (r, S')) : Ct mX11_pass 3 0 0 [.ref 130] (mkS x S) (fun v h => v = some (.int r) ∧ h = mkS x S') :=
  Ct.of (lv := [some (.ref 130)]) rfl rfl rfl (show (_ : Nat) ≤ _ from Nat.le_of_ble_eq_true rfl) (fun G => rfl) (bpX11_pass_130_0 x S  r S' hm)
set_option maxHeartbeats 4000000 in
set_option maxRecDepth 20000 in
theorem bpX11_laysGate_130_40 (x : XT) (k2 : ST → Int32 → Int32 → Int32 → Option (Unit × ST)) (hk2 : ∀ (S : ST) (v1 : Int32) (v2 : Int32) (v3 : Int32) (r : Unit) (S' : ST), k2 S v1 v2 v3 = some (r, S') → Ev mX11_laysGate 126 0 0 2 [some (.ref 130), some (.int v1), some (.int v2), some (.int v3)] [] (mkS x S) (fun v h => v = none ∧ h = mkS x S')) (S : ST) (v1 : Int32) (v2 : Int32) (v3 : Int32) (t1 : Int32) (t2 : Int32) (r : Unit) (S' : ST) (hm : bfX11_laysGate_130_40 x k2 S v1 v2 v3 t1 t2 = some (r, S')) : Ev mX11_laysGate 126 0 0 40 [some (.ref 130), some (.int v1), some (.int v2), some (.int v3)] [.int t2, .int t1, .ref 145] (mkS x S) (fun v h => v = none ∧ h = mkS x S') := by
    unfold bfX11_laysGate_130_40 at hm
    obtain ⟨o1, hm⟩ := oblk hm
    refine Ev.steps tokX11_laysGate 9 (P := vp_in t1 200 ∧ True) (pc' := 52) (lv' := [some (.ref 130), some (.int v1), some (.int v2), some (.int v3)]) (st' := [.ref 130, .int ((10 * v3) + v2), .ref 146]) (h' := mkS x (S.1, (u2 S.2.1 145 t1.toNatClampNeg t2), S.2.2.1, S.2.2.2)) rfl ⟨inb_ok o1, trivial⟩ ?_
    cases h2 : gfX11_paysNow_130 x (S.1, (u2 S.2.1 145 t1.toNatClampNeg t2), S.2.2.1, S.2.2.2) with
    | none => rw [h2] at hm; cases hm
    | some q3 =>
      obtain ⟨r4, S5⟩ := q3
      rw [h2] at hm
      dsimp only at hm
      refine ev_callV (N := mX11_paysNow) (d' := 125) (bc := 0) (bs := 0) (bc' := 0) (bs' := 0) (as := []) (rest := [.int ((10 * v3) + v2), .ref 146]) (a := 130) (ci := 11) (dcd tokX11_laysGate rfl) okX11_paysNow inX11_paysNow seX11_paysNow lk11_166 rfl (by decide) (Nat.le_of_ble_eq_true rfl) rfl ⟨by decide, rfl⟩ (gpX11_paysNow_130 x (S.1, (u2 S.2.1 145 t1.toNatClampNeg t2), S.2.2.1, S.2.2.2) _ _ h2) (fun v h' hq hn => ?_)
      obtain ⟨rfl, rfl⟩ := hq
      obtain ⟨o6, hm⟩ := oblk hm
      refine Ev.steps tokX11_laysGate 3 (P := vp_in ((10 * v3) + v2) 200 ∧ True) (pc' := 2) (lv' := [some (.ref 130), some (.int v1), some (.int v2), some (.int (v3 + 1))]) (st' := []) (h' := mkS x (S5.1, (u2 S5.2.1 146 (((10 * v3) + v2).toNatClampNeg) r4), S5.2.2.1, S5.2.2.2)) rfl ⟨inb_ok o6, trivial⟩ ?_
      exact hk2 (S5.1, (u2 S5.2.1 146 (((10 * v3) + v2).toNatClampNeg) r4), S5.2.2.1, S5.2.2.2) v1 v2 (v3 + 1) _ _ hm
set_option maxHeartbeats 4000000 in
set_option maxRecDepth 20000 in
theorem bpX11_laysGate_130_2 (x : XT) (k2 : ST → Int32 → Int32 → Int32 → Option (Unit × ST)) (hk2 : ∀ (S : ST) (v1 : Int32) (v2 : Int32) (v3 : Int32) (r : Unit) (S' : ST), k2 S v1 v2 v3 = some (r, S') → Ev mX11_laysGate 126 0 0 2 [some (.ref 130), some (.int v1), some (.int v2), some (.int v3)] [] (mkS x S) (fun v h => v = none ∧ h = mkS x S')) (S : ST) (v1 : Int32) (v2 : Int32) (v3 : Int32) (r : Unit) (S' : ST) (hm : bfX11_laysGate_130_2 x k2 S v1 v2 v3 = some (r, S')) : Ev mX11_laysGate 126 0 0 2 [some (.ref 130), some (.int v1), some (.int v2), some (.int v3)] [] (mkS x S) (fun v h => v = none ∧ h = mkS x S') := by
    unfold bfX11_laysGate_130_2 at hm
    refine Ev.steps tokX11_laysGate 3 (P := True) (pc' := if 20 ≤ v3 then 62 else 8) (lv' := [some (.ref 130), some (.int v1), some (.int v2), some (.int v3)]) (st' := []) (h' := mkS x S) rfl trivial ?_
    refine Ev.ite (fun c1 => ?_) (fun c1 => ?_)
    · rw [if_pos c1] at hm
      cases hm
      exact Ev.retv tokX11_laysGate rfl rfl ⟨rfl, rfl⟩
    · rw [if_neg c1] at hm
      refine Ev.steps tokX11_laysGate 4 (P := True) (pc' := 12) (lv' := [some (.ref 130), some (.int v1), some (.int v2), some (.int v3)]) (st' := [.int v3, .int v2, .int v1, .ref 130]) (h' := mkS x S) rfl trivial ?_
      cases h2 : gfX11_setsGate_130 x S v1 v2 v3 with
      | none => rw [h2] at hm; cases hm
      | some q3 =>
        obtain ⟨r4, S5⟩ := q3
        rw [h2] at hm
        dsimp only at hm
        refine ev_callV (N := mX11_setsGate) (d' := 2) (bc := 0) (bs := 0) (bc' := 0) (bs' := 0) (as := [.int v1, .int v2, .int v3]) (rest := []) (a := 130) (ci := 11) (dcd tokX11_laysGate rfl) okX11_setsGate inX11_setsGate seX11_setsGate lk11_159 rfl (by decide) (Nat.le_of_ble_eq_true rfl) rfl ⟨by decide, rfl⟩ (gpX11_setsGate_130 x S v1 v2 v3 _ _ h2) (fun v h' hq hn => ?_)
        obtain ⟨rfl, rfl⟩ := hq
        refine Ev.steps tokX11_laysGate 8 (P := True) (pc' := 26) (lv' := [some (.ref 130), some (.int v1), some (.int v2), some (.int v3)]) (st' := [.ref 130, .int ((10 * v3) + v2), .ref 145]) (h' := mkS x S5) rfl trivial ?_
        cases h6 : gfX11_isBarredNow_130 x S5 with
        | none => rw [h6] at hm; cases hm
        | some q7 =>
          obtain ⟨r8, S9⟩ := q7
          rw [h6] at hm
          dsimp only at hm
          refine ev_callV (N := mX11_isBarredNow) (d' := 125) (bc := 0) (bs := 0) (bc' := 0) (bs' := 0) (as := []) (rest := [.int ((10 * v3) + v2), .ref 145]) (a := 130) (ci := 11) (dcd tokX11_laysGate rfl) okX11_isBarredNow inX11_isBarredNow seX11_isBarredNow lk11_169 rfl (by decide) (Nat.le_of_ble_eq_true rfl) rfl ⟨by decide, rfl⟩ (gpX11_isBarredNow_130 x S5 _ _ h6) (fun v h' hq hn => ?_)
          obtain ⟨rfl, rfl⟩ := hq
          refine Ev.steps tokX11_laysGate 1 (P := True) (pc' := if r8 = 0 then 36 else 32) (lv' := [some (.ref 130), some (.int v1), some (.int v2), some (.int v3)]) (st' := [.int ((10 * v3) + v2), .ref 145]) (h' := mkS x S9) rfl trivial ?_
          refine Ev.ite (fun c10 => ?_) (fun c10 => ?_)
          · rw [if_pos c10] at hm
            refine Ev.steps tokX11_laysGate 1 (P := True) (pc' := 37) (lv' := [some (.ref 130), some (.int v1), some (.int v2), some (.int v3)]) (st' := [.ref 130, .int ((10 * v3) + v2), .ref 145]) (h' := mkS x S9) rfl trivial ?_
            cases h11 : gfX11_turnsNow_130 x S9 with
            | none => rw [h11] at hm; cases hm
            | some q12 =>
              obtain ⟨r13, S14⟩ := q12
              rw [h11] at hm
              dsimp only at hm
              refine ev_callV (N := mX11_turnsNow) (d' := 125) (bc := 0) (bs := 0) (bc' := 0) (bs' := 0) (as := []) (rest := [.int ((10 * v3) + v2), .ref 145]) (a := 130) (ci := 11) (dcd tokX11_laysGate rfl) okX11_turnsNow inX11_turnsNow seX11_turnsNow lk11_163 rfl (by decide) (Nat.le_of_ble_eq_true rfl) rfl ⟨by decide, rfl⟩ (gpX11_turnsNow_130 x S9 _ _ h11) (fun v h' hq hn => ?_)
              obtain ⟨rfl, rfl⟩ := hq
              exact bpX11_laysGate_130_40 x k2 hk2 S14 v1 v2 v3 ((10 * v3) + v2) r13 _ _ hm
          · rw [if_neg c10] at hm
            refine Ev.steps tokX11_laysGate 2 (P := True) (pc' := 40) (lv' := [some (.ref 130), some (.int v1), some (.int v2), some (.int v3)]) (st' := [.int (-1), .int ((10 * v3) + v2), .ref 145]) (h' := mkS x S9) rfl trivial ?_
            exact bpX11_laysGate_130_40 x k2 hk2 S9 v1 v2 v3 ((10 * v3) + v2) (-1) _ _ hm
theorem lpX11_laysGate_130_2 (x : XT)  : ∀ (n : Nat) (S : ST) (v1 : Int32) (v2 : Int32) (v3 : Int32) (r : Unit) (S' : ST), lfX11_laysGate_130_2 x  n S v1 v2 v3 = some (r, S') → Ev mX11_laysGate 126 0 0 2 [some (.ref 130), some (.int v1), some (.int v2), some (.int v3)] [] (mkS x S) (fun v h => v = none ∧ h = mkS x S')
  | 0, _, _, _, _, _, _, hm => by cases hm
  | n + 1, S, v1, v2, v3, r, S', hm => bpX11_laysGate_130_2 x (lfX11_laysGate_130_2 x  n) (lpX11_laysGate_130_2 x  n) S v1 v2 v3 r S' hm
set_option maxHeartbeats 4000000 in
set_option maxRecDepth 20000 in
theorem bpX11_laysGate_130_0 (x : XT)  (S : ST) (p1 : Int32) (p2 : Int32) (r : Unit) (S' : ST) (hm : bfX11_laysGate_130_0 x  S p1 p2 = some (r, S')) : Ev mX11_laysGate 126 0 0 0 [some (.ref 130), some (.int p1), some (.int p2), none] [] (mkS x S) (fun v h => v = none ∧ h = mkS x S') := by
    unfold bfX11_laysGate_130_0 at hm
    refine Ev.steps tokX11_laysGate 2 (P := True) (pc' := 2) (lv' := [some (.ref 130), some (.int p1), some (.int p2), some (.int 0)]) (st' := []) (h' := mkS x S) rfl trivial ?_
    exact lpX11_laysGate_130_2 x  20000 S p1 p2 0 _ _ hm
theorem gpX11_laysGate_130 (x : XT) (S : ST) (p1 : Int32) (p2 : Int32) (r : Unit) (S' : ST) (hm : gfX11_laysGate_130 x S p1 p2 = some (r, S')) : Ct mX11_laysGate 126 0 0 [.ref 130, .int p1, .int p2] (mkS x S) (fun v h => v = none ∧ h = mkS x S') :=
  Ct.of (lv := [some (.ref 130), some (.int p1), some (.int p2), none]) rfl rfl rfl (show (_ : Nat) ≤ _ from Nat.le_of_ble_eq_true rfl) (fun G => rfl) (bpX11_laysGate_130_0 x S p1 p2 r S' hm)
set_option maxHeartbeats 4000000 in
set_option maxRecDepth 20000 in
theorem bpX11_laysOut_130_2 (x : XT) (k2 : ST → Int32 → Int32 → Option (Unit × ST)) (hk2 : ∀ (S : ST) (v1 : Int32) (v2 : Int32) (r : Unit) (S' : ST), k2 S v1 v2 = some (r, S') → Ev mX11_laysOut 127 0 0 2 [some (.ref 130), some (.int v1), some (.int v2)] [] (mkS x S) (fun v h => v = none ∧ h = mkS x S')) (S : ST) (v1 : Int32) (v2 : Int32) (r : Unit) (S' : ST) (hm : bfX11_laysOut_130_2 x k2 S v1 v2 = some (r, S')) : Ev mX11_laysOut 127 0 0 2 [some (.ref 130), some (.int v1), some (.int v2)] [] (mkS x S) (fun v h => v = none ∧ h = mkS x S') := by
    unfold bfX11_laysOut_130_2 at hm
    refine Ev.steps tokX11_laysOut 2 (P := True) (pc' := 4) (lv' := [some (.ref 130), some (.int v1), some (.int v2)]) (st' := [.ref 130, .int v2]) (h' := mkS x S) rfl trivial ?_
    cases h1 : gfX11_gateMany_130 x S with
    | none => rw [h1] at hm; cases hm
    | some q2 =>
      obtain ⟨r3, S4⟩ := q2
      rw [h1] at hm
      dsimp only at hm
      refine ev_callV (N := mX11_gateMany) (d' := 1) (bc := 0) (bs := 0) (bc' := 0) (bs' := 0) (as := []) (rest := [.int v2]) (a := 130) (ci := 11) (dcd tokX11_laysOut rfl) okX11_gateMany inX11_gateMany seX11_gateMany lk11_124 rfl (by decide) (Nat.le_of_ble_eq_true rfl) rfl ⟨by decide, rfl⟩ (gpX11_gateMany_130 x S _ _ h1) (fun v h' hq hn => ?_)
      obtain ⟨rfl, rfl⟩ := hq
      refine Ev.steps tokX11_laysOut 1 (P := True) (pc' := if r3 ≤ v2 then 22 else 10) (lv' := [some (.ref 130), some (.int v1), some (.int v2)]) (st' := []) (h' := mkS x S4) rfl trivial ?_
      refine Ev.ite (fun c5 => ?_) (fun c5 => ?_)
      · rw [if_pos c5] at hm
        cases hm
        exact Ev.retv tokX11_laysOut rfl rfl ⟨rfl, rfl⟩
      · rw [if_neg c5] at hm
        refine Ev.steps tokX11_laysOut 3 (P := True) (pc' := 13) (lv' := [some (.ref 130), some (.int v1), some (.int v2)]) (st' := [.int v2, .int v1, .ref 130]) (h' := mkS x S4) rfl trivial ?_
        cases h6 : gfX11_laysGate_130 x S4 v1 v2 with
        | none => rw [h6] at hm; cases hm
        | some q7 =>
          obtain ⟨r8, S9⟩ := q7
          rw [h6] at hm
          dsimp only at hm
          refine ev_callV (N := mX11_laysGate) (d' := 126) (bc := 0) (bs := 0) (bc' := 0) (bs' := 0) (as := [.int v1, .int v2]) (rest := []) (a := 130) (ci := 11) (dcd tokX11_laysOut rfl) okX11_laysGate inX11_laysGate seX11_laysGate lk11_383 rfl (by decide) (Nat.le_of_ble_eq_true rfl) rfl ⟨by decide, rfl⟩ (gpX11_laysGate_130 x S4 v1 v2 _ _ h6) (fun v h' hq hn => ?_)
          obtain ⟨rfl, rfl⟩ := hq
          refine Ev.steps tokX11_laysOut 2 (P := True) (pc' := 2) (lv' := [some (.ref 130), some (.int v1), some (.int (v2 + 1))]) (st' := []) (h' := mkS x S9) rfl trivial ?_
          exact hk2 S9 v1 (v2 + 1) _ _ hm
theorem lpX11_laysOut_130_2 (x : XT)  : ∀ (n : Nat) (S : ST) (v1 : Int32) (v2 : Int32) (r : Unit) (S' : ST), lfX11_laysOut_130_2 x  n S v1 v2 = some (r, S') → Ev mX11_laysOut 127 0 0 2 [some (.ref 130), some (.int v1), some (.int v2)] [] (mkS x S) (fun v h => v = none ∧ h = mkS x S')
  | 0, _, _, _, _, _, hm => by cases hm
  | n + 1, S, v1, v2, r, S', hm => bpX11_laysOut_130_2 x (lfX11_laysOut_130_2 x  n) (lpX11_laysOut_130_2 x  n) S v1 v2 r S' hm
set_option maxHeartbeats 4000000 in
set_option maxRecDepth 20000 in
theorem bpX11_laysOut_130_0 (x : XT)  (S : ST) (p1 : Int32) (r : Unit) (S' : ST) (hm : bfX11_laysOut_130_0 x  S p1 = some (r, S')) : Ev mX11_laysOut 127 0 0 0 [some (.ref 130), some (.int p1), none] [] (mkS x S) (fun v h => v = none ∧ h = mkS x S') := by
    unfold bfX11_laysOut_130_0 at hm
    refine Ev.steps tokX11_laysOut 2 (P := True) (pc' := 2) (lv' := [some (.ref 130), some (.int p1), some (.int 0)]) (st' := []) (h' := mkS x S) rfl trivial ?_
    exact lpX11_laysOut_130_2 x  20000 S p1 0 _ _ hm
theorem gpX11_laysOut_130 (x : XT) (S : ST) (p1 : Int32) (r : Unit) (S' : ST) (hm : gfX11_laysOut_130 x S p1 = some (r, S')) : Ct mX11_laysOut 127 0 0 [.ref 130, .int p1] (mkS x S) (fun v h => v = none ∧ h = mkS x S') :=
  Ct.of (lv := [some (.ref 130), some (.int p1), none]) rfl rfl rfl (show (_ : Nat) ≤ _ from Nat.le_of_ble_eq_true rfl) (fun G => rfl) (bpX11_laysOut_130_0 x S p1 r S' hm)
set_option maxHeartbeats 4000000 in
set_option maxRecDepth 20000 in
theorem bpX11_placeOf_130_0 (x : XT)  (S : ST) (p1 : Int32) (r : Int32) (S' : ST) (hm : bfX11_placeOf_130_0 x  S p1 = some (r, S')) : Ev mX11_placeOf 1 0 0 0 [some (.ref 130), some (.int p1)] [] (mkS x S) (fun v h => v = some (.int r) ∧ h = mkS x S') := by
    unfold bfX11_placeOf_130_0 at hm
    obtain ⟨o1, hm⟩ := oblk hm
    obtain ⟨o2, hm⟩ := oblk hm
    refine Ev.steps tokX11_placeOf 15 (P := vp_in (0 + p1) 5703 ∧ vp_in (5 + p1) 5703 ∧ True) (pc' := 20) (lv' := [some (.ref 130), some (.int p1)]) (st' := [.int ((20 * (S.2.1 132 ((0 + p1).toNatClampNeg))) + (S.2.1 132 ((5 + p1).toNatClampNeg)))]) (h' := mkS x S) rfl ⟨inb_ok o1, inb_ok o2, trivial⟩ ?_
    cases hm
    exact Ev.reti tokX11_placeOf rfl rfl ⟨rfl, rfl⟩
theorem gpX11_placeOf_130 (x : XT) (S : ST) (p1 : Int32) (r : Int32) (S' : ST) (hm : gfX11_placeOf_130 x S p1 = some (r, S')) : Ct mX11_placeOf 1 0 0 [.ref 130, .int p1] (mkS x S) (fun v h => v = some (.int r) ∧ h = mkS x S') :=
  Ct.of (lv := [some (.ref 130), some (.int p1)]) rfl rfl rfl (show (_ : Nat) ≤ _ from Nat.le_of_ble_eq_true rfl) (fun G => rfl) (bpX11_placeOf_130_0 x S p1 r S' hm)
set_option maxHeartbeats 4000000 in
set_option maxRecDepth 20000 in
theorem bpX11_nextPlace_130_66 (x : XT)  (S : ST) (t0 : Int32) (r : Int32) (S' : ST) (hm : bfX11_nextPlace_130_66 x  S t0 = some (r, S')) : Ev mX11_nextPlace 1 0 0 66 [none, none, none, none] [.int t0] (mkS x S) (fun v h => v = some (.int r) ∧ h = mkS x S') := by
    unfold bfX11_nextPlace_130_66 at hm
    cases hm
    exact Ev.reti tokX11_nextPlace rfl rfl ⟨rfl, rfl⟩
set_option maxHeartbeats 4000000 in
set_option maxRecDepth 20000 in
theorem bpX11_nextPlace_130_48 (x : XT)  (S : ST)  (r : Int32) (S' : ST) (hm : bfX11_nextPlace_130_48 x  S  = some (r, S')) : Ev mX11_nextPlace 1 0 0 48 [none, none, none, none] [] (mkS x S) (fun v h => v = some (.int r) ∧ h = mkS x S') := by
    unfold bfX11_nextPlace_130_48 at hm
    refine Ev.steps tokX11_nextPlace 2 (P := True) (pc' := 66) (lv' := [none, none, none, none]) (st' := [.int (-1)]) (h' := mkS x S) rfl trivial ?_
    exact bpX11_nextPlace_130_66 x S (-1) _ _ hm
set_option maxHeartbeats 4000000 in
set_option maxRecDepth 20000 in
theorem bpX11_nextPlace_130_0 (x : XT)  (S : ST) (p1 : Int32) (p2 : Int32) (r : Int32) (S' : ST) (hm : bfX11_nextPlace_130_0 x  S p1 p2 = some (r, S')) : Ev mX11_nextPlace 1 0 0 0 [some (.ref 130), some (.int p1), some (.int p2), none] [] (mkS x S) (fun v h => v = some (.int r) ∧ h = mkS x S') := by
    unfold bfX11_nextPlace_130_0 at hm
    obtain ⟨o1, hm⟩ := oblk hm
    obtain ⟨o2, hm⟩ := oblk hm
    refine Ev.steps tokX11_nextPlace 21 (P := ¬ 20 = 0 ∧ vp_in ((10 * (p1 - p1 / 20 * 20)) + p2) 200 ∧ vp_in (36 + p2) 5703 ∧ ¬ 20 = 0 ∧ True) (pc' := if ¬ (S.2.1 132 ((36 + p2).toNatClampNeg)) = (p1 / 20) then 48 else 31) (lv' := [some (.ref 130), some (.int p1), some (.int p2), some (.int (S.2.1 145 (((10 * (p1 - p1 / 20 * 20)) + p2).toNatClampNeg)))]) (st' := []) (h' := mkS x S) rfl ⟨(by decide), inb_ok o1, inb_ok o2, (by decide), trivial⟩ ?_
    refine Ev.ite (fun c3 => ?_) (fun c3 => ?_)
    · rw [if_pos c3] at hm
      refine Ev.fgt (lv' := [none, none, none, none]) trivial ?_
      exact bpX11_nextPlace_130_48 x S _ _ hm
    · rw [if_neg c3] at hm
      obtain ⟨o4, hm⟩ := oblk hm
      refine Ev.steps tokX11_nextPlace 7 (P := vp_in (25 + p2) 5703 ∧ True) (pc' := if (S.2.1 132 ((25 + p2).toNatClampNeg)) = 0 then 48 else 43) (lv' := [some (.ref 130), some (.int p1), some (.int p2), some (.int (S.2.1 145 (((10 * (p1 - p1 / 20 * 20)) + p2).toNatClampNeg)))]) (st' := []) (h' := mkS x S) rfl ⟨inb_ok o4, trivial⟩ ?_
      refine Ev.ite (fun c5 => ?_) (fun c5 => ?_)
      · rw [if_pos c5] at hm
        refine Ev.fgt (lv' := [none, none, none, none]) trivial ?_
        exact bpX11_nextPlace_130_48 x S _ _ hm
      · rw [if_neg c5] at hm
        refine Ev.steps tokX11_nextPlace 3 (P := True) (pc' := if ¬ (S.2.1 145 (((10 * (p1 - p1 / 20 * 20)) + p2).toNatClampNeg)) = (-1) then 52 else 48) (lv' := [some (.ref 130), some (.int p1), some (.int p2), some (.int (S.2.1 145 (((10 * (p1 - p1 / 20 * 20)) + p2).toNatClampNeg)))]) (st' := []) (h' := mkS x S) rfl trivial ?_
        refine Ev.ite (fun c6 => ?_) (fun c6 => ?_)
        · rw [if_pos c6] at hm
          obtain ⟨o7, hm⟩ := oblk hm
          refine Ev.steps tokX11_nextPlace 10 (P := vp_in (46 + p2) 5703 ∧ True) (pc' := 66) (lv' := [some (.ref 130), some (.int p1), some (.int p2), some (.int (S.2.1 145 (((10 * (p1 - p1 / 20 * 20)) + p2).toNatClampNeg)))]) (st' := [.int ((20 * (S.2.1 132 ((46 + p2).toNatClampNeg))) + (S.2.1 145 (((10 * (p1 - p1 / 20 * 20)) + p2).toNatClampNeg)))]) (h' := mkS x S) rfl ⟨inb_ok o7, trivial⟩ ?_
          refine Ev.fgt (lv' := [none, none, none, none]) trivial ?_
          exact bpX11_nextPlace_130_66 x S ((20 * (S.2.1 132 ((46 + p2).toNatClampNeg))) + (S.2.1 145 (((10 * (p1 - p1 / 20 * 20)) + p2).toNatClampNeg))) _ _ hm
        · rw [if_neg c6] at hm
          refine Ev.fgt (lv' := [none, none, none, none]) trivial ?_
          exact bpX11_nextPlace_130_48 x S _ _ hm
theorem gpX11_nextPlace_130 (x : XT) (S : ST) (p1 : Int32) (p2 : Int32) (r : Int32) (S' : ST) (hm : gfX11_nextPlace_130 x S p1 p2 = some (r, S')) : Ct mX11_nextPlace 1 0 0 [.ref 130, .int p1, .int p2] (mkS x S) (fun v h => v = some (.int r) ∧ h = mkS x S') :=
  Ct.of (lv := [some (.ref 130), some (.int p1), some (.int p2), none]) rfl rfl rfl (show (_ : Nat) ≤ _ from Nat.le_of_ble_eq_true rfl) (fun G => rfl) (bpX11_nextPlace_130_0 x S p1 p2 r S' hm)
set_option maxHeartbeats 4000000 in
set_option maxRecDepth 20000 in
theorem bpX11_isGoal_26 (x : XT)  (S : ST) (t0 : Int32) (r : Int32) (S' : ST) (hm : bfX11_isGoal_26 x  S t0 = some (r, S')) : Ev mX11_isGoal 1 0 0 26 [none, none, none] [.int t0] (mkS x S) (fun v h => v = some (.int r) ∧ h = mkS x S') := by
    unfold bfX11_isGoal_26 at hm
    obtain ⟨o1, hm⟩ := oblk hm
    cases hm
    exact Ev.retz tokX11_isGoal rfl rfl (bbz_ok o1) ⟨rfl, rfl⟩
set_option maxHeartbeats 4000000 in
set_option maxRecDepth 20000 in
theorem bpX11_isGoal_25 (x : XT)  (S : ST)  (r : Int32) (S' : ST) (hm : bfX11_isGoal_25 x  S  = some (r, S')) : Ev mX11_isGoal 1 0 0 25 [none, none, none] [] (mkS x S) (fun v h => v = some (.int r) ∧ h = mkS x S') := by
    unfold bfX11_isGoal_25 at hm
    refine Ev.steps tokX11_isGoal 1 (P := True) (pc' := 26) (lv' := [none, none, none]) (st' := [.int 0]) (h' := mkS x S) rfl trivial ?_
    exact bpX11_isGoal_26 x S 0 _ _ hm
set_option maxHeartbeats 4000000 in
set_option maxRecDepth 20000 in
theorem bpX11_isGoal_21 (x : XT)  (S : ST)  (r : Int32) (S' : ST) (hm : bfX11_isGoal_21 x  S  = some (r, S')) : Ev mX11_isGoal 1 0 0 21 [none, none, none] [] (mkS x S) (fun v h => v = some (.int r) ∧ h = mkS x S') := by
    unfold bfX11_isGoal_21 at hm
    refine Ev.steps tokX11_isGoal 2 (P := True) (pc' := 26) (lv' := [none, none, none]) (st' := [.int 1]) (h' := mkS x S) rfl trivial ?_
    exact bpX11_isGoal_26 x S 1 _ _ hm
set_option maxHeartbeats 4000000 in
set_option maxRecDepth 20000 in
theorem bpX11_isGoal_0 (x : XT)  (S : ST) (p0 : Int32) (p1 : Int32) (p2 : Int32) (r : Int32) (S' : ST) (hm : bfX11_isGoal_0 x  S p0 p1 p2 = some (r, S')) : Ev mX11_isGoal 1 0 0 0 [some (.int p0), some (.int p1), some (.int p2)] [] (mkS x S) (fun v h => v = some (.int r) ∧ h = mkS x S') := by
    unfold bfX11_isGoal_0 at hm
    refine Ev.steps tokX11_isGoal 5 (P := ¬ 20 = 0 ∧ True) (pc' := if ¬ (p0 / 20) = p1 then 25 else 8) (lv' := [some (.int p0), some (.int p1), some (.int p2)]) (st' := []) (h' := mkS x S) rfl ⟨(by decide), trivial⟩ ?_
    refine Ev.ite (fun c1 => ?_) (fun c1 => ?_)
    · rw [if_pos c1] at hm
      refine Ev.fgt (lv' := [none, none, none]) trivial ?_
      exact bpX11_isGoal_25 x S _ _ hm
    · rw [if_neg c1] at hm
      refine Ev.steps tokX11_isGoal 3 (P := True) (pc' := if p2 = (-1) then 21 else 13) (lv' := [some (.int p0), some (.int p1), some (.int p2)]) (st' := []) (h' := mkS x S) rfl trivial ?_
      refine Ev.ite (fun c2 => ?_) (fun c2 => ?_)
      · rw [if_pos c2] at hm
        refine Ev.fgt (lv' := [none, none, none]) trivial ?_
        exact bpX11_isGoal_21 x S _ _ hm
      · rw [if_neg c2] at hm
        refine Ev.steps tokX11_isGoal 5 (P := ¬ 20 = 0 ∧ True) (pc' := if ¬ (p0 - p0 / 20 * 20) = p2 then 25 else 21) (lv' := [some (.int p0), some (.int p1), some (.int p2)]) (st' := []) (h' := mkS x S) rfl ⟨(by decide), trivial⟩ ?_
        refine Ev.ite (fun c3 => ?_) (fun c3 => ?_)
        · rw [if_pos c3] at hm
          refine Ev.fgt (lv' := [none, none, none]) trivial ?_
          exact bpX11_isGoal_25 x S _ _ hm
        · rw [if_neg c3] at hm
          refine Ev.fgt (lv' := [none, none, none]) trivial ?_
          exact bpX11_isGoal_21 x S _ _ hm
theorem gpX11_isGoal (x : XT) (S : ST) (p0 : Int32) (p1 : Int32) (p2 : Int32) (r : Int32) (S' : ST) (hm : gfX11_isGoal x S p0 p1 p2 = some (r, S')) : Ct mX11_isGoal 1 0 0 [.int p0, .int p1, .int p2] (mkS x S) (fun v h => v = some (.int r) ∧ h = mkS x S') :=
  Ct.of (lv := [some (.int p0), some (.int p1), some (.int p2)]) rfl rfl rfl (show (_ : Nat) ≤ _ from Nat.le_of_ble_eq_true rfl) (fun G => rfl) (bpX11_isGoal_0 x S p0 p1 p2 r S' hm)
set_option maxHeartbeats 4000000 in
set_option maxRecDepth 20000 in
theorem bpX11_canBeGoal_22 (x : XT)  (S : ST) (t0 : Int32) (r : Int32) (S' : ST) (hm : bfX11_canBeGoal_22 x  S t0 = some (r, S')) : Ev mX11_canBeGoal 3 0 0 22 [none, none] [.int t0] (mkS x S) (fun v h => v = some (.int r) ∧ h = mkS x S') := by
    unfold bfX11_canBeGoal_22 at hm
    obtain ⟨o1, hm⟩ := oblk hm
    cases hm
    exact Ev.retz tokX11_canBeGoal rfl rfl (bbz_ok o1) ⟨rfl, rfl⟩
set_option maxHeartbeats 4000000 in
set_option maxRecDepth 20000 in
theorem bpX11_canBeGoal_21 (x : XT)  (S : ST)  (r : Int32) (S' : ST) (hm : bfX11_canBeGoal_21 x  S  = some (r, S')) : Ev mX11_canBeGoal 3 0 0 21 [none, none] [] (mkS x S) (fun v h => v = some (.int r) ∧ h = mkS x S') := by
    unfold bfX11_canBeGoal_21 at hm
    refine Ev.steps tokX11_canBeGoal 1 (P := True) (pc' := 22) (lv' := [none, none]) (st' := [.int 0]) (h' := mkS x S) rfl trivial ?_
    exact bpX11_canBeGoal_22 x S 0 _ _ hm
set_option maxHeartbeats 4000000 in
set_option maxRecDepth 20000 in
theorem bpX11_canBeGoal_0 (x : XT)  (S : ST) (p0 : Int32) (p1 : Int32) (r : Int32) (S' : ST) (hm : bfX11_canBeGoal_0 x  S p0 p1 = some (r, S')) : Ev mX11_canBeGoal 3 0 0 0 [some (.int p0), some (.int p1)] [] (mkS x S) (fun v h => v = some (.int r) ∧ h = mkS x S') := by
    unfold bfX11_canBeGoal_0 at hm
    refine Ev.steps tokX11_canBeGoal 1 (P := True) (pc' := 1) (lv' := [some (.int p0), some (.int p1)]) (st' := [.int p0]) (h' := mkS x S) rfl trivial ?_
    cases h1 : gfX11_isPark x S p0 with
    | none => rw [h1] at hm; cases hm
    | some q2 =>
      obtain ⟨r3, S4⟩ := q2
      rw [h1] at hm
      dsimp only at hm
      refine ev_callS (N := mX11_isPark) (d' := 2) (bc := 0) (bs := 0) (bc' := 0) (bs' := 0) (as := [.int p0]) (rest := []) (dcd tokX11_canBeGoal rfl) okX11_isPark inX11_isPark lk11_128 rfl (by decide) (Nat.le_of_ble_eq_true rfl) (gpX11_isPark x S p0 _ _ h1) (fun v h' hq hn => ?_)
      obtain ⟨rfl, rfl⟩ := hq
      refine Ev.steps tokX11_canBeGoal 1 (P := True) (pc' := if r3 = 0 then 21 else 7) (lv' := [some (.int p0), some (.int p1)]) (st' := []) (h' := mkS x S4) rfl trivial ?_
      refine Ev.ite (fun c5 => ?_) (fun c5 => ?_)
      · rw [if_pos c5] at hm
        refine Ev.fgt (lv' := [none, none]) trivial ?_
        exact bpX11_canBeGoal_21 x S4 _ _ hm
      · rw [if_neg c5] at hm
        refine Ev.steps tokX11_canBeGoal 3 (P := True) (pc' := 11) (lv' := [some (.int p0), some (.int p1)]) (st' := [.int 19, .int (-1), .int p1]) (h' := mkS x S4) rfl trivial ?_
        cases h6 : gfX11_lies x S4 p1 (-1) 19 with
        | none => rw [h6] at hm; cases hm
        | some q7 =>
          obtain ⟨r8, S9⟩ := q7
          rw [h6] at hm
          dsimp only at hm
          refine ev_callS (N := mX11_lies) (d' := 1) (bc := 0) (bs := 0) (bc' := 0) (bs' := 0) (as := [.int p1, .int (-1), .int 19]) (rest := []) (dcd tokX11_canBeGoal rfl) okX11_lies inX11_lies lk11_18 rfl (by decide) (Nat.le_of_ble_eq_true rfl) (gpX11_lies x S4 p1 (-1) 19 _ _ h6) (fun v h' hq hn => ?_)
          obtain ⟨rfl, rfl⟩ := hq
          refine Ev.steps tokX11_canBeGoal 1 (P := True) (pc' := if r8 = 0 then 21 else 17) (lv' := [some (.int p0), some (.int p1)]) (st' := []) (h' := mkS x S9) rfl trivial ?_
          refine Ev.ite (fun c10 => ?_) (fun c10 => ?_)
          · rw [if_pos c10] at hm
            refine Ev.fgt (lv' := [none, none]) trivial ?_
            exact bpX11_canBeGoal_21 x S9 _ _ hm
          · rw [if_neg c10] at hm
            refine Ev.steps tokX11_canBeGoal 2 (P := True) (pc' := 22) (lv' := [some (.int p0), some (.int p1)]) (st' := [.int 1]) (h' := mkS x S9) rfl trivial ?_
            refine Ev.fgt (lv' := [none, none]) trivial ?_
            exact bpX11_canBeGoal_22 x S9 1 _ _ hm
theorem gpX11_canBeGoal (x : XT) (S : ST) (p0 : Int32) (p1 : Int32) (r : Int32) (S' : ST) (hm : gfX11_canBeGoal x S p0 p1 = some (r, S')) : Ct mX11_canBeGoal 3 0 0 [.int p0, .int p1] (mkS x S) (fun v h => v = some (.int r) ∧ h = mkS x S') :=
  Ct.of (lv := [some (.int p0), some (.int p1)]) rfl rfl rfl (show (_ : Nat) ≤ _ from Nat.le_of_ble_eq_true rfl) (fun G => rfl) (bpX11_canBeGoal_0 x S p0 p1 r S' hm)
set_option maxHeartbeats 4000000 in
set_option maxRecDepth 20000 in
theorem bpX11_laysLeft_130_163 (x : XT) (k42 : ST → Int32 → Int32 → Option (Unit × ST)) (hk42 : ∀ (S : ST) (v3 : Int32) (v4 : Int32) (r : Unit) (S' : ST), k42 S v3 v4 = some (r, S') → Ev mX11_laysLeft 2 0 0 42 [some (.ref 130), none, none, some (.int v3), some (.int v4), none, none, none, none, none] [] (mkS x S) (fun v h => v = none ∧ h = mkS x S')) (k53 : ST → Int32 → Int32 → Int32 → Option (Unit × ST)) (hk53 : ∀ (S : ST) (v3 : Int32) (v4 : Int32) (v5 : Int32) (r : Unit) (S' : ST), k53 S v3 v4 v5 = some (r, S') → Ev mX11_laysLeft 2 0 0 53 [some (.ref 130), none, none, some (.int v3), some (.int v4), some (.int v5), none, none, none, none] [] (mkS x S) (fun v h => v = none ∧ h = mkS x S')) (S : ST) (v3 : Int32) (v4 : Int32) (v5 : Int32) (r : Unit) (S' : ST) (hm : bfX11_laysLeft_130_163 x k42 k53 S v3 v4 v5 = some (r, S')) : Ev mX11_laysLeft 2 0 0 163 [some (.ref 130), none, none, some (.int v3), some (.int v4), some (.int v5), none, none, none, none] [] (mkS x S) (fun v h => v = none ∧ h = mkS x S') := by
    unfold bfX11_laysLeft_130_163 at hm
    refine Ev.steps tokX11_laysLeft 2 (P := True) (pc' := 53) (lv' := [some (.ref 130), none, none, some (.int v3), some (.int v4), some (.int (v5 + 1)), none, none, none, none]) (st' := []) (h' := mkS x S) rfl trivial ?_
    exact hk53 S v3 v4 (v5 + 1) _ _ hm
set_option maxHeartbeats 4000000 in
set_option maxRecDepth 20000 in
theorem bpX11_laysLeft_130_133 (x : XT) (k42 : ST → Int32 → Int32 → Option (Unit × ST)) (hk42 : ∀ (S : ST) (v3 : Int32) (v4 : Int32) (r : Unit) (S' : ST), k42 S v3 v4 = some (r, S') → Ev mX11_laysLeft 2 0 0 42 [some (.ref 130), none, none, some (.int v3), some (.int v4), none, none, none, none, none] [] (mkS x S) (fun v h => v = none ∧ h = mkS x S')) (k53 : ST → Int32 → Int32 → Int32 → Option (Unit × ST)) (hk53 : ∀ (S : ST) (v3 : Int32) (v4 : Int32) (v5 : Int32) (r : Unit) (S' : ST), k53 S v3 v4 v5 = some (r, S') → Ev mX11_laysLeft 2 0 0 53 [some (.ref 130), none, none, some (.int v3), some (.int v4), some (.int v5), none, none, none, none] [] (mkS x S) (fun v h => v = none ∧ h = mkS x S')) (S : ST) (v3 : Int32) (v4 : Int32) (v5 : Int32) (v6 : Int32) (t0 : Int32) (t1 : Int32) (r : Unit) (S' : ST) (hm : bfX11_laysLeft_130_133 x k42 k53 S v3 v4 v5 v6 t0 t1 = some (r, S')) : Ev mX11_laysLeft 2 0 0 133 [some (.ref 130), none, none, some (.int v3), some (.int v4), some (.int v5), some (.int v6), none, none, none] [.int t1, .int t0] (mkS x S) (fun v h => v = none ∧ h = mkS x S') := by
    unfold bfX11_laysLeft_130_133 at hm
    obtain ⟨o1, hm⟩ := oblk hm
    refine Ev.steps tokX11_laysLeft 8 (P := vp_in v6 120 ∧ True) (pc' := if (t0 + t1) < (S.2.1 147 v6.toNatClampNeg) then 151 else 148) (lv' := [some (.ref 130), none, none, some (.int v3), some (.int v4), some (.int v5), some (.int v6), none, none, some (.int (t0 + t1))]) (st' := []) (h' := mkS x S) rfl ⟨inb_ok o1, trivial⟩ ?_
    refine Ev.ite (fun c2 => ?_) (fun c2 => ?_)
    · rw [if_pos c2] at hm
      obtain ⟨o3, hm⟩ := oblk hm
      refine Ev.steps tokX11_laysLeft 7 (P := vp_in v6 120 ∧ True) (pc' := 163) (lv' := [some (.ref 130), none, none, some (.int v3), some (.int 1), some (.int v5), some (.int v6), none, none, some (.int (t0 + t1))]) (st' := []) (h' := mkS x (S.1, (u2 S.2.1 147 v6.toNatClampNeg (t0 + t1)), S.2.2.1, S.2.2.2)) rfl ⟨inb_ok o3, trivial⟩ ?_
      refine Ev.fgt (lv' := [some (.ref 130), none, none, some (.int v3), some (.int 1), some (.int v5), none, none, none, none]) ⟨rfl, rfl, rfl, rfl, trivial⟩ ?_
      exact bpX11_laysLeft_130_163 x k42 hk42 k53 hk53 (S.1, (u2 S.2.1 147 v6.toNatClampNeg (t0 + t1)), S.2.2.1, S.2.2.2) v3 1 v5 _ _ hm
    · rw [if_neg c2] at hm
      refine Ev.steps tokX11_laysLeft 1 (P := True) (pc' := 163) (lv' := [some (.ref 130), none, none, some (.int v3), some (.int v4), some (.int v5), some (.int v6), none, none, some (.int (t0 + t1))]) (st' := []) (h' := mkS x S) rfl trivial ?_
      refine Ev.fgt (lv' := [some (.ref 130), none, none, some (.int v3), some (.int v4), some (.int v5), none, none, none, none]) ⟨rfl, rfl, rfl, rfl, trivial⟩ ?_
      exact bpX11_laysLeft_130_163 x k42 hk42 k53 hk53 S v3 v4 v5 _ _ hm
set_option maxHeartbeats 4000000 in
set_option maxRecDepth 20000 in
theorem bpX11_laysLeft_130_53 (x : XT) (k42 : ST → Int32 → Int32 → Option (Unit × ST)) (hk42 : ∀ (S : ST) (v3 : Int32) (v4 : Int32) (r : Unit) (S' : ST), k42 S v3 v4 = some (r, S') → Ev mX11_laysLeft 2 0 0 42 [some (.ref 130), none, none, some (.int v3), some (.int v4), none, none, none, none, none] [] (mkS x S) (fun v h => v = none ∧ h = mkS x S')) (k53 : ST → Int32 → Int32 → Int32 → Option (Unit × ST)) (hk53 : ∀ (S : ST) (v3 : Int32) (v4 : Int32) (v5 : Int32) (r : Unit) (S' : ST), k53 S v3 v4 v5 = some (r, S') → Ev mX11_laysLeft 2 0 0 53 [some (.ref 130), none, none, some (.int v3), some (.int v4), some (.int v5), none, none, none, none] [] (mkS x S) (fun v h => v = none ∧ h = mkS x S')) (S : ST) (v3 : Int32) (v4 : Int32) (v5 : Int32) (r : Unit) (S' : ST) (hm : bfX11_laysLeft_130_53 x k42 k53 S v3 v4 v5 = some (r, S')) : Ev mX11_laysLeft 2 0 0 53 [some (.ref 130), none, none, some (.int v3), some (.int v4), some (.int v5), none, none, none, none] [] (mkS x S) (fun v h => v = none ∧ h = mkS x S') := by
    unfold bfX11_laysLeft_130_53 at hm
    refine Ev.steps tokX11_laysLeft 3 (P := True) (pc' := 58) (lv' := [some (.ref 130), none, none, some (.int v3), some (.int v4), some (.int v5), none, none, none, none]) (st' := [.ref 130, .int 120, .int v5]) (h' := mkS x S) rfl trivial ?_
    cases h1 : gfX11_gateMany_130 x S with
    | none => rw [h1] at hm; cases hm
    | some q2 =>
      obtain ⟨r3, S4⟩ := q2
      rw [h1] at hm
      dsimp only at hm
      refine ev_callV (N := mX11_gateMany) (d' := 1) (bc := 0) (bs := 0) (bc' := 0) (bs' := 0) (as := []) (rest := [.int 120, .int v5]) (a := 130) (ci := 11) (dcd tokX11_laysLeft rfl) okX11_gateMany inX11_gateMany seX11_gateMany lk11_124 rfl (by decide) (Nat.le_of_ble_eq_true rfl) rfl ⟨by decide, rfl⟩ (gpX11_gateMany_130 x S _ _ h1) (fun v h' hq hn => ?_)
      obtain ⟨rfl, rfl⟩ := hq
      refine Ev.steps tokX11_laysLeft 2 (P := True) (pc' := if (120 * r3) ≤ v5 then 169 else 65) (lv' := [some (.ref 130), none, none, some (.int v3), some (.int v4), some (.int v5), none, none, none, none]) (st' := []) (h' := mkS x S4) rfl trivial ?_
      refine Ev.ite (fun c5 => ?_) (fun c5 => ?_)
      · rw [if_pos c5] at hm
        refine Ev.steps tokX11_laysLeft 1 (P := True) (pc' := 42) (lv' := [some (.ref 130), none, none, some (.int v3), some (.int v4), some (.int v5), none, none, none, none]) (st' := []) (h' := mkS x S4) rfl trivial ?_
        refine Ev.fgt (lv' := [some (.ref 130), none, none, some (.int v3), some (.int v4), none, none, none, none, none]) ⟨rfl, rfl, rfl, trivial⟩ ?_
        exact hk42 S4 v3 v4 _ _ hm
      · rw [if_neg c5] at hm
        refine Ev.steps tokX11_laysLeft 2 (P := True) (pc' := 68) (lv' := [some (.ref 130), none, none, some (.int v3), some (.int v4), some (.int v5), none, none, none, none]) (st' := [.ref 130, .int v5]) (h' := mkS x S4) rfl trivial ?_
        cases h6 : gfX11_gateMany_130 x S4 with
        | none => rw [h6] at hm; cases hm
        | some q7 =>
          obtain ⟨r8, S9⟩ := q7
          rw [h6] at hm
          dsimp only at hm
          refine ev_callV (N := mX11_gateMany) (d' := 1) (bc := 0) (bs := 0) (bc' := 0) (bs' := 0) (as := []) (rest := [.int v5]) (a := 130) (ci := 11) (dcd tokX11_laysLeft rfl) okX11_gateMany inX11_gateMany seX11_gateMany lk11_124 rfl (by decide) (Nat.le_of_ble_eq_true rfl) rfl ⟨by decide, rfl⟩ (gpX11_gateMany_130 x S4 _ _ h6) (fun v h' hq hn => ?_)
          obtain ⟨rfl, rfl⟩ := hq
          obtain ⟨o10, hm⟩ := oblk hm
          refine Ev.steps tokX11_laysLeft 4 (P := ¬ r8 = 0 ∧ True) (pc' := 77) (lv' := [some (.ref 130), none, none, some (.int v3), some (.int v4), some (.int v5), some (.int (v5 / r8)), none, none, none]) (st' := [.ref 130, .int v5]) (h' := mkS x S9) rfl ⟨nzi_ok o10, trivial⟩ ?_
          cases h11 : gfX11_gateMany_130 x S9 with
          | none => rw [h11] at hm; cases hm
          | some q12 =>
            obtain ⟨r13, S14⟩ := q12
            rw [h11] at hm
            dsimp only at hm
            refine ev_callV (N := mX11_gateMany) (d' := 1) (bc := 0) (bs := 0) (bc' := 0) (bs' := 0) (as := []) (rest := [.int v5]) (a := 130) (ci := 11) (dcd tokX11_laysLeft rfl) okX11_gateMany inX11_gateMany seX11_gateMany lk11_124 rfl (by decide) (Nat.le_of_ble_eq_true rfl) rfl ⟨by decide, rfl⟩ (gpX11_gateMany_130 x S9 _ _ h11) (fun v h' hq hn => ?_)
            obtain ⟨rfl, rfl⟩ := hq
            obtain ⟨o15, hm⟩ := oblk hm
            refine Ev.steps tokX11_laysLeft 5 (P := ¬ r13 = 0 ∧ True) (pc' := 88) (lv' := [some (.ref 130), none, none, some (.int v3), some (.int v4), some (.int v5), some (.int (v5 / r8)), some (.int (v5 - v5 / r13 * r13)), none, none]) (st' := [.int (v5 - v5 / r13 * r13), .int (v5 / r8), .ref 130]) (h' := mkS x S14) rfl ⟨nzi_ok o15, trivial⟩ ?_
            cases h16 : gfX11_nextPlace_130 x S14 (v5 / r8) (v5 - v5 / r13 * r13) with
            | none => rw [h16] at hm; cases hm
            | some q17 =>
              obtain ⟨r18, S19⟩ := q17
              rw [h16] at hm
              dsimp only at hm
              refine ev_callV (N := mX11_nextPlace) (d' := 1) (bc := 0) (bs := 0) (bc' := 0) (bs' := 0) (as := [.int (v5 / r8), .int (v5 - v5 / r13 * r13)]) (rest := []) (a := 130) (ci := 11) (dcd tokX11_laysLeft rfl) okX11_nextPlace inX11_nextPlace seX11_nextPlace lk11_389 rfl (by decide) (Nat.le_of_ble_eq_true rfl) rfl ⟨by decide, rfl⟩ (gpX11_nextPlace_130 x S14 (v5 / r8) (v5 - v5 / r13 * r13) _ _ h16) (fun v h' hq hn => ?_)
              obtain ⟨rfl, rfl⟩ := hq
              refine Ev.steps tokX11_laysLeft 4 (P := True) (pc' := if ¬ r18 = (-1) then 102 else 99) (lv' := [some (.ref 130), none, none, some (.int v3), some (.int v4), some (.int v5), some (.int (v5 / r8)), some (.int (v5 - v5 / r13 * r13)), some (.int r18), none]) (st' := []) (h' := mkS x S19) rfl trivial ?_
              refine Ev.ite (fun c20 => ?_) (fun c20 => ?_)
              · rw [if_pos c20] at hm
                obtain ⟨o21, hm⟩ := oblk hm
                refine Ev.steps tokX11_laysLeft 6 (P := vp_in r18 120 ∧ True) (pc' := if v3 = 0 then 132 else 113) (lv' := [some (.ref 130), none, none, some (.int v3), some (.int v4), some (.int v5), some (.int (v5 / r8)), some (.int (v5 - v5 / r13 * r13)), some (.int r18), none]) (st' := [.int (S19.2.1 147 r18.toNatClampNeg)]) (h' := mkS x S19) rfl ⟨inb_ok o21, trivial⟩ ?_
                refine Ev.ite (fun c22 => ?_) (fun c22 => ?_)
                · rw [if_pos c22] at hm
                  refine Ev.steps tokX11_laysLeft 1 (P := True) (pc' := 133) (lv' := [some (.ref 130), none, none, some (.int v3), some (.int v4), some (.int v5), some (.int (v5 / r8)), some (.int (v5 - v5 / r13 * r13)), some (.int r18), none]) (st' := [.int 1, .int (S19.2.1 147 r18.toNatClampNeg)]) (h' := mkS x S19) rfl trivial ?_
                  refine Ev.fgt (lv' := [some (.ref 130), none, none, some (.int v3), some (.int v4), some (.int v5), some (.int (v5 / r8)), none, none, none]) ⟨rfl, rfl, rfl, rfl, rfl, trivial⟩ ?_
                  exact bpX11_laysLeft_130_133 x k42 hk42 k53 hk53 S19 v3 v4 v5 (v5 / r8) (S19.2.1 147 r18.toNatClampNeg) 1 _ _ hm
                · rw [if_neg c22] at hm
                  obtain ⟨o23, hm⟩ := oblk hm
                  refine Ev.steps tokX11_laysLeft 11 (P := ¬ 20 = 0 ∧ vp_in ((10 * ((v5 / r8) - (v5 / r8) / 20 * 20)) + (v5 - v5 / r13 * r13)) 200 ∧ True) (pc' := 133) (lv' := [some (.ref 130), none, none, some (.int v3), some (.int v4), some (.int v5), some (.int (v5 / r8)), some (.int (v5 - v5 / r13 * r13)), some (.int r18), none]) (st' := [.int (S19.2.1 146 (((10 * ((v5 / r8) - (v5 / r8) / 20 * 20)) + (v5 - v5 / r13 * r13)).toNatClampNeg)), .int (S19.2.1 147 r18.toNatClampNeg)]) (h' := mkS x S19) rfl ⟨(by decide), inb_ok o23, trivial⟩ ?_
                  refine Ev.fgt (lv' := [some (.ref 130), none, none, some (.int v3), some (.int v4), some (.int v5), some (.int (v5 / r8)), none, none, none]) ⟨rfl, rfl, rfl, rfl, rfl, trivial⟩ ?_
                  exact bpX11_laysLeft_130_133 x k42 hk42 k53 hk53 S19 v3 v4 v5 (v5 / r8) (S19.2.1 147 r18.toNatClampNeg) (S19.2.1 146 (((10 * ((v5 / r8) - (v5 / r8) / 20 * 20)) + (v5 - v5 / r13 * r13)).toNatClampNeg)) _ _ hm
              · rw [if_neg c20] at hm
                refine Ev.steps tokX11_laysLeft 1 (P := True) (pc' := 163) (lv' := [some (.ref 130), none, none, some (.int v3), some (.int v4), some (.int v5), some (.int (v5 / r8)), some (.int (v5 - v5 / r13 * r13)), some (.int r18), none]) (st' := []) (h' := mkS x S19) rfl trivial ?_
                refine Ev.fgt (lv' := [some (.ref 130), none, none, some (.int v3), some (.int v4), some (.int v5), none, none, none, none]) ⟨rfl, rfl, rfl, rfl, trivial⟩ ?_
                exact bpX11_laysLeft_130_163 x k42 hk42 k53 hk53 S19 v3 v4 v5 _ _ hm
theorem lpX11_laysLeft_130_53 (x : XT) (k42 : ST → Int32 → Int32 → Option (Unit × ST)) (hk42 : ∀ (S : ST) (v3 : Int32) (v4 : Int32) (r : Unit) (S' : ST), k42 S v3 v4 = some (r, S') → Ev mX11_laysLeft 2 0 0 42 [some (.ref 130), none, none, some (.int v3), some (.int v4), none, none, none, none, none] [] (mkS x S) (fun v h => v = none ∧ h = mkS x S')) : ∀ (n : Nat) (S : ST) (v3 : Int32) (v4 : Int32) (v5 : Int32) (r : Unit) (S' : ST), lfX11_laysLeft_130_53 x k42 n S v3 v4 v5 = some (r, S') → Ev mX11_laysLeft 2 0 0 53 [some (.ref 130), none, none, some (.int v3), some (.int v4), some (.int v5), none, none, none, none] [] (mkS x S) (fun v h => v = none ∧ h = mkS x S')
  | 0, _, _, _, _, _, _, hm => by cases hm
  | n + 1, S, v3, v4, v5, r, S', hm => bpX11_laysLeft_130_53 x k42 hk42 (lfX11_laysLeft_130_53 x k42 n) (lpX11_laysLeft_130_53 x k42 hk42 n) S v3 v4 v5 r S' hm
set_option maxHeartbeats 4000000 in
set_option maxRecDepth 20000 in
theorem bpX11_laysLeft_130_42 (x : XT) (k42 : ST → Int32 → Int32 → Option (Unit × ST)) (hk42 : ∀ (S : ST) (v3 : Int32) (v4 : Int32) (r : Unit) (S' : ST), k42 S v3 v4 = some (r, S') → Ev mX11_laysLeft 2 0 0 42 [some (.ref 130), none, none, some (.int v3), some (.int v4), none, none, none, none, none] [] (mkS x S) (fun v h => v = none ∧ h = mkS x S')) (S : ST) (v3 : Int32) (v4 : Int32) (r : Unit) (S' : ST) (hm : bfX11_laysLeft_130_42 x k42 S v3 v4 = some (r, S')) : Ev mX11_laysLeft 2 0 0 42 [some (.ref 130), none, none, some (.int v3), some (.int v4), none, none, none, none, none] [] (mkS x S) (fun v h => v = none ∧ h = mkS x S') := by
    unfold bfX11_laysLeft_130_42 at hm
    refine Ev.steps tokX11_laysLeft 2 (P := True) (pc' := if v4 = 0 then 172 else 47) (lv' := [some (.ref 130), none, none, some (.int v3), some (.int v4), none, none, none, none, none]) (st' := []) (h' := mkS x S) rfl trivial ?_
    refine Ev.ite (fun c1 => ?_) (fun c1 => ?_)
    · rw [if_pos c1] at hm
      cases hm
      exact Ev.retv tokX11_laysLeft rfl rfl ⟨rfl, rfl⟩
    · rw [if_neg c1] at hm
      refine Ev.steps tokX11_laysLeft 4 (P := True) (pc' := 53) (lv' := [some (.ref 130), none, none, some (.int v3), some (.int 0), some (.int 0), none, none, none, none]) (st' := []) (h' := mkS x S) rfl trivial ?_
      exact lpX11_laysLeft_130_53 x k42 hk42 20000 S v3 0 0 _ _ hm
theorem lpX11_laysLeft_130_42 (x : XT)  : ∀ (n : Nat) (S : ST) (v3 : Int32) (v4 : Int32) (r : Unit) (S' : ST), lfX11_laysLeft_130_42 x  n S v3 v4 = some (r, S') → Ev mX11_laysLeft 2 0 0 42 [some (.ref 130), none, none, some (.int v3), some (.int v4), none, none, none, none, none] [] (mkS x S) (fun v h => v = none ∧ h = mkS x S')
  | 0, _, _, _, _, _, hm => by cases hm
  | n + 1, S, v3, v4, r, S', hm => bpX11_laysLeft_130_42 x (lfX11_laysLeft_130_42 x  n) (lpX11_laysLeft_130_42 x  n) S v3 v4 r S' hm
set_option maxHeartbeats 4000000 in
set_option maxRecDepth 20000 in
theorem bpX11_laysLeft_130_32 (x : XT) (k3 : ST → Int32 → Int32 → Int32 → Int32 → Option (Unit × ST)) (hk3 : ∀ (S : ST) (v1 : Int32) (v2 : Int32) (v3 : Int32) (v4 : Int32) (r : Unit) (S' : ST), k3 S v1 v2 v3 v4 = some (r, S') → Ev mX11_laysLeft 2 0 0 3 [some (.ref 130), some (.int v1), some (.int v2), some (.int v3), some (.int v4), none, none, none, none, none] [] (mkS x S) (fun v h => v = none ∧ h = mkS x S')) (S : ST) (v1 : Int32) (v2 : Int32) (v3 : Int32) (v4 : Int32) (t1 : Int32) (t2 : Int32) (r : Unit) (S' : ST) (hm : bfX11_laysLeft_130_32 x k3 S v1 v2 v3 v4 t1 t2 = some (r, S')) : Ev mX11_laysLeft 2 0 0 32 [some (.ref 130), some (.int v1), some (.int v2), some (.int v3), some (.int v4), none, none, none, none, none] [.int t2, .int t1, .ref 147] (mkS x S) (fun v h => v = none ∧ h = mkS x S') := by
    unfold bfX11_laysLeft_130_32 at hm
    obtain ⟨o1, hm⟩ := oblk hm
    refine Ev.steps tokX11_laysLeft 3 (P := vp_in t1 120 ∧ True) (pc' := 3) (lv' := [some (.ref 130), some (.int v1), some (.int v2), some (.int v3), some (.int (v4 + 1)), none, none, none, none, none]) (st' := []) (h' := mkS x (S.1, (u2 S.2.1 147 t1.toNatClampNeg t2), S.2.2.1, S.2.2.2)) rfl ⟨inb_ok o1, trivial⟩ ?_
    exact hk3 (S.1, (u2 S.2.1 147 t1.toNatClampNeg t2), S.2.2.1, S.2.2.2) v1 v2 v3 (v4 + 1) _ _ hm
set_option maxHeartbeats 4000000 in
set_option maxRecDepth 20000 in
theorem bpX11_laysLeft_130_3 (x : XT) (k3 : ST → Int32 → Int32 → Int32 → Int32 → Option (Unit × ST)) (hk3 : ∀ (S : ST) (v1 : Int32) (v2 : Int32) (v3 : Int32) (v4 : Int32) (r : Unit) (S' : ST), k3 S v1 v2 v3 v4 = some (r, S') → Ev mX11_laysLeft 2 0 0 3 [some (.ref 130), some (.int v1), some (.int v2), some (.int v3), some (.int v4), none, none, none, none, none] [] (mkS x S) (fun v h => v = none ∧ h = mkS x S')) (S : ST) (v1 : Int32) (v2 : Int32) (v3 : Int32) (v4 : Int32) (r : Unit) (S' : ST) (hm : bfX11_laysLeft_130_3 x k3 S v1 v2 v3 v4 = some (r, S')) : Ev mX11_laysLeft 2 0 0 3 [some (.ref 130), some (.int v1), some (.int v2), some (.int v3), some (.int v4), none, none, none, none, none] [] (mkS x S) (fun v h => v = none ∧ h = mkS x S') := by
    unfold bfX11_laysLeft_130_3 at hm
    refine Ev.steps tokX11_laysLeft 3 (P := True) (pc' := if 120 ≤ v4 then 39 else 10) (lv' := [some (.ref 130), some (.int v1), some (.int v2), some (.int v3), some (.int v4), none, none, none, none, none]) (st' := []) (h' := mkS x S) rfl trivial ?_
    refine Ev.ite (fun c1 => ?_) (fun c1 => ?_)
    · rw [if_pos c1] at hm
      refine Ev.steps tokX11_laysLeft 2 (P := True) (pc' := 42) (lv' := [some (.ref 130), some (.int v1), some (.int v2), some (.int v3), some (.int 1), none, none, none, none, none]) (st' := []) (h' := mkS x S) rfl trivial ?_
      refine Ev.fgt (lv' := [some (.ref 130), none, none, some (.int v3), some (.int 1), none, none, none, none, none]) ⟨rfl, rfl, rfl, trivial⟩ ?_
      exact lpX11_laysLeft_130_42 x  1000000000 S v3 1 _ _ hm
    · rw [if_neg c1] at hm
      refine Ev.steps tokX11_laysLeft 6 (P := True) (pc' := 20) (lv' := [some (.ref 130), some (.int v1), some (.int v2), some (.int v3), some (.int v4), none, none, none, none, none]) (st' := [.int v2, .int v1, .int v4, .int v4, .ref 147]) (h' := mkS x S) rfl trivial ?_
      cases h2 : gfX11_isGoal x S v4 v1 v2 with
      | none => rw [h2] at hm; cases hm
      | some q3 =>
        obtain ⟨r4, S5⟩ := q3
        rw [h2] at hm
        dsimp only at hm
        refine ev_callS (N := mX11_isGoal) (d' := 1) (bc := 0) (bs := 0) (bc' := 0) (bs' := 0) (as := [.int v4, .int v1, .int v2]) (rest := [.int v4, .ref 147]) (dcd tokX11_laysLeft rfl) okX11_isGoal inX11_isGoal lk11_386 rfl (by decide) (Nat.le_of_ble_eq_true rfl) (gpX11_isGoal x S v4 v1 v2 _ _ h2) (fun v h' hq hn => ?_)
        obtain ⟨rfl, rfl⟩ := hq
        refine Ev.steps tokX11_laysLeft 1 (P := True) (pc' := if r4 = 0 then 30 else 26) (lv' := [some (.ref 130), some (.int v1), some (.int v2), some (.int v3), some (.int v4), none, none, none, none, none]) (st' := [.int v4, .ref 147]) (h' := mkS x S5) rfl trivial ?_
        refine Ev.ite (fun c6 => ?_) (fun c6 => ?_)
        · rw [if_pos c6] at hm
          refine Ev.steps tokX11_laysLeft 1 (P := True) (pc' := 32) (lv' := [some (.ref 130), some (.int v1), some (.int v2), some (.int v3), some (.int v4), none, none, none, none, none]) (st' := [.int 1000000, .int v4, .ref 147]) (h' := mkS x S5) rfl trivial ?_
          exact bpX11_laysLeft_130_32 x k3 hk3 S5 v1 v2 v3 v4 v4 1000000 _ _ hm
        · rw [if_neg c6] at hm
          refine Ev.steps tokX11_laysLeft 2 (P := True) (pc' := 32) (lv' := [some (.ref 130), some (.int v1), some (.int v2), some (.int v3), some (.int v4), none, none, none, none, none]) (st' := [.int 0, .int v4, .ref 147]) (h' := mkS x S5) rfl trivial ?_
          exact bpX11_laysLeft_130_32 x k3 hk3 S5 v1 v2 v3 v4 v4 0 _ _ hm
theorem lpX11_laysLeft_130_3 (x : XT)  : ∀ (n : Nat) (S : ST) (v1 : Int32) (v2 : Int32) (v3 : Int32) (v4 : Int32) (r : Unit) (S' : ST), lfX11_laysLeft_130_3 x  n S v1 v2 v3 v4 = some (r, S') → Ev mX11_laysLeft 2 0 0 3 [some (.ref 130), some (.int v1), some (.int v2), some (.int v3), some (.int v4), none, none, none, none, none] [] (mkS x S) (fun v h => v = none ∧ h = mkS x S')
  | 0, _, _, _, _, _, _, _, hm => by cases hm
  | n + 1, S, v1, v2, v3, v4, r, S', hm => bpX11_laysLeft_130_3 x (lfX11_laysLeft_130_3 x  n) (lpX11_laysLeft_130_3 x  n) S v1 v2 v3 v4 r S' hm
set_option maxHeartbeats 4000000 in
set_option maxRecDepth 20000 in
theorem bpX11_laysLeft_130_0 (x : XT)  (S : ST) (p1 : Int32) (p2 : Int32) (p3 : Int32) (r : Unit) (S' : ST) (hm : bfX11_laysLeft_130_0 x  S p1 p2 p3 = some (r, S')) : Ev mX11_laysLeft 2 0 0 0 [some (.ref 130), some (.int p1), some (.int p2), some (.int p3), none, none, none, none, none, none] [] (mkS x S) (fun v h => v = none ∧ h = mkS x S') := by
    unfold bfX11_laysLeft_130_0 at hm
    refine Ev.steps tokX11_laysLeft 2 (P := True) (pc' := 3) (lv' := [some (.ref 130), some (.int p1), some (.int p2), some (.int p3), some (.int 0), none, none, none, none, none]) (st' := []) (h' := mkS x S) rfl trivial ?_
    exact lpX11_laysLeft_130_3 x  20000 S p1 p2 p3 0 _ _ hm
theorem gpX11_laysLeft_130 (x : XT) (S : ST) (p1 : Int32) (p2 : Int32) (p3 : Int32) (r : Unit) (S' : ST) (hm : gfX11_laysLeft_130 x S p1 p2 p3 = some (r, S')) : Ct mX11_laysLeft 2 0 0 [.ref 130, .int p1, .int p2, .int p3] (mkS x S) (fun v h => v = none ∧ h = mkS x S') :=
  Ct.of (lv := [some (.ref 130), some (.int p1), some (.int p2), some (.int p3), none, none, none, none, none, none]) rfl rfl rfl (show (_ : Nat) ≤ _ from Nat.le_of_ble_eq_true rfl) (fun G => rfl) (bpX11_laysLeft_130_0 x S p1 p2 p3 r S' hm)
end MIR
