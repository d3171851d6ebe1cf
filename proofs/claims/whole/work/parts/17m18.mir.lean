section MIR
set_option maxHeartbeats 4000000 in
set_option maxRecDepth 20000 in
theorem bpX11_adds_130_0 (x : XT)  (S : ST) (p1 : Int32) (p2 : Int32) (p3 : Int32) (p4 : Int32) (r : Unit) (S' : ST) (hm : bfX11_adds_130_0 x  S p1 p2 p3 p4 = some (r, S')) : Ev mX11_adds 2 0 0 0 [some (.ref 130), some (.int p1), some (.int p2), some (.int p3), some (.int p4), none] [] (mkS x S) (fun v h => v = none ∧ h = mkS x S') := by
    unfold bfX11_adds_130_0 at hm
    refine Ev.steps tokX11_adds 1 (P := True) (pc' := 1) (lv' := [some (.ref 130), some (.int p1), some (.int p2), some (.int p3), some (.int p4), none]) (st' := [.ref 130]) (h' := mkS x S) rfl trivial ?_
    cases h1 : gfX11_gateMany_130 x S with
    | none => rw [h1] at hm; cases hm
    | some q2 =>
      obtain ⟨r3, S4⟩ := q2
      rw [h1] at hm
      dsimp only at hm
      refine ev_callV (N := mX11_gateMany) (d' := 1) (bc := 0) (bs := 0) (bc' := 0) (bs' := 0) (as := []) (rest := []) (a := 130) (ci := 11) (dcd tokX11_adds rfl) okX11_gateMany inX11_gateMany seX11_gateMany lk11_124 rfl (by decide) (Nat.le_of_ble_eq_true rfl) rfl ⟨by decide, rfl⟩ (gpX11_gateMany_130 x S _ _ h1) (fun v h' hq hn => ?_)
      obtain ⟨rfl, rfl⟩ := hq
      obtain ⟨o5, hm⟩ := oblk hm
      obtain ⟨o6, hm⟩ := oblk hm
      obtain ⟨o7, hm⟩ := oblk hm
      obtain ⟨o8, hm⟩ := oblk hm
      obtain ⟨o9, hm⟩ := oblk hm
      refine Ev.steps tokX11_adds 44 (P := vp_in (36 + r3) 5703 ∧ vp_in (46 + r3) 5703 ∧ vp_in (56 + r3) 5703 ∧ vp_in (15 + r3) 5703 ∧ vp_in (25 + r3) 5703 ∧ vp_in 91 5703 ∧ vp_in 91 5703 ∧ True) (pc' := 73) (lv' := [some (.ref 130), some (.int p1), some (.int p2), some (.int p3), some (.int p4), some (.int r3)]) (st' := []) (h' := mkS x (S4.1, (u2 (u2 (u2 (u2 (u2 (u2 S4.2.1 132 ((36 + r3).toNatClampNeg) p1) 132 ((46 + r3).toNatClampNeg) p2) 132 ((56 + r3).toNatClampNeg) p3) 132 ((15 + r3).toNatClampNeg) p4) 132 ((25 + r3).toNatClampNeg) 1) 132 91 (((u2 (u2 (u2 (u2 (u2 S4.2.1 132 ((36 + r3).toNatClampNeg) p1) 132 ((46 + r3).toNatClampNeg) p2) 132 ((56 + r3).toNatClampNeg) p3) 132 ((15 + r3).toNatClampNeg) p4) 132 ((25 + r3).toNatClampNeg) 1) 132 91) + 1)), S4.2.2.1, S4.2.2.2)) rfl ⟨inb_ok o5, inb_ok o6, inb_ok o7, inb_ok o8, inb_ok o9, (by unfold vp_in; decide), (by unfold vp_in; decide), trivial⟩ ?_
      cases hm
      exact Ev.retv tokX11_adds rfl rfl ⟨rfl, rfl⟩
theorem gpX11_adds_130 (x : XT) (S : ST) (p1 : Int32) (p2 : Int32) (p3 : Int32) (p4 : Int32) (r : Unit) (S' : ST) (hm : gfX11_adds_130 x S p1 p2 p3 p4 = some (r, S')) : Ct mX11_adds 2 0 0 [.ref 130, .int p1, .int p2, .int p3, .int p4] (mkS x S) (fun v h => v = none ∧ h = mkS x S') :=
  Ct.of (lv := [some (.ref 130), some (.int p1), some (.int p2), some (.int p3), some (.int p4), none]) rfl rfl rfl (show (_ : Nat) ≤ _ from Nat.le_of_ble_eq_true rfl) (fun G => rfl) (bpX11_adds_130_0 x S p1 p2 p3 p4 r S' hm)
set_option maxHeartbeats 4000000 in
set_option maxRecDepth 20000 in
theorem bpX11_gate_130_0 (x : XT)  (S : ST) (p1 : Int32) (p2 : Int32) (p3 : Int32) (p4 : Int32) (r : Int32) (S' : ST) (hm : bfX11_gate_130_0 x  S p1 p2 p3 p4 = some (r, S')) : Ev mX11_gate 4 0 0 0 [some (.ref 130), some (.int p1), some (.int p2), some (.int p3), some (.int p4)] [] (mkS x S) (fun v h => v = some (.int r) ∧ h = mkS x S') := by
    unfold bfX11_gate_130_0 at hm
    refine Ev.steps tokX11_gate 4 (P := True) (pc' := 5) (lv' := [some (.ref 130), some (.int p1), some (.int p2), some (.int p3), some (.int p4)]) (st' := [.int p4, .int p3, .int p2, .int p1]) (h' := mkS x S) rfl trivial ?_
    cases h1 : gfX11_canGate x S p1 p2 p3 p4 with
    | none => rw [h1] at hm; cases hm
    | some q2 =>
      obtain ⟨r3, S4⟩ := q2
      rw [h1] at hm
      dsimp only at hm
      refine ev_callS (N := mX11_canGate) (d' := 3) (bc := 0) (bs := 0) (bc' := 0) (bs' := 0) (as := [.int p1, .int p2, .int p3, .int p4]) (rest := []) (dcd tokX11_gate rfl) okX11_canGate inX11_canGate lk11_135 rfl (by decide) (Nat.le_of_ble_eq_true rfl) (gpX11_canGate x S p1 p2 p3 p4 _ _ h1) (fun v h' hq hn => ?_)
      obtain ⟨rfl, rfl⟩ := hq
      refine Ev.steps tokX11_gate 1 (P := True) (pc' := if ¬ r3 = 0 then 17 else 11) (lv' := [some (.ref 130), some (.int p1), some (.int p2), some (.int p3), some (.int p4)]) (st' := []) (h' := mkS x S4) rfl trivial ?_
      refine Ev.ite (fun c5 => ?_) (fun c5 => ?_)
      · rw [if_pos c5] at hm
        refine Ev.steps tokX11_gate 1 (P := True) (pc' := 18) (lv' := [some (.ref 130), some (.int p1), some (.int p2), some (.int p3), some (.int p4)]) (st' := [.ref 130]) (h' := mkS x S4) rfl trivial ?_
        cases h6 : gfX11_gateMany_130 x S4 with
        | none => rw [h6] at hm; cases hm
        | some q7 =>
          obtain ⟨r8, S9⟩ := q7
          rw [h6] at hm
          dsimp only at hm
          refine ev_callV (N := mX11_gateMany) (d' := 1) (bc := 0) (bs := 0) (bc' := 0) (bs' := 0) (as := []) (rest := []) (a := 130) (ci := 11) (dcd tokX11_gate rfl) okX11_gateMany inX11_gateMany seX11_gateMany lk11_124 rfl (by decide) (Nat.le_of_ble_eq_true rfl) rfl ⟨by decide, rfl⟩ (gpX11_gateMany_130 x S4 _ _ h6) (fun v h' hq hn => ?_)
          obtain ⟨rfl, rfl⟩ := hq
          refine Ev.steps tokX11_gate 2 (P := True) (pc' := if ¬ r8 = 10 then 33 else 26) (lv' := [some (.ref 130), some (.int p1), some (.int p2), some (.int p3), some (.int p4)]) (st' := []) (h' := mkS x S9) rfl trivial ?_
          refine Ev.ite (fun c10 => ?_) (fun c10 => ?_)
          · rw [if_pos c10] at hm
            refine Ev.steps tokX11_gate 5 (P := True) (pc' := 39) (lv' := [some (.ref 130), some (.int p1), some (.int p2), some (.int p3), some (.int p4)]) (st' := [.int p4, .int p3, .int p2, .int p1, .ref 130]) (h' := mkS x S9) rfl trivial ?_
            cases h11 : gfX11_adds_130 x S9 p1 p2 p3 p4 with
            | none => rw [h11] at hm; cases hm
            | some q12 =>
              obtain ⟨r13, S14⟩ := q12
              rw [h11] at hm
              dsimp only at hm
              refine ev_callV (N := mX11_adds) (d' := 2) (bc := 0) (bs := 0) (bc' := 0) (bs' := 0) (as := [.int p1, .int p2, .int p3, .int p4]) (rest := []) (a := 130) (ci := 11) (dcd tokX11_gate rfl) okX11_adds inX11_adds seX11_adds lk11_139 rfl (by decide) (Nat.le_of_ble_eq_true rfl) rfl ⟨by decide, rfl⟩ (gpX11_adds_130 x S9 p1 p2 p3 p4 _ _ h11) (fun v h' hq hn => ?_)
              obtain ⟨rfl, rfl⟩ := hq
              refine Ev.steps tokX11_gate 2 (P := True) (pc' := 44) (lv' := [some (.ref 130), some (.int p1), some (.int p2), some (.int p3), some (.int p4)]) (st' := [.ref 130, .ref 130]) (h' := mkS x S14) rfl trivial ?_
              cases h15 : gfX11_gateMany_130 x S14 with
              | none => rw [h15] at hm; cases hm
              | some q16 =>
                obtain ⟨r17, S18⟩ := q16
                rw [h15] at hm
                dsimp only at hm
                refine ev_callV (N := mX11_gateMany) (d' := 1) (bc := 0) (bs := 0) (bc' := 0) (bs' := 0) (as := []) (rest := [.ref 130]) (a := 130) (ci := 11) (dcd tokX11_gate rfl) okX11_gateMany inX11_gateMany seX11_gateMany lk11_124 rfl (by decide) (Nat.le_of_ble_eq_true rfl) rfl ⟨by decide, rfl⟩ (gpX11_gateMany_130 x S14 _ _ h15) (fun v h' hq hn => ?_)
                obtain ⟨rfl, rfl⟩ := hq
                refine Ev.steps tokX11_gate 2 (P := True) (pc' := 49) (lv' := [some (.ref 130), some (.int p1), some (.int p2), some (.int p3), some (.int p4)]) (st' := [.int (r17 - 1), .ref 130]) (h' := mkS x S18) rfl trivial ?_
                cases h19 : gfX11_settled_130 x S18 (r17 - 1) with
                | none => rw [h19] at hm; cases hm
                | some q20 =>
                  obtain ⟨r21, S22⟩ := q20
                  rw [h19] at hm
                  dsimp only at hm
                  refine ev_callV (N := mX11_settled) (d' := 2) (bc := 0) (bs := 0) (bc' := 0) (bs' := 0) (as := [.int (r17 - 1)]) (rest := []) (a := 130) (ci := 11) (dcd tokX11_gate rfl) okX11_settled inX11_settled seX11_settled lk11_121 rfl (by decide) (Nat.le_of_ble_eq_true rfl) rfl ⟨by decide, rfl⟩ (gpX11_settled_130 x S18 (r17 - 1) _ _ h19) (fun v h' hq hn => ?_)
                  obtain ⟨rfl, rfl⟩ := hq
                  cases hm
                  exact Ev.reti tokX11_gate rfl rfl ⟨rfl, rfl⟩
          · rw [if_neg c10] at hm
            refine Ev.steps tokX11_gate 2 (P := True) (pc' := 29) (lv' := [some (.ref 130), some (.int p1), some (.int p2), some (.int p3), some (.int p4)]) (st' := [.int (-5), .ref 130]) (h' := mkS x S9) rfl trivial ?_
            cases h23 : gfX11_refuses_130 x S9 (-5) with
            | none => rw [h23] at hm; cases hm
            | some q24 =>
              obtain ⟨r25, S26⟩ := q24
              rw [h23] at hm
              dsimp only at hm
              refine ev_callV (N := mX11_refuses) (d' := 1) (bc := 0) (bs := 0) (bc' := 0) (bs' := 0) (as := [.int (-5)]) (rest := []) (a := 130) (ci := 11) (dcd tokX11_gate rfl) okX11_refuses inX11_refuses seX11_refuses lk11_118 rfl (by decide) (Nat.le_of_ble_eq_true rfl) rfl ⟨by decide, rfl⟩ (gpX11_refuses_130 x S9 (-5) _ _ h23) (fun v h' hq hn => ?_)
              obtain ⟨rfl, rfl⟩ := hq
              cases hm
              exact Ev.reti tokX11_gate rfl rfl ⟨rfl, rfl⟩
      · rw [if_neg c5] at hm
        refine Ev.steps tokX11_gate 2 (P := True) (pc' := 13) (lv' := [some (.ref 130), some (.int p1), some (.int p2), some (.int p3), some (.int p4)]) (st' := [.int (-1), .ref 130]) (h' := mkS x S4) rfl trivial ?_
        cases h27 : gfX11_refuses_130 x S4 (-1) with
        | none => rw [h27] at hm; cases hm
        | some q28 =>
          obtain ⟨r29, S30⟩ := q28
          rw [h27] at hm
          dsimp only at hm
          refine ev_callV (N := mX11_refuses) (d' := 1) (bc := 0) (bs := 0) (bc' := 0) (bs' := 0) (as := [.int (-1)]) (rest := []) (a := 130) (ci := 11) (dcd tokX11_gate rfl) okX11_refuses inX11_refuses seX11_refuses lk11_118 rfl (by decide) (Nat.le_of_ble_eq_true rfl) rfl ⟨by decide, rfl⟩ (gpX11_refuses_130 x S4 (-1) _ _ h27) (fun v h' hq hn => ?_)
          obtain ⟨rfl, rfl⟩ := hq
          cases hm
          exact Ev.reti tokX11_gate rfl rfl ⟨rfl, rfl⟩
theorem gpX11_gate_130 (x : XT) (S : ST) (p1 : Int32) (p2 : Int32) (p3 : Int32) (p4 : Int32) (r : Int32) (S' : ST) (hm : gfX11_gate_130 x S p1 p2 p3 p4 = some (r, S')) : Ct mX11_gate 4 0 0 [.ref 130, .int p1, .int p2, .int p3, .int p4] (mkS x S) (fun v h => v = some (.int r) ∧ h = mkS x S') :=
  Ct.of (lv := [some (.ref 130), some (.int p1), some (.int p2), some (.int p3), some (.int p4)]) rfl rfl rfl (show (_ : Nat) ≤ _ from Nat.le_of_ble_eq_true rfl) (fun G => rfl) (bpX11_gate_130_0 x S p1 p2 p3 p4 r S' hm)
set_option maxHeartbeats 4000000 in
set_option maxRecDepth 20000 in
theorem bpX11_at_130_0 (x : XT)  (S : ST) (p1 : Int32) (p2 : Int32) (r : Int32) (S' : ST) (hm : bfX11_at_130_0 x  S p1 p2 = some (r, S')) : Ev mX11_at 3 0 0 0 [some (.ref 130), some (.int p1), some (.int p2)] [] (mkS x S) (fun v h => v = some (.int r) ∧ h = mkS x S') := by
    unfold bfX11_at_130_0 at hm
    refine Ev.steps tokX11_at 2 (P := True) (pc' := 2) (lv' := [some (.ref 130), some (.int p1), some (.int p2)]) (st' := [.int p1, .ref 130]) (h' := mkS x S) rfl trivial ?_
    cases h1 : gfX11_isGate_130 x S p1 with
    | none => rw [h1] at hm; cases hm
    | some q2 =>
      obtain ⟨r3, S4⟩ := q2
      rw [h1] at hm
      dsimp only at hm
      refine ev_callV (N := mX11_isGate) (d' := 2) (bc := 0) (bs := 0) (bc' := 0) (bs' := 0) (as := [.int p1]) (rest := []) (a := 130) (ci := 11) (dcd tokX11_at rfl) okX11_isGate inX11_isGate seX11_isGate lk11_143 rfl (by decide) (Nat.le_of_ble_eq_true rfl) rfl ⟨by decide, rfl⟩ (gpX11_isGate_130 x S p1 _ _ h1) (fun v h' hq hn => ?_)
      obtain ⟨rfl, rfl⟩ := hq
      refine Ev.steps tokX11_at 1 (P := True) (pc' := if ¬ r3 = 0 then 10 else 8) (lv' := [some (.ref 130), some (.int p1), some (.int p2)]) (st' := []) (h' := mkS x S4) rfl trivial ?_
      refine Ev.ite (fun c5 => ?_) (fun c5 => ?_)
      · rw [if_pos c5] at hm
        refine Ev.steps tokX11_at 1 (P := True) (pc' := 11) (lv' := [some (.ref 130), some (.int p1), some (.int p2)]) (st' := [.int p2]) (h' := mkS x S4) rfl trivial ?_
        by_cases c6 : p2 = 0
        · rw [if_pos c6] at hm
          refine ev_tIn (off := 33) (t := 44) (dcd tokX11_at rfl) (by rw [c6]; decide) (by rw [c6]; decide) (by rw [c6]; rfl) rfl ?_
          obtain ⟨o7, hm⟩ := oblk hm
          refine Ev.steps tokX11_at 6 (P := vp_in (36 + p1) 5703 ∧ True) (pc' := 53) (lv' := [some (.ref 130), some (.int p1), some (.int p2)]) (st' := [.int (S4.2.1 132 ((36 + p1).toNatClampNeg))]) (h' := mkS x S4) rfl ⟨inb_ok o7, trivial⟩ ?_
          cases hm
          exact Ev.reti tokX11_at rfl rfl ⟨rfl, rfl⟩
        rw [if_neg c6] at hm
        by_cases c8 : p2 = 1
        · rw [if_pos c8] at hm
          refine ev_tIn (off := 43) (t := 54) (dcd tokX11_at rfl) (by rw [c8]; decide) (by rw [c8]; decide) (by rw [c8]; rfl) rfl ?_
          obtain ⟨o9, hm⟩ := oblk hm
          refine Ev.steps tokX11_at 6 (P := vp_in (46 + p1) 5703 ∧ True) (pc' := 63) (lv' := [some (.ref 130), some (.int p1), some (.int p2)]) (st' := [.int (S4.2.1 132 ((46 + p1).toNatClampNeg))]) (h' := mkS x S4) rfl ⟨inb_ok o9, trivial⟩ ?_
          cases hm
          exact Ev.reti tokX11_at rfl rfl ⟨rfl, rfl⟩
        rw [if_neg c8] at hm
        by_cases c10 : p2 = 2
        · rw [if_pos c10] at hm
          refine ev_tIn (off := 53) (t := 64) (dcd tokX11_at rfl) (by rw [c10]; decide) (by rw [c10]; decide) (by rw [c10]; rfl) rfl ?_
          obtain ⟨o11, hm⟩ := oblk hm
          refine Ev.steps tokX11_at 6 (P := vp_in (56 + p1) 5703 ∧ True) (pc' := 73) (lv' := [some (.ref 130), some (.int p1), some (.int p2)]) (st' := [.int (S4.2.1 132 ((56 + p1).toNatClampNeg))]) (h' := mkS x S4) rfl ⟨inb_ok o11, trivial⟩ ?_
          cases hm
          exact Ev.reti tokX11_at rfl rfl ⟨rfl, rfl⟩
        rw [if_neg c10] at hm
        by_cases c12 : p2 = 3
        · rw [if_pos c12] at hm
          refine ev_tIn (off := 63) (t := 74) (dcd tokX11_at rfl) (by rw [c12]; decide) (by rw [c12]; decide) (by rw [c12]; rfl) rfl ?_
          obtain ⟨o13, hm⟩ := oblk hm
          refine Ev.steps tokX11_at 6 (P := vp_in (15 + p1) 5703 ∧ True) (pc' := 83) (lv' := [some (.ref 130), some (.int p1), some (.int p2)]) (st' := [.int (S4.2.1 132 ((15 + p1).toNatClampNeg))]) (h' := mkS x S4) rfl ⟨inb_ok o13, trivial⟩ ?_
          cases hm
          exact Ev.reti tokX11_at rfl rfl ⟨rfl, rfl⟩
        rw [if_neg c12] at hm
        by_cases c14 : p2 = 4
        · rw [if_pos c14] at hm
          refine ev_tIn (off := 73) (t := 84) (dcd tokX11_at rfl) (by rw [c14]; decide) (by rw [c14]; decide) (by rw [c14]; rfl) rfl ?_
          obtain ⟨o15, hm⟩ := oblk hm
          refine Ev.steps tokX11_at 6 (P := vp_in (25 + p1) 5703 ∧ True) (pc' := 93) (lv' := [some (.ref 130), some (.int p1), some (.int p2)]) (st' := [.int (S4.2.1 132 ((25 + p1).toNatClampNeg))]) (h' := mkS x S4) rfl ⟨inb_ok o15, trivial⟩ ?_
          cases hm
          exact Ev.reti tokX11_at rfl rfl ⟨rfl, rfl⟩
        rw [if_neg c14] at hm
        refine ev_tOut (t := 94) (dcd tokX11_at rfl) (by have zc6 := lv_neT c6 (show (0 : Int32).toInt = 0 from by decide); have zc8 := lv_neT c8 (show (1 : Int32).toInt = 1 from by decide); have zc10 := lv_neT c10 (show (2 : Int32).toInt = 2 from by decide); have zc12 := lv_neT c12 (show (3 : Int32).toInt = 3 from by decide); have zc14 := lv_neT c14 (show (4 : Int32).toInt = 4 from by decide); omega) rfl ?_
        refine Ev.steps tokX11_at 1 (P := True) (pc' := 95) (lv' := [some (.ref 130), some (.int p1), some (.int p2)]) (st' := [.int (-1)]) (h' := mkS x S4) rfl trivial ?_
        cases hm
        exact Ev.reti tokX11_at rfl rfl ⟨rfl, rfl⟩
      · rw [if_neg c5] at hm
        refine Ev.steps tokX11_at 1 (P := True) (pc' := 9) (lv' := [some (.ref 130), some (.int p1), some (.int p2)]) (st' := [.int (-1)]) (h' := mkS x S4) rfl trivial ?_
        cases hm
        exact Ev.reti tokX11_at rfl rfl ⟨rfl, rfl⟩
theorem gpX11_at_130 (x : XT) (S : ST) (p1 : Int32) (p2 : Int32) (r : Int32) (S' : ST) (hm : gfX11_at_130 x S p1 p2 = some (r, S')) : Ct mX11_at 3 0 0 [.ref 130, .int p1, .int p2] (mkS x S) (fun v h => v = some (.int r) ∧ h = mkS x S') :=
  Ct.of (lv := [some (.ref 130), some (.int p1), some (.int p2)]) rfl rfl rfl (show (_ : Nat) ≤ _ from Nat.le_of_ble_eq_true rfl) (fun G => rfl) (bpX11_at_130_0 x S p1 p2 r S' hm)
set_option maxHeartbeats 4000000 in
set_option maxRecDepth 20000 in
theorem bpX11_goer_130_23 (x : XT)  (S : ST)  (r : Int32) (S' : ST) (hm : bfX11_goer_130_23 x  S  = some (r, S')) : Ev mX11_goer 3 0 0 23 [some (.ref 130), none, none, none, none] [] (mkS x S) (fun v h => v = some (.int r) ∧ h = mkS x S') := by
    unfold bfX11_goer_130_23 at hm
    refine Ev.steps tokX11_goer 2 (P := True) (pc' := 25) (lv' := [some (.ref 130), none, none, none, none]) (st' := [.int (-1), .ref 130]) (h' := mkS x S) rfl trivial ?_
    cases h1 : gfX11_refuses_130 x S (-1) with
    | none => rw [h1] at hm; cases hm
    | some q2 =>
      obtain ⟨r3, S4⟩ := q2
      rw [h1] at hm
      dsimp only at hm
      refine ev_callV (N := mX11_refuses) (d' := 1) (bc := 0) (bs := 0) (bc' := 0) (bs' := 0) (as := [.int (-1)]) (rest := []) (a := 130) (ci := 11) (dcd tokX11_goer rfl) okX11_refuses inX11_refuses seX11_refuses lk11_118 rfl (by decide) (Nat.le_of_ble_eq_true rfl) rfl ⟨by decide, rfl⟩ (gpX11_refuses_130 x S (-1) _ _ h1) (fun v h' hq hn => ?_)
      obtain ⟨rfl, rfl⟩ := hq
      cases hm
      exact Ev.reti tokX11_goer rfl rfl ⟨rfl, rfl⟩
set_option maxHeartbeats 4000000 in
set_option maxRecDepth 20000 in
theorem bpX11_goer_130_0 (x : XT)  (S : ST) (p1 : Int32) (p2 : Int32) (p3 : Int32) (r : Int32) (S' : ST) (hm : bfX11_goer_130_0 x  S p1 p2 p3 = some (r, S')) : Ev mX11_goer 3 0 0 0 [some (.ref 130), some (.int p1), some (.int p2), some (.int p3), none] [] (mkS x S) (fun v h => v = some (.int r) ∧ h = mkS x S') := by
    unfold bfX11_goer_130_0 at hm
    refine Ev.steps tokX11_goer 1 (P := True) (pc' := 1) (lv' := [some (.ref 130), some (.int p1), some (.int p2), some (.int p3), none]) (st' := [.int p1]) (h' := mkS x S) rfl trivial ?_
    cases h1 : gfX11_isPark x S p1 with
    | none => rw [h1] at hm; cases hm
    | some q2 =>
      obtain ⟨r3, S4⟩ := q2
      rw [h1] at hm
      dsimp only at hm
      refine ev_callS (N := mX11_isPark) (d' := 2) (bc := 0) (bs := 0) (bc' := 0) (bs' := 0) (as := [.int p1]) (rest := []) (dcd tokX11_goer rfl) okX11_isPark inX11_isPark lk11_128 rfl (by decide) (Nat.le_of_ble_eq_true rfl) (gpX11_isPark x S p1 _ _ h1) (fun v h' hq hn => ?_)
      obtain ⟨rfl, rfl⟩ := hq
      refine Ev.steps tokX11_goer 1 (P := True) (pc' := if r3 = 0 then 23 else 7) (lv' := [some (.ref 130), some (.int p1), some (.int p2), some (.int p3), none]) (st' := []) (h' := mkS x S4) rfl trivial ?_
      refine Ev.ite (fun c5 => ?_) (fun c5 => ?_)
      · rw [if_pos c5] at hm
        refine Ev.fgt (lv' := [some (.ref 130), none, none, none, none]) ⟨rfl, trivial⟩ ?_
        exact bpX11_goer_130_23 x S4 _ _ hm
      · rw [if_neg c5] at hm
        refine Ev.steps tokX11_goer 1 (P := True) (pc' := 8) (lv' := [some (.ref 130), some (.int p1), some (.int p2), some (.int p3), none]) (st' := [.int p2]) (h' := mkS x S4) rfl trivial ?_
        cases h6 : gfX11_isMany x S4 p2 with
        | none => rw [h6] at hm; cases hm
        | some q7 =>
          obtain ⟨r8, S9⟩ := q7
          rw [h6] at hm
          dsimp only at hm
          refine ev_callS (N := mX11_isMany) (d' := 2) (bc := 0) (bs := 0) (bc' := 0) (bs' := 0) (as := [.int p2]) (rest := []) (dcd tokX11_goer rfl) okX11_isMany inX11_isMany lk11_146 rfl (by decide) (Nat.le_of_ble_eq_true rfl) (gpX11_isMany x S4 p2 _ _ h6) (fun v h' hq hn => ?_)
          obtain ⟨rfl, rfl⟩ := hq
          refine Ev.steps tokX11_goer 1 (P := True) (pc' := if r8 = 0 then 23 else 14) (lv' := [some (.ref 130), some (.int p1), some (.int p2), some (.int p3), none]) (st' := []) (h' := mkS x S9) rfl trivial ?_
          refine Ev.ite (fun c10 => ?_) (fun c10 => ?_)
          · rw [if_pos c10] at hm
            refine Ev.fgt (lv' := [some (.ref 130), none, none, none, none]) ⟨rfl, trivial⟩ ?_
            exact bpX11_goer_130_23 x S9 _ _ hm
          · rw [if_neg c10] at hm
            refine Ev.steps tokX11_goer 3 (P := True) (pc' := 17) (lv' := [some (.ref 130), some (.int p1), some (.int p2), some (.int p3), none]) (st' := [.int 3, .int 0, .int p3]) (h' := mkS x S9) rfl trivial ?_
            cases h11 : gfX11_lies x S9 p3 0 3 with
            | none => rw [h11] at hm; cases hm
            | some q12 =>
              obtain ⟨r13, S14⟩ := q12
              rw [h11] at hm
              dsimp only at hm
              refine ev_callS (N := mX11_lies) (d' := 1) (bc := 0) (bs := 0) (bc' := 0) (bs' := 0) (as := [.int p3, .int 0, .int 3]) (rest := []) (dcd tokX11_goer rfl) okX11_lies inX11_lies lk11_18 rfl (by decide) (Nat.le_of_ble_eq_true rfl) (gpX11_lies x S9 p3 0 3 _ _ h11) (fun v h' hq hn => ?_)
              obtain ⟨rfl, rfl⟩ := hq
              refine Ev.steps tokX11_goer 1 (P := True) (pc' := if ¬ r13 = 0 then 29 else 23) (lv' := [some (.ref 130), some (.int p1), some (.int p2), some (.int p3), none]) (st' := []) (h' := mkS x S14) rfl trivial ?_
              refine Ev.ite (fun c15 => ?_) (fun c15 => ?_)
              · rw [if_pos c15] at hm
                refine Ev.steps tokX11_goer 8 (P := vp_in 92 5703 ∧ True) (pc' := if ¬ (S14.2.1 132 92) = 5 then 51 else 44) (lv' := [some (.ref 130), some (.int p1), some (.int p2), some (.int p3), some (.int (S14.2.1 132 92))]) (st' := []) (h' := mkS x S14) rfl ⟨(by unfold vp_in; decide), trivial⟩ ?_
                refine Ev.ite (fun c16 => ?_) (fun c16 => ?_)
                · rw [if_pos c16] at hm
                  obtain ⟨o17, hm⟩ := oblk hm
                  obtain ⟨o18, hm⟩ := oblk hm
                  obtain ⟨o19, hm⟩ := oblk hm
                  obtain ⟨o20, hm⟩ := oblk hm
                  refine Ev.steps tokX11_goer 38 (P := vp_in (0 + (S14.2.1 132 92)) 5703 ∧ vp_in (5 + (S14.2.1 132 92)) 5703 ∧ vp_in (10 + (S14.2.1 132 92)) 5703 ∧ vp_in (66 + (S14.2.1 132 92)) 5703 ∧ vp_in 92 5703 ∧ vp_in 92 5703 ∧ True) (pc' := 107) (lv' := [some (.ref 130), some (.int p1), some (.int p2), some (.int p3), some (.int (S14.2.1 132 92))]) (st' := [.int (S14.2.1 132 92), .ref 130]) (h' := mkS x (S14.1, (u2 (u2 (u2 (u2 (u2 S14.2.1 132 ((0 + (S14.2.1 132 92)).toNatClampNeg) p1) 132 ((5 + (S14.2.1 132 92)).toNatClampNeg) p2) 132 ((10 + (S14.2.1 132 92)).toNatClampNeg) 0) 132 ((66 + (S14.2.1 132 92)).toNatClampNeg) p3) 132 92 (((u2 (u2 (u2 (u2 S14.2.1 132 ((0 + (S14.2.1 132 92)).toNatClampNeg) p1) 132 ((5 + (S14.2.1 132 92)).toNatClampNeg) p2) 132 ((10 + (S14.2.1 132 92)).toNatClampNeg) 0) 132 ((66 + (S14.2.1 132 92)).toNatClampNeg) p3) 132 92) + 1)), S14.2.2.1, S14.2.2.2)) rfl ⟨inb_ok o17, inb_ok o18, inb_ok o19, inb_ok o20, (by unfold vp_in; decide), (by unfold vp_in; decide), trivial⟩ ?_
                  cases h21 : gfX11_settled_130 x (S14.1, (u2 (u2 (u2 (u2 (u2 S14.2.1 132 ((0 + (S14.2.1 132 92)).toNatClampNeg) p1) 132 ((5 + (S14.2.1 132 92)).toNatClampNeg) p2) 132 ((10 + (S14.2.1 132 92)).toNatClampNeg) 0) 132 ((66 + (S14.2.1 132 92)).toNatClampNeg) p3) 132 92 (((u2 (u2 (u2 (u2 S14.2.1 132 ((0 + (S14.2.1 132 92)).toNatClampNeg) p1) 132 ((5 + (S14.2.1 132 92)).toNatClampNeg) p2) 132 ((10 + (S14.2.1 132 92)).toNatClampNeg) 0) 132 ((66 + (S14.2.1 132 92)).toNatClampNeg) p3) 132 92) + 1)), S14.2.2.1, S14.2.2.2) (S14.2.1 132 92) with
                  | none => rw [h21] at hm; cases hm
                  | some q22 =>
                    obtain ⟨r23, S24⟩ := q22
                    rw [h21] at hm
                    dsimp only at hm
                    refine ev_callV (N := mX11_settled) (d' := 2) (bc := 0) (bs := 0) (bc' := 0) (bs' := 0) (as := [.int (S14.2.1 132 92)]) (rest := []) (a := 130) (ci := 11) (dcd tokX11_goer rfl) okX11_settled inX11_settled seX11_settled lk11_121 rfl (by decide) (Nat.le_of_ble_eq_true rfl) rfl ⟨by decide, rfl⟩ (gpX11_settled_130 x (S14.1, (u2 (u2 (u2 (u2 (u2 S14.2.1 132 ((0 + (S14.2.1 132 92)).toNatClampNeg) p1) 132 ((5 + (S14.2.1 132 92)).toNatClampNeg) p2) 132 ((10 + (S14.2.1 132 92)).toNatClampNeg) 0) 132 ((66 + (S14.2.1 132 92)).toNatClampNeg) p3) 132 92 (((u2 (u2 (u2 (u2 S14.2.1 132 ((0 + (S14.2.1 132 92)).toNatClampNeg) p1) 132 ((5 + (S14.2.1 132 92)).toNatClampNeg) p2) 132 ((10 + (S14.2.1 132 92)).toNatClampNeg) 0) 132 ((66 + (S14.2.1 132 92)).toNatClampNeg) p3) 132 92) + 1)), S14.2.2.1, S14.2.2.2) (S14.2.1 132 92) _ _ h21) (fun v h' hq hn => ?_)
                    obtain ⟨rfl, rfl⟩ := hq
                    cases hm
                    exact Ev.reti tokX11_goer rfl rfl ⟨rfl, rfl⟩
                · rw [if_neg c16] at hm
                  refine Ev.steps tokX11_goer 2 (P := True) (pc' := 47) (lv' := [some (.ref 130), some (.int p1), some (.int p2), some (.int p3), some (.int (S14.2.1 132 92))]) (st' := [.int (-5), .ref 130]) (h' := mkS x S14) rfl trivial ?_
                  cases h25 : gfX11_refuses_130 x S14 (-5) with
                  | none => rw [h25] at hm; cases hm
                  | some q26 =>
                    obtain ⟨r27, S28⟩ := q26
                    rw [h25] at hm
                    dsimp only at hm
                    refine ev_callV (N := mX11_refuses) (d' := 1) (bc := 0) (bs := 0) (bc' := 0) (bs' := 0) (as := [.int (-5)]) (rest := []) (a := 130) (ci := 11) (dcd tokX11_goer rfl) okX11_refuses inX11_refuses seX11_refuses lk11_118 rfl (by decide) (Nat.le_of_ble_eq_true rfl) rfl ⟨by decide, rfl⟩ (gpX11_refuses_130 x S14 (-5) _ _ h25) (fun v h' hq hn => ?_)
                    obtain ⟨rfl, rfl⟩ := hq
                    cases hm
                    exact Ev.reti tokX11_goer rfl rfl ⟨rfl, rfl⟩
              · rw [if_neg c15] at hm
                refine Ev.fgt (lv' := [some (.ref 130), none, none, none, none]) ⟨rfl, trivial⟩ ?_
                exact bpX11_goer_130_23 x S14 _ _ hm
theorem gpX11_goer_130 (x : XT) (S : ST) (p1 : Int32) (p2 : Int32) (p3 : Int32) (r : Int32) (S' : ST) (hm : gfX11_goer_130 x S p1 p2 p3 = some (r, S')) : Ct mX11_goer 3 0 0 [.ref 130, .int p1, .int p2, .int p3] (mkS x S) (fun v h => v = some (.int r) ∧ h = mkS x S') :=
  Ct.of (lv := [some (.ref 130), some (.int p1), some (.int p2), some (.int p3), none]) rfl rfl rfl (show (_ : Nat) ≤ _ from Nat.le_of_ble_eq_true rfl) (fun G => rfl) (bpX11_goer_130_0 x S p1 p2 p3 r S' hm)
set_option maxHeartbeats 4000000 in
set_option maxRecDepth 20000 in
theorem bpX11_setsAsked_130_0 (x : XT)  (S : ST) (p1 : Int32) (p2 : Int32) (p3 : Int32) (p4 : Int32) (p5 : Int32) (p6 : Int32) (r : Unit) (S' : ST) (hm : bfX11_setsAsked_130_0 x  S p1 p2 p3 p4 p5 p6 = some (r, S')) : Ev mX11_setsAsked 1 0 0 0 [some (.ref 130), some (.int p1), some (.int p2), some (.int p3), some (.int p4), some (.int p5), some (.int p6)] [] (mkS x S) (fun v h => v = none ∧ h = mkS x S') := by
    unfold bfX11_setsAsked_130_0 at hm
    refine Ev.steps tokX11_setsAsked 46 (P := vp_in 0 8 ∧ vp_in 1 8 ∧ vp_in 2 8 ∧ vp_in 3 8 ∧ vp_in 90 5703 ∧ vp_in 4 8 ∧ vp_in 5 8 ∧ vp_in 6 8 ∧ vp_in 35 5703 ∧ vp_in 7 8 ∧ True) (pc' := 73) (lv' := [some (.ref 130), some (.int p1), some (.int p2), some (.int p3), some (.int p4), some (.int p5), some (.int p6)]) (st' := []) (h' := mkS x (S.1, (u2 (u2 (u2 (u2 (u2 (u2 (u2 (u2 S.2.1 142 0 p1) 142 1 p4) 142 2 p5) 142 3 p6) 142 4 (S.2.1 132 90)) 142 5 p2) 142 6 p3) 142 7 (S.2.1 132 35)), S.2.2.1, S.2.2.2)) rfl ⟨(by unfold vp_in; decide), (by unfold vp_in; decide), (by unfold vp_in; decide), (by unfold vp_in; decide), (by unfold vp_in; decide), (by unfold vp_in; decide), (by unfold vp_in; decide), (by unfold vp_in; decide), (by unfold vp_in; decide), (by unfold vp_in; decide), trivial⟩ ?_
    cases hm
    exact Ev.retv tokX11_setsAsked rfl rfl ⟨rfl, rfl⟩
theorem gpX11_setsAsked_130 (x : XT) (S : ST) (p1 : Int32) (p2 : Int32) (p3 : Int32) (p4 : Int32) (p5 : Int32) (p6 : Int32) (r : Unit) (S' : ST) (hm : gfX11_setsAsked_130 x S p1 p2 p3 p4 p5 p6 = some (r, S')) : Ct mX11_setsAsked 1 0 0 [.ref 130, .int p1, .int p2, .int p3, .int p4, .int p5, .int p6] (mkS x S) (fun v h => v = none ∧ h = mkS x S') :=
  Ct.of (lv := [some (.ref 130), some (.int p1), some (.int p2), some (.int p3), some (.int p4), some (.int p5), some (.int p6)]) rfl rfl rfl (show (_ : Nat) ≤ _ from Nat.le_of_ble_eq_true rfl) (fun G => rfl) (bpX11_setsAsked_130_0 x S p1 p2 p3 p4 p5 p6 r S' hm)
set_option maxHeartbeats 4000000 in
set_option maxRecDepth 20000 in
theorem bpX11_setsGate_130_0 (x : XT)  (S : ST) (p1 : Int32) (p2 : Int32) (p3 : Int32) (r : Unit) (S' : ST) (hm : bfX11_setsGate_130_0 x  S p1 p2 p3 = some (r, S')) : Ev mX11_setsGate 2 0 0 0 [some (.ref 130), some (.int p1), some (.int p2), some (.int p3)] [] (mkS x S) (fun v h => v = none ∧ h = mkS x S') := by
    unfold bfX11_setsGate_130_0 at hm
    obtain ⟨o1, hm⟩ := oblk hm
    obtain ⟨o2, hm⟩ := oblk hm
    obtain ⟨o3, hm⟩ := oblk hm
    refine Ev.steps tokX11_setsGate 22 (P := vp_in (56 + p2) 5703 ∧ vp_in (15 + p2) 5703 ∧ vp_in (66 + p1) 5703 ∧ True) (pc' := 31) (lv' := [some (.ref 130), some (.int p1), some (.int p2), some (.int p3)]) (st' := [.int p1, .int p2, .int (S.2.1 132 ((66 + p1).toNatClampNeg)), .int p3, .int (S.2.1 132 ((15 + p2).toNatClampNeg)), .int (S.2.1 132 ((56 + p2).toNatClampNeg)), .ref 130]) (h' := mkS x S) rfl ⟨inb_ok o1, inb_ok o2, inb_ok o3, trivial⟩ ?_
    cases h4 : gfX11_setsAsked_130 x S (S.2.1 132 ((56 + p2).toNatClampNeg)) (S.2.1 132 ((15 + p2).toNatClampNeg)) p3 (S.2.1 132 ((66 + p1).toNatClampNeg)) p2 p1 with
    | none => rw [h4] at hm; cases hm
    | some q5 =>
      obtain ⟨r6, S7⟩ := q5
      rw [h4] at hm
      dsimp only at hm
      refine ev_callV (N := mX11_setsAsked) (d' := 1) (bc := 0) (bs := 0) (bc' := 0) (bs' := 0) (as := [.int (S.2.1 132 ((56 + p2).toNatClampNeg)), .int (S.2.1 132 ((15 + p2).toNatClampNeg)), .int p3, .int (S.2.1 132 ((66 + p1).toNatClampNeg)), .int p2, .int p1]) (rest := []) (a := 130) (ci := 11) (dcd tokX11_setsGate rfl) okX11_setsAsked inX11_setsAsked seX11_setsAsked lk11_348 rfl (by decide) (Nat.le_of_ble_eq_true rfl) rfl ⟨by decide, rfl⟩ (gpX11_setsAsked_130 x S (S.2.1 132 ((56 + p2).toNatClampNeg)) (S.2.1 132 ((15 + p2).toNatClampNeg)) p3 (S.2.1 132 ((66 + p1).toNatClampNeg)) p2 p1 _ _ h4) (fun v h' hq hn => ?_)
      obtain ⟨rfl, rfl⟩ := hq
      cases hm
      exact Ev.retv tokX11_setsGate rfl rfl ⟨rfl, rfl⟩
theorem gpX11_setsGate_130 (x : XT) (S : ST) (p1 : Int32) (p2 : Int32) (p3 : Int32) (r : Unit) (S' : ST) (hm : gfX11_setsGate_130 x S p1 p2 p3 = some (r, S')) : Ct mX11_setsGate 2 0 0 [.ref 130, .int p1, .int p2, .int p3] (mkS x S) (fun v h => v = none ∧ h = mkS x S') :=
  Ct.of (lv := [some (.ref 130), some (.int p1), some (.int p2), some (.int p3)]) rfl rfl rfl (show (_ : Nat) ≤ _ from Nat.le_of_ble_eq_true rfl) (fun G => rfl) (bpX11_setsGate_130_0 x S p1 p2 p3 r S' hm)
set_option maxHeartbeats 4000000 in
set_option maxRecDepth 20000 in
theorem bpX11_codeAt_130_21 (x : XT)  (S : ST) (t0 : Int32) (r : Int32) (S' : ST) (hm : bfX11_codeAt_130_21 x  S t0 = some (r, S')) : Ev mX11_codeAt 1 0 0 21 [none, none] [.int t0] (mkS x S) (fun v h => v = some (.int r) ∧ h = mkS x S') := by
    unfold bfX11_codeAt_130_21 at hm
    cases hm
    exact Ev.reti tokX11_codeAt rfl rfl ⟨rfl, rfl⟩
set_option maxHeartbeats 4000000 in
set_option maxRecDepth 20000 in
theorem bpX11_codeAt_130_0 (x : XT)  (S : ST) (p1 : Int32) (r : Int32) (S' : ST) (hm : bfX11_codeAt_130_0 x  S p1 = some (r, S')) : Ev mX11_codeAt 1 0 0 0 [some (.ref 130), some (.int p1)] [] (mkS x S) (fun v h => v = some (.int r) ∧ h = mkS x S') := by
    unfold bfX11_codeAt_130_0 at hm
    refine Ev.steps tokX11_codeAt 4 (P := True) (pc' := if (S.1 130 23) ≤ p1 then 20 else 8) (lv' := [some (.ref 130), some (.int p1)]) (st' := []) (h' := mkS x S) rfl trivial ?_
    refine Ev.ite (fun c1 => ?_) (fun c1 => ?_)
    · rw [if_pos c1] at hm
      refine Ev.steps tokX11_codeAt 1 (P := True) (pc' := 21) (lv' := [some (.ref 130), some (.int p1)]) (st' := [.int 0]) (h' := mkS x S) rfl trivial ?_
      refine Ev.fgt (lv' := [none, none]) trivial ?_
      exact bpX11_codeAt_130_21 x S 0 _ _ hm
    · rw [if_neg c1] at hm
      obtain ⟨o2, hm⟩ := oblk hm
      refine Ev.steps tokX11_codeAt 7 (P := vp_in (103 + p1) 5703 ∧ True) (pc' := 21) (lv' := [some (.ref 130), some (.int p1)]) (st' := [.int (S.2.1 132 ((103 + p1).toNatClampNeg))]) (h' := mkS x S) rfl ⟨inb_ok o2, trivial⟩ ?_
      refine Ev.fgt (lv' := [none, none]) trivial ?_
      exact bpX11_codeAt_130_21 x S (S.2.1 132 ((103 + p1).toNatClampNeg)) _ _ hm
theorem gpX11_codeAt_130 (x : XT) (S : ST) (p1 : Int32) (r : Int32) (S' : ST) (hm : gfX11_codeAt_130 x S p1 = some (r, S')) : Ct mX11_codeAt 1 0 0 [.ref 130, .int p1] (mkS x S) (fun v h => v = some (.int r) ∧ h = mkS x S') :=
  Ct.of (lv := [some (.ref 130), some (.int p1)]) rfl rfl rfl (show (_ : Nat) ≤ _ from Nat.le_of_ble_eq_true rfl) (fun G => rfl) (bpX11_codeAt_130_0 x S p1 r S' hm)
set_option maxHeartbeats 4000000 in
set_option maxRecDepth 20000 in
theorem bpX11_passes0_130_32 (x : XT)  (S : ST) (v2 : Int32) (r : Int32) (S' : ST) (hm : bfX11_passes0_130_32 x  S v2 = some (r, S')) : Ev mX11_passes0 2 0 0 32 [none, none, some (.int v2)] [] (mkS x S) (fun v h => v = some (.int r) ∧ h = mkS x S') := by
    unfold bfX11_passes0_130_32 at hm
    refine Ev.steps tokX11_passes0 1 (P := True) (pc' := 33) (lv' := [none, none, some (.int v2)]) (st' := [.int v2]) (h' := mkS x S) rfl trivial ?_
    obtain ⟨o1, hm⟩ := oblk hm
    cases hm
    exact Ev.retz tokX11_passes0 rfl rfl (bbz_ok o1) ⟨rfl, rfl⟩
set_option maxHeartbeats 4000000 in
set_option maxRecDepth 20000 in
theorem bpX11_passes0_130_17 (x : XT)  (S : ST) (t0 : Int32) (r : Int32) (S' : ST) (hm : bfX11_passes0_130_17 x  S t0 = some (r, S')) : Ev mX11_passes0 2 0 0 17 [some (.ref 130), none, none] [.int t0] (mkS x S) (fun v h => v = some (.int r) ∧ h = mkS x S') := by
    unfold bfX11_passes0_130_17 at hm
    refine Ev.steps tokX11_passes0 3 (P := True) (pc' := if t0 = 0 then 32 else 22) (lv' := [some (.ref 130), none, some (.int t0)]) (st' := []) (h' := mkS x S) rfl trivial ?_
    refine Ev.ite (fun c1 => ?_) (fun c1 => ?_)
    · rw [if_pos c1] at hm
      refine Ev.fgt (lv' := [none, none, some (.int t0)]) ⟨rfl, trivial⟩ ?_
      exact bpX11_passes0_130_32 x S t0 _ _ hm
    · rw [if_neg c1] at hm
      refine Ev.steps tokX11_passes0 6 (P := True) (pc' := 32) (lv' := [some (.ref 130), none, some (.int t0)]) (st' := []) (h' := mkS x ((u2 S.1 130 22 ((S.1 130 22) + 1)), S.2.1, S.2.2.1, S.2.2.2)) rfl trivial ?_
      refine Ev.fgt (lv' := [none, none, some (.int t0)]) ⟨rfl, trivial⟩ ?_
      exact bpX11_passes0_130_32 x ((u2 S.1 130 22 ((S.1 130 22) + 1)), S.2.1, S.2.2.1, S.2.2.2) t0 _ _ hm
set_option maxHeartbeats 4000000 in
set_option maxRecDepth 20000 in
theorem bpX11_passes0_130_0 (x : XT)  (S : ST) (p1 : Int32) (r : Int32) (S' : ST) (hm : bfX11_passes0_130_0 x  S p1 = some (r, S')) : Ev mX11_passes0 2 0 0 0 [some (.ref 130), some (.int p1), none] [] (mkS x S) (fun v h => v = some (.int r) ∧ h = mkS x S') := by
    unfold bfX11_passes0_130_0 at hm
    refine Ev.steps tokX11_passes0 3 (P := True) (pc' := 5) (lv' := [some (.ref 130), some (.int p1), none]) (st' := [.int (S.1 130 22), .ref 130]) (h' := mkS x S) rfl trivial ?_
    cases h1 : gfX11_codeAt_130 x S (S.1 130 22) with
    | none => rw [h1] at hm; cases hm
    | some q2 =>
      obtain ⟨r3, S4⟩ := q2
      rw [h1] at hm
      dsimp only at hm
      refine ev_callV (N := mX11_codeAt) (d' := 1) (bc := 0) (bs := 0) (bc' := 0) (bs' := 0) (as := [.int (S.1 130 22)]) (rest := []) (a := 130) (ci := 11) (dcd tokX11_passes0 rfl) okX11_codeAt inX11_codeAt seX11_codeAt lk11_294 rfl (by decide) (Nat.le_of_ble_eq_true rfl) rfl ⟨by decide, rfl⟩ (gpX11_codeAt_130 x S (S.1 130 22) _ _ h1) (fun v h' hq hn => ?_)
      obtain ⟨rfl, rfl⟩ := hq
      refine Ev.steps tokX11_passes0 2 (P := True) (pc' := if ¬ r3 = p1 then 16 else 12) (lv' := [some (.ref 130), some (.int p1), none]) (st' := []) (h' := mkS x S4) rfl trivial ?_
      refine Ev.ite (fun c5 => ?_) (fun c5 => ?_)
      · rw [if_pos c5] at hm
        refine Ev.steps tokX11_passes0 1 (P := True) (pc' := 17) (lv' := [some (.ref 130), some (.int p1), none]) (st' := [.int 0]) (h' := mkS x S4) rfl trivial ?_
        refine Ev.fgt (lv' := [some (.ref 130), none, none]) ⟨rfl, trivial⟩ ?_
        exact bpX11_passes0_130_17 x S4 0 _ _ hm
      · rw [if_neg c5] at hm
        refine Ev.steps tokX11_passes0 2 (P := True) (pc' := 17) (lv' := [some (.ref 130), some (.int p1), none]) (st' := [.int 1]) (h' := mkS x S4) rfl trivial ?_
        refine Ev.fgt (lv' := [some (.ref 130), none, none]) ⟨rfl, trivial⟩ ?_
        exact bpX11_passes0_130_17 x S4 1 _ _ hm
theorem gpX11_passes0_130 (x : XT) (S : ST) (p1 : Int32) (r : Int32) (S' : ST) (hm : gfX11_passes0_130 x S p1 = some (r, S')) : Ct mX11_passes0 2 0 0 [.ref 130, .int p1] (mkS x S) (fun v h => v = some (.int r) ∧ h = mkS x S') :=
  Ct.of (lv := [some (.ref 130), some (.int p1), none]) rfl rfl rfl (show (_ : Nat) ≤ _ from Nat.le_of_ble_eq_true rfl) (fun G => rfl) (bpX11_passes0_130_0 x S p1 r S' hm)
set_option maxHeartbeats 4000000 in
set_option maxRecDepth 20000 in
theorem bpX11_sign_0 (x : XT)  (S : ST) (p0 : Int32) (r : Int32) (S' : ST) (hm : bfX11_sign_0 x  S p0 = some (r, S')) : Ev mX11_sign 1 0 0 0 [some (.int p0)] [] (mkS x S) (fun v h => v = some (.int r) ∧ h = mkS x S') := by
    unfold bfX11_sign_0 at hm
    refine Ev.steps tokX11_sign 3 (P := True) (pc' := 4) (lv' := [some (.int p0)]) (st' := [.int (100 + p0)]) (h' := mkS x S) rfl trivial ?_
    cases hm
    exact Ev.reti tokX11_sign rfl rfl ⟨rfl, rfl⟩
theorem gpX11_sign (x : XT) (S : ST) (p0 : Int32) (r : Int32) (S' : ST) (hm : gfX11_sign x S p0 = some (r, S')) : Ct mX11_sign 1 0 0 [.int p0] (mkS x S) (fun v h => v = some (.int r) ∧ h = mkS x S') :=
  Ct.of (lv := [some (.int p0)]) rfl rfl rfl (show (_ : Nat) ≤ _ from Nat.le_of_ble_eq_true rfl) (fun G => rfl) (bpX11_sign_0 x S p0 r S' hm)
set_option maxHeartbeats 4000000 in
set_option maxRecDepth 20000 in
theorem bpX11_bounded_130_37 (x : XT)  (S : ST) (t0 : Int64) (r : Int64) (S' : ST) (hm : bfX11_bounded_130_37 x  S t0 = some (r, S')) : Ev mX11_bounded 1 0 0 37 [none, none, none, none] [.long t0] (mkS x S) (fun v h => v = some (.long r) ∧ h = mkS x S') := by
    unfold bfX11_bounded_130_37 at hm
    cases hm
    exact Ev.retl tokX11_bounded rfl rfl ⟨rfl, rfl⟩
set_option maxHeartbeats 4000000 in
set_option maxRecDepth 20000 in
theorem bpX11_bounded_130_25 (x : XT)  (S : ST) (v1 : Int64) (r : Int64) (S' : ST) (hm : bfX11_bounded_130_25 x  S v1 = some (r, S')) : Ev mX11_bounded 1 0 0 25 [some (.ref 130), some (.long v1), none, none] [] (mkS x S) (fun v h => v = some (.long r) ∧ h = mkS x S') := by
    unfold bfX11_bounded_130_25 at hm
    refine Ev.steps tokX11_bounded 3 (P := True) (pc' := if (S.1 130 24) = 0 then 36 else 32) (lv' := [some (.ref 130), some (.long v1), none, none]) (st' := []) (h' := mkS x S) rfl trivial ?_
    refine Ev.ite (fun c1 => ?_) (fun c1 => ?_)
    · rw [if_pos c1] at hm
      refine Ev.steps tokX11_bounded 1 (P := True) (pc' := 37) (lv' := [some (.ref 130), some (.long v1), none, none]) (st' := [.long v1]) (h' := mkS x S) rfl trivial ?_
      refine Ev.fgt (lv' := [none, none, none, none]) trivial ?_
      exact bpX11_bounded_130_37 x S v1 _ _ hm
    · rw [if_neg c1] at hm
      refine Ev.steps tokX11_bounded 2 (P := True) (pc' := 37) (lv' := [some (.ref 130), some (.long v1), none, none]) (st' := [.long 0]) (h' := mkS x S) rfl trivial ?_
      refine Ev.fgt (lv' := [none, none, none, none]) trivial ?_
      exact bpX11_bounded_130_37 x S 0 _ _ hm
set_option maxHeartbeats 4000000 in
set_option maxRecDepth 20000 in
theorem bpX11_bounded_130_20 (x : XT)  (S : ST) (v1 : Int64) (r : Int64) (S' : ST) (hm : bfX11_bounded_130_20 x  S v1 = some (r, S')) : Ev mX11_bounded 1 0 0 20 [some (.ref 130), some (.long v1), none, none] [] (mkS x S) (fun v h => v = some (.long r) ∧ h = mkS x S') := by
    unfold bfX11_bounded_130_20 at hm
    refine Ev.steps tokX11_bounded 3 (P := (1 = 0 ∨ 1 = 1) ∧ True) (pc' := 25) (lv' := [some (.ref 130), some (.long v1), none, none]) (st' := []) (h' := mkS x ((u2 S.1 130 24 1), S.2.1, S.2.2.1, S.2.2.2)) rfl ⟨Or.inr rfl, trivial⟩ ?_
    exact bpX11_bounded_130_25 x ((u2 S.1 130 24 1), S.2.1, S.2.2.1, S.2.2.2) v1 _ _ hm
set_option maxHeartbeats 4000000 in
set_option maxRecDepth 20000 in
theorem bpX11_bounded_130_0 (x : XT)  (S : ST) (p1 : Int64) (p3 : Int32) (r : Int64) (S' : ST) (hm : bfX11_bounded_130_0 x  S p1 p3 = some (r, S')) : Ev mX11_bounded 1 0 0 0 [some (.ref 130), some (.long p1), none, some (.int p3)] [] (mkS x S) (fun v h => v = some (.long r) ∧ h = mkS x S') := by
    unfold bfX11_bounded_130_0 at hm
    refine Ev.steps tokX11_bounded 2 (P := True) (pc' := if p3 = 0 then 25 else 4) (lv' := [some (.ref 130), some (.long p1), none, some (.int p3)]) (st' := []) (h' := mkS x S) rfl trivial ?_
    refine Ev.ite (fun c1 => ?_) (fun c1 => ?_)
    · rw [if_pos c1] at hm
      refine Ev.fgt (lv' := [some (.ref 130), some (.long p1), none, none]) ⟨rfl, rfl, trivial⟩ ?_
      exact bpX11_bounded_130_25 x S p1 _ _ hm
    · rw [if_neg c1] at hm
      refine Ev.steps tokX11_bounded 4 (P := True) (pc' := if 0 < (lg_cmp p1 1000000000) then 20 else 12) (lv' := [some (.ref 130), some (.long p1), none, some (.int p3)]) (st' := []) (h' := mkS x S) rfl trivial ?_
      refine Ev.ite (fun c2 => ?_) (fun c2 => ?_)
      · rw [if_pos c2] at hm
        refine Ev.fgt (lv' := [some (.ref 130), some (.long p1), none, none]) ⟨rfl, rfl, trivial⟩ ?_
        exact bpX11_bounded_130_20 x S p1 _ _ hm
      · rw [if_neg c2] at hm
        refine Ev.steps tokX11_bounded 4 (P := True) (pc' := if 0 ≤ (lg_cmp p1 (-1000000000)) then 25 else 20) (lv' := [some (.ref 130), some (.long p1), none, some (.int p3)]) (st' := []) (h' := mkS x S) rfl trivial ?_
        refine Ev.ite (fun c3 => ?_) (fun c3 => ?_)
        · rw [if_pos c3] at hm
          refine Ev.fgt (lv' := [some (.ref 130), some (.long p1), none, none]) ⟨rfl, rfl, trivial⟩ ?_
          exact bpX11_bounded_130_25 x S p1 _ _ hm
        · rw [if_neg c3] at hm
          refine Ev.fgt (lv' := [some (.ref 130), some (.long p1), none, none]) ⟨rfl, rfl, trivial⟩ ?_
          exact bpX11_bounded_130_20 x S p1 _ _ hm
theorem gpX11_bounded_130 (x : XT) (S : ST) (p1 : Int64) (p3 : Int32) (r : Int64) (S' : ST) (hm : gfX11_bounded_130 x S p1 p3 = some (r, S')) : Ct mX11_bounded 1 0 0 [.ref 130, .long p1, .int p3] (mkS x S) (fun v h => v = some (.long r) ∧ h = mkS x S') :=
  Ct.of (lv := [some (.ref 130), some (.long p1), none, some (.int p3)]) rfl rfl rfl (show (_ : Nat) ≤ _ from Nat.le_of_ble_eq_true rfl) (fun G => rfl) (bpX11_bounded_130_0 x S p1 p3 r S' hm)
set_option maxHeartbeats 4000000 in
set_option maxRecDepth 20000 in
theorem bpX11_wholeMany_130_33 (x : XT) (k4 : ST → Int32 → Int32 → Option (Int32 × ST)) (hk4 : ∀ (S : ST) (v1 : Int32) (v2 : Int32) (r : Int32) (S' : ST), k4 S v1 v2 = some (r, S') → Ev mX11_wholeMany 1 0 0 4 [some (.ref 130), some (.int v1), some (.int v2)] [] (mkS x S) (fun v h => v = some (.int r) ∧ h = mkS x S')) (S : ST) (v2 : Int32) (t0 : Int32) (t1 : Int32) (r : Int32) (S' : ST) (hm : bfX11_wholeMany_130_33 x k4 S v2 t0 t1 = some (r, S')) : Ev mX11_wholeMany 1 0 0 33 [some (.ref 130), none, some (.int v2)] [.int t1, .int t0] (mkS x S) (fun v h => v = some (.int r) ∧ h = mkS x S') := by
    unfold bfX11_wholeMany_130_33 at hm
    refine Ev.steps tokX11_wholeMany 4 (P := True) (pc' := 4) (lv' := [some (.ref 130), some (.int (t0 + t1)), some (.int (v2 + 1))]) (st' := []) (h' := mkS x S) rfl trivial ?_
    exact hk4 S (t0 + t1) (v2 + 1) _ _ hm
set_option maxHeartbeats 4000000 in
set_option maxRecDepth 20000 in
theorem bpX11_wholeMany_130_4 (x : XT) (k4 : ST → Int32 → Int32 → Option (Int32 × ST)) (hk4 : ∀ (S : ST) (v1 : Int32) (v2 : Int32) (r : Int32) (S' : ST), k4 S v1 v2 = some (r, S') → Ev mX11_wholeMany 1 0 0 4 [some (.ref 130), some (.int v1), some (.int v2)] [] (mkS x S) (fun v h => v = some (.int r) ∧ h = mkS x S')) (S : ST) (v1 : Int32) (v2 : Int32) (r : Int32) (S' : ST) (hm : bfX11_wholeMany_130_4 x k4 S v1 v2 = some (r, S')) : Ev mX11_wholeMany 1 0 0 4 [some (.ref 130), some (.int v1), some (.int v2)] [] (mkS x S) (fun v h => v = some (.int r) ∧ h = mkS x S') := by
    unfold bfX11_wholeMany_130_4 at hm
    refine Ev.steps tokX11_wholeMany 6 (P := vp_in 92 5703 ∧ True) (pc' := if (S.2.1 132 92) ≤ v2 then 41 else 15) (lv' := [some (.ref 130), some (.int v1), some (.int v2)]) (st' := []) (h' := mkS x S) rfl ⟨(by unfold vp_in; decide), trivial⟩ ?_
    refine Ev.ite (fun c1 => ?_) (fun c1 => ?_)
    · rw [if_pos c1] at hm
      refine Ev.steps tokX11_wholeMany 1 (P := True) (pc' := 42) (lv' := [some (.ref 130), some (.int v1), some (.int v2)]) (st' := [.int v1]) (h' := mkS x S) rfl trivial ?_
      cases hm
      exact Ev.reti tokX11_wholeMany rfl rfl ⟨rfl, rfl⟩
    · rw [if_neg c1] at hm
      obtain ⟨o2, hm⟩ := oblk hm
      refine Ev.steps tokX11_wholeMany 9 (P := vp_in (5 + v2) 5703 ∧ True) (pc' := if ¬ (S.2.1 132 ((5 + v2).toNatClampNeg)) = 1 then 32 else 28) (lv' := [some (.ref 130), some (.int v1), some (.int v2)]) (st' := [.int v1]) (h' := mkS x S) rfl ⟨inb_ok o2, trivial⟩ ?_
      refine Ev.ite (fun c3 => ?_) (fun c3 => ?_)
      · rw [if_pos c3] at hm
        refine Ev.steps tokX11_wholeMany 1 (P := True) (pc' := 33) (lv' := [some (.ref 130), some (.int v1), some (.int v2)]) (st' := [.int 0, .int v1]) (h' := mkS x S) rfl trivial ?_
        refine Ev.fgt (lv' := [some (.ref 130), none, some (.int v2)]) ⟨rfl, rfl, trivial⟩ ?_
        exact bpX11_wholeMany_130_33 x k4 hk4 S v2 v1 0 _ _ hm
      · rw [if_neg c3] at hm
        refine Ev.steps tokX11_wholeMany 2 (P := True) (pc' := 33) (lv' := [some (.ref 130), some (.int v1), some (.int v2)]) (st' := [.int 1, .int v1]) (h' := mkS x S) rfl trivial ?_
        refine Ev.fgt (lv' := [some (.ref 130), none, some (.int v2)]) ⟨rfl, rfl, trivial⟩ ?_
        exact bpX11_wholeMany_130_33 x k4 hk4 S v2 v1 1 _ _ hm
theorem lpX11_wholeMany_130_4 (x : XT)  : ∀ (n : Nat) (S : ST) (v1 : Int32) (v2 : Int32) (r : Int32) (S' : ST), lfX11_wholeMany_130_4 x  n S v1 v2 = some (r, S') → Ev mX11_wholeMany 1 0 0 4 [some (.ref 130), some (.int v1), some (.int v2)] [] (mkS x S) (fun v h => v = some (.int r) ∧ h = mkS x S')
  | 0, _, _, _, _, _, hm => by cases hm
  | n + 1, S, v1, v2, r, S', hm => bpX11_wholeMany_130_4 x (lfX11_wholeMany_130_4 x  n) (lpX11_wholeMany_130_4 x  n) S v1 v2 r S' hm
set_option maxHeartbeats 4000000 in
set_option maxRecDepth 20000 in
theorem bpX11_wholeMany_130_0 (x : XT)  (S : ST)  (r : Int32) (S' : ST) (hm : bfX11_wholeMany_130_0 x  S  = some (r, S')) : Ev mX11_wholeMany 1 0 0 0 [some (.ref 130), none, none] [] (mkS x S) (fun v h => v = some (.int r) ∧ h = mkS x S') := by
    unfold bfX11_wholeMany_130_0 at hm
    refine Ev.steps tokX11_wholeMany 4 (P := True) (pc' := 4) (lv' := [some (.ref 130), some (.int 0), some (.int 0)]) (st' := []) (h' := mkS x S) rfl trivial ?_
    exact lpX11_wholeMany_130_4 x  20000 S 0 0 _ _ hm
theorem gpX11_wholeMany_130 (x : XT) (S : ST)  (r : Int32) (S' : ST) (hm : gfX11_wholeMany_130 x S  = some (r, S')) : Ct mX11_wholeMany 1 0 0 [.ref 130] (mkS x S) (fun v h => v = some (.int r) ∧ h = mkS x S') :=
  Ct.of (lv := [some (.ref 130), none, none]) rfl rfl rfl (show (_ : Nat) ≤ _ from Nat.le_of_ble_eq_true rfl) (fun G => rfl) (bpX11_wholeMany_130_0 x S  r S' hm)
set_option maxHeartbeats 4000000 in
set_option maxRecDepth 20000 in
theorem bpX11_orderValue_130_65 (x : XT)  (S : ST) (t0 : Int32) (r : Int32) (S' : ST) (hm : bfX11_orderValue_130_65 x  S t0 = some (r, S')) : Ev mX11_orderValue 3 0 0 65 [none, none, none] [.int t0] (mkS x S) (fun v h => v = some (.int r) ∧ h = mkS x S') := by
    unfold bfX11_orderValue_130_65 at hm
    cases hm
    exact Ev.reti tokX11_orderValue rfl rfl ⟨rfl, rfl⟩
set_option maxHeartbeats 4000000 in
set_option maxRecDepth 20000 in
theorem bpX11_orderValue_130_86 (x : XT)  (S : ST) (t0 : Int32) (r : Int32) (S' : ST) (hm : bfX11_orderValue_130_86 x  S t0 = some (r, S')) : Ev mX11_orderValue 3 0 0 86 [none, none, none] [.int t0] (mkS x S) (fun v h => v = some (.int r) ∧ h = mkS x S') := by
    unfold bfX11_orderValue_130_86 at hm
    cases hm
    exact Ev.reti tokX11_orderValue rfl rfl ⟨rfl, rfl⟩
set_option maxHeartbeats 4000000 in
set_option maxRecDepth 20000 in
theorem bpX11_orderValue_130_107 (x : XT)  (S : ST) (t0 : Int32) (r : Int32) (S' : ST) (hm : bfX11_orderValue_130_107 x  S t0 = some (r, S')) : Ev mX11_orderValue 3 0 0 107 [none, none, none] [.int t0] (mkS x S) (fun v h => v = some (.int r) ∧ h = mkS x S') := by
    unfold bfX11_orderValue_130_107 at hm
    cases hm
    exact Ev.reti tokX11_orderValue rfl rfl ⟨rfl, rfl⟩
set_option maxHeartbeats 4000000 in
set_option maxRecDepth 20000 in
theorem bpX11_orderValue_130_0 (x : XT)  (S : ST) (p1 : Int32) (p2 : Int32) (r : Int32) (S' : ST) (hm : bfX11_orderValue_130_0 x  S p1 p2 = some (r, S')) : Ev mX11_orderValue 3 0 0 0 [some (.ref 130), some (.int p1), some (.int p2)] [] (mkS x S) (fun v h => v = some (.int r) ∧ h = mkS x S') := by
    unfold bfX11_orderValue_130_0 at hm
    refine Ev.steps tokX11_orderValue 1 (P := True) (pc' := 1) (lv' := [some (.ref 130), some (.int p1), some (.int p2)]) (st' := [.int p1]) (h' := mkS x S) rfl trivial ?_
    by_cases c1 : p1 = 13
    · rw [if_pos c1] at hm
      refine ev_tIn (off := 43) (t := 44) (dcd tokX11_orderValue rfl) (by rw [c1]; decide) (by rw [c1]; decide) (by rw [c1]; rfl) rfl ?_
      refine Ev.steps tokX11_orderValue 2 (P := True) (pc' := 46) (lv' := [some (.ref 130), some (.int p1), some (.int p2)]) (st' := [.int p2, .ref 130]) (h' := mkS x S) rfl trivial ?_
      cases h2 : gfX11_isGate_130 x S p2 with
      | none => rw [h2] at hm; cases hm
      | some q3 =>
        obtain ⟨r4, S5⟩ := q3
        rw [h2] at hm
        dsimp only at hm
        refine ev_callV (N := mX11_isGate) (d' := 2) (bc := 0) (bs := 0) (bc' := 0) (bs' := 0) (as := [.int p2]) (rest := []) (a := 130) (ci := 11) (dcd tokX11_orderValue rfl) okX11_isGate inX11_isGate seX11_isGate lk11_143 rfl (by decide) (Nat.le_of_ble_eq_true rfl) rfl ⟨by decide, rfl⟩ (gpX11_isGate_130 x S p2 _ _ h2) (fun v h' hq hn => ?_)
        obtain ⟨rfl, rfl⟩ := hq
        refine Ev.steps tokX11_orderValue 1 (P := True) (pc' := if r4 = 0 then 64 else 52) (lv' := [some (.ref 130), some (.int p1), some (.int p2)]) (st' := []) (h' := mkS x S5) rfl trivial ?_
        refine Ev.ite (fun c6 => ?_) (fun c6 => ?_)
        · rw [if_pos c6] at hm
          refine Ev.steps tokX11_orderValue 1 (P := True) (pc' := 65) (lv' := [some (.ref 130), some (.int p1), some (.int p2)]) (st' := [.int (-1)]) (h' := mkS x S5) rfl trivial ?_
          refine Ev.fgt (lv' := [none, none, none]) trivial ?_
          exact bpX11_orderValue_130_65 x S5 (-1) _ _ hm
        · rw [if_neg c6] at hm
          obtain ⟨o7, hm⟩ := oblk hm
          refine Ev.steps tokX11_orderValue 7 (P := vp_in (15 + p2) 5703 ∧ True) (pc' := 65) (lv' := [some (.ref 130), some (.int p1), some (.int p2)]) (st' := [.int (S5.2.1 132 ((15 + p2).toNatClampNeg))]) (h' := mkS x S5) rfl ⟨inb_ok o7, trivial⟩ ?_
          refine Ev.fgt (lv' := [none, none, none]) trivial ?_
          exact bpX11_orderValue_130_65 x S5 (S5.2.1 132 ((15 + p2).toNatClampNeg)) _ _ hm
    rw [if_neg c1] at hm
    by_cases c8 : p1 = 14
    · rw [if_pos c8] at hm
      refine ev_tIn (off := 65) (t := 66) (dcd tokX11_orderValue rfl) (by rw [c8]; decide) (by rw [c8]; decide) (by rw [c8]; rfl) rfl ?_
      refine Ev.steps tokX11_orderValue 2 (P := True) (pc' := 68) (lv' := [some (.ref 130), some (.int p1), some (.int p2)]) (st' := [.int p2, .ref 130]) (h' := mkS x S) rfl trivial ?_
      cases h9 : gfX11_isGoer_130 x S p2 with
      | none => rw [h9] at hm; cases hm
      | some q10 =>
        obtain ⟨r11, S12⟩ := q10
        rw [h9] at hm
        dsimp only at hm
        refine ev_callV (N := mX11_isGoer) (d' := 2) (bc := 0) (bs := 0) (bc' := 0) (bs' := 0) (as := [.int p2]) (rest := []) (a := 130) (ci := 11) (dcd tokX11_orderValue rfl) okX11_isGoer inX11_isGoer seX11_isGoer lk11_149 rfl (by decide) (Nat.le_of_ble_eq_true rfl) rfl ⟨by decide, rfl⟩ (gpX11_isGoer_130 x S p2 _ _ h9) (fun v h' hq hn => ?_)
        obtain ⟨rfl, rfl⟩ := hq
        refine Ev.steps tokX11_orderValue 1 (P := True) (pc' := if r11 = 0 then 85 else 74) (lv' := [some (.ref 130), some (.int p1), some (.int p2)]) (st' := []) (h' := mkS x S12) rfl trivial ?_
        refine Ev.ite (fun c13 => ?_) (fun c13 => ?_)
        · rw [if_pos c13] at hm
          refine Ev.steps tokX11_orderValue 1 (P := True) (pc' := 86) (lv' := [some (.ref 130), some (.int p1), some (.int p2)]) (st' := [.int (-1)]) (h' := mkS x S12) rfl trivial ?_
          refine Ev.fgt (lv' := [none, none, none]) trivial ?_
          exact bpX11_orderValue_130_86 x S12 (-1) _ _ hm
        · rw [if_neg c13] at hm
          obtain ⟨o14, hm⟩ := oblk hm
          refine Ev.steps tokX11_orderValue 7 (P := vp_in (5 + p2) 5703 ∧ True) (pc' := 86) (lv' := [some (.ref 130), some (.int p1), some (.int p2)]) (st' := [.int (S12.2.1 132 ((5 + p2).toNatClampNeg))]) (h' := mkS x S12) rfl ⟨inb_ok o14, trivial⟩ ?_
          refine Ev.fgt (lv' := [none, none, none]) trivial ?_
          exact bpX11_orderValue_130_86 x S12 (S12.2.1 132 ((5 + p2).toNatClampNeg)) _ _ hm
    rw [if_neg c8] at hm
    by_cases c15 : p1 = 15
    · rw [if_pos c15] at hm
      refine ev_tIn (off := 107) (t := 108) (dcd tokX11_orderValue rfl) (by rw [c15]; decide) (by rw [c15]; decide) (by rw [c15]; rfl) rfl ?_
      refine Ev.steps tokX11_orderValue 4 (P := vp_in 35 5703 ∧ True) (pc' := 115) (lv' := [some (.ref 130), some (.int p1), some (.int p2)]) (st' := [.int (S.2.1 132 35)]) (h' := mkS x S) rfl ⟨(by unfold vp_in; decide), trivial⟩ ?_
      cases hm
      exact Ev.reti tokX11_orderValue rfl rfl ⟨rfl, rfl⟩
    rw [if_neg c15] at hm
    by_cases c16 : p1 = 16
    · rw [if_pos c16] at hm
      refine ev_tIn (off := 115) (t := 116) (dcd tokX11_orderValue rfl) (by rw [c16]; decide) (by rw [c16]; decide) (by rw [c16]; rfl) rfl ?_
      refine Ev.steps tokX11_orderValue 2 (P := True) (pc' := 120) (lv' := [some (.ref 130), some (.int p1), some (.int p2)]) (st' := [.int (S.1 130 27)]) (h' := mkS x S) rfl trivial ?_
      cases hm
      exact Ev.reti tokX11_orderValue rfl rfl ⟨rfl, rfl⟩
    rw [if_neg c16] at hm
    by_cases c17 : p1 = 17
    · rw [if_pos c17] at hm
      refine ev_tIn (off := 120) (t := 121) (dcd tokX11_orderValue rfl) (by rw [c17]; decide) (by rw [c17]; decide) (by rw [c17]; rfl) rfl ?_
      refine Ev.steps tokX11_orderValue 2 (P := True) (pc' := 125) (lv' := [some (.ref 130), some (.int p1), some (.int p2)]) (st' := [.int (S.1 130 28)]) (h' := mkS x S) rfl trivial ?_
      cases hm
      exact Ev.reti tokX11_orderValue rfl rfl ⟨rfl, rfl⟩
    rw [if_neg c17] at hm
    by_cases c18 : p1 = 18
    · rw [if_pos c18] at hm
      refine ev_tIn (off := 125) (t := 126) (dcd tokX11_orderValue rfl) (by rw [c18]; decide) (by rw [c18]; decide) (by rw [c18]; rfl) rfl ?_
      refine Ev.steps tokX11_orderValue 1 (P := True) (pc' := 127) (lv' := [some (.ref 130), some (.int p1), some (.int p2)]) (st' := [.ref 130]) (h' := mkS x S) rfl trivial ?_
      cases h19 : gfX11_wholeMany_130 x S with
      | none => rw [h19] at hm; cases hm
      | some q20 =>
        obtain ⟨r21, S22⟩ := q20
        rw [h19] at hm
        dsimp only at hm
        refine ev_callV (N := mX11_wholeMany) (d' := 1) (bc := 0) (bs := 0) (bc' := 0) (bs' := 0) (as := []) (rest := []) (a := 130) (ci := 11) (dcd tokX11_orderValue rfl) okX11_wholeMany inX11_wholeMany seX11_wholeMany lk11_333 rfl (by decide) (Nat.le_of_ble_eq_true rfl) rfl ⟨by decide, rfl⟩ (gpX11_wholeMany_130 x S _ _ h19) (fun v h' hq hn => ?_)
        obtain ⟨rfl, rfl⟩ := hq
        cases hm
        exact Ev.reti tokX11_orderValue rfl rfl ⟨rfl, rfl⟩
    rw [if_neg c18] at hm
    by_cases c23 : p1 = 19
    · rw [if_pos c23] at hm
      refine ev_tIn (off := 86) (t := 87) (dcd tokX11_orderValue rfl) (by rw [c23]; decide) (by rw [c23]; decide) (by rw [c23]; rfl) rfl ?_
      refine Ev.steps tokX11_orderValue 2 (P := True) (pc' := 89) (lv' := [some (.ref 130), some (.int p1), some (.int p2)]) (st' := [.int p2, .ref 130]) (h' := mkS x S) rfl trivial ?_
      cases h24 : gfX11_isGoer_130 x S p2 with
      | none => rw [h24] at hm; cases hm
      | some q25 =>
        obtain ⟨r26, S27⟩ := q25
        rw [h24] at hm
        dsimp only at hm
        refine ev_callV (N := mX11_isGoer) (d' := 2) (bc := 0) (bs := 0) (bc' := 0) (bs' := 0) (as := [.int p2]) (rest := []) (a := 130) (ci := 11) (dcd tokX11_orderValue rfl) okX11_isGoer inX11_isGoer seX11_isGoer lk11_149 rfl (by decide) (Nat.le_of_ble_eq_true rfl) rfl ⟨by decide, rfl⟩ (gpX11_isGoer_130 x S p2 _ _ h24) (fun v h' hq hn => ?_)
        obtain ⟨rfl, rfl⟩ := hq
        refine Ev.steps tokX11_orderValue 1 (P := True) (pc' := if r26 = 0 then 106 else 95) (lv' := [some (.ref 130), some (.int p1), some (.int p2)]) (st' := []) (h' := mkS x S27) rfl trivial ?_
        refine Ev.ite (fun c28 => ?_) (fun c28 => ?_)
        · rw [if_pos c28] at hm
          refine Ev.steps tokX11_orderValue 1 (P := True) (pc' := 107) (lv' := [some (.ref 130), some (.int p1), some (.int p2)]) (st' := [.int (-1)]) (h' := mkS x S27) rfl trivial ?_
          refine Ev.fgt (lv' := [none, none, none]) trivial ?_
          exact bpX11_orderValue_130_107 x S27 (-1) _ _ hm
        · rw [if_neg c28] at hm
          obtain ⟨o29, hm⟩ := oblk hm
          refine Ev.steps tokX11_orderValue 7 (P := vp_in (0 + p2) 5703 ∧ True) (pc' := 107) (lv' := [some (.ref 130), some (.int p1), some (.int p2)]) (st' := [.int (S27.2.1 132 ((0 + p2).toNatClampNeg))]) (h' := mkS x S27) rfl ⟨inb_ok o29, trivial⟩ ?_
          refine Ev.fgt (lv' := [none, none, none]) trivial ?_
          exact bpX11_orderValue_130_107 x S27 (S27.2.1 132 ((0 + p2).toNatClampNeg)) _ _ hm
    rw [if_neg c23] at hm
    refine ev_tOut (t := 126) (dcd tokX11_orderValue rfl) (by have zc1 := lv_neT c1 (show (13 : Int32).toInt = 13 from by decide); have zc8 := lv_neT c8 (show (14 : Int32).toInt = 14 from by decide); have zc15 := lv_neT c15 (show (15 : Int32).toInt = 15 from by decide); have zc16 := lv_neT c16 (show (16 : Int32).toInt = 16 from by decide); have zc17 := lv_neT c17 (show (17 : Int32).toInt = 17 from by decide); have zc18 := lv_neT c18 (show (18 : Int32).toInt = 18 from by decide); have zc23 := lv_neT c23 (show (19 : Int32).toInt = 19 from by decide); omega) rfl ?_
    refine Ev.steps tokX11_orderValue 1 (P := True) (pc' := 127) (lv' := [some (.ref 130), some (.int p1), some (.int p2)]) (st' := [.ref 130]) (h' := mkS x S) rfl trivial ?_
    cases h30 : gfX11_wholeMany_130 x S with
    | none => rw [h30] at hm; cases hm
    | some q31 =>
      obtain ⟨r32, S33⟩ := q31
      rw [h30] at hm
      dsimp only at hm
      refine ev_callV (N := mX11_wholeMany) (d' := 1) (bc := 0) (bs := 0) (bc' := 0) (bs' := 0) (as := []) (rest := []) (a := 130) (ci := 11) (dcd tokX11_orderValue rfl) okX11_wholeMany inX11_wholeMany seX11_wholeMany lk11_333 rfl (by decide) (Nat.le_of_ble_eq_true rfl) rfl ⟨by decide, rfl⟩ (gpX11_wholeMany_130 x S _ _ h30) (fun v h' hq hn => ?_)
      obtain ⟨rfl, rfl⟩ := hq
      cases hm
      exact Ev.reti tokX11_orderValue rfl rfl ⟨rfl, rfl⟩
theorem gpX11_orderValue_130 (x : XT) (S : ST) (p1 : Int32) (p2 : Int32) (r : Int32) (S' : ST) (hm : gfX11_orderValue_130 x S p1 p2 = some (r, S')) : Ct mX11_orderValue 3 0 0 [.ref 130, .int p1, .int p2] (mkS x S) (fun v h => v = some (.int r) ∧ h = mkS x S') :=
  Ct.of (lv := [some (.ref 130), some (.int p1), some (.int p2)]) rfl rfl rfl (show (_ : Nat) ≤ _ from Nat.le_of_ble_eq_true rfl) (fun G => rfl) (bpX11_orderValue_130_0 x S p1 p2 r S' hm)
end MIR
