section MIR
set_option maxHeartbeats 4000000 in
set_option maxRecDepth 20000 in
theorem bpX10_within_14 (x : XT)  (S : ST) (t0 : Int32) (r : Int32) (S' : ST) (hm : bfX10_within_14 x  S t0 = some (r, S')) : Ev mX10_within 1 0 0 14 [none, none] [.int t0] (mkS x S) (fun v h => v = some (.int r) ∧ h = mkS x S') := by
    unfold bfX10_within_14 at hm
    obtain ⟨o1, hm⟩ := oblk hm
    cases hm
    exact Ev.retz tokX10_within rfl rfl (bbz_ok o1) ⟨rfl, rfl⟩
set_option maxHeartbeats 4000000 in
set_option maxRecDepth 20000 in
theorem bpX10_within_13 (x : XT)  (S : ST)  (r : Int32) (S' : ST) (hm : bfX10_within_13 x  S  = some (r, S')) : Ev mX10_within 1 0 0 13 [none, none] [] (mkS x S) (fun v h => v = some (.int r) ∧ h = mkS x S') := by
    unfold bfX10_within_13 at hm
    refine Ev.steps tokX10_within 1 (P := True) (pc' := 14) (lv' := [none, none]) (st' := [.int 0]) (h' := mkS x S) rfl trivial ?_
    exact bpX10_within_14 x S 0 _ _ hm
set_option maxHeartbeats 4000000 in
set_option maxRecDepth 20000 in
theorem bpX10_within_0 (x : XT)  (S : ST) (p0 : Int32) (p1 : Int32) (r : Int32) (S' : ST) (hm : bfX10_within_0 x  S p0 p1 = some (r, S')) : Ev mX10_within 1 0 0 0 [some (.int p0), some (.int p1)] [] (mkS x S) (fun v h => v = some (.int r) ∧ h = mkS x S') := by
    unfold bfX10_within_0 at hm
    refine Ev.steps tokX10_within 2 (P := True) (pc' := if p0 < 0 then 13 else 4) (lv' := [some (.int p0), some (.int p1)]) (st' := []) (h' := mkS x S) rfl trivial ?_
    refine Ev.ite (fun c1 => ?_) (fun c1 => ?_)
    · rw [if_pos c1] at hm
      refine Ev.fgt (lv' := [none, none]) trivial ?_
      exact bpX10_within_13 x S _ _ hm
    · rw [if_neg c1] at hm
      refine Ev.steps tokX10_within 3 (P := True) (pc' := if p1 ≤ p0 then 13 else 9) (lv' := [some (.int p0), some (.int p1)]) (st' := []) (h' := mkS x S) rfl trivial ?_
      refine Ev.ite (fun c2 => ?_) (fun c2 => ?_)
      · rw [if_pos c2] at hm
        refine Ev.fgt (lv' := [none, none]) trivial ?_
        exact bpX10_within_13 x S _ _ hm
      · rw [if_neg c2] at hm
        refine Ev.steps tokX10_within 2 (P := True) (pc' := 14) (lv' := [some (.int p0), some (.int p1)]) (st' := [.int 1]) (h' := mkS x S) rfl trivial ?_
        refine Ev.fgt (lv' := [none, none]) trivial ?_
        exact bpX10_within_14 x S 1 _ _ hm
theorem gpX10_within (x : XT) (S : ST) (p0 : Int32) (p1 : Int32) (r : Int32) (S' : ST) (hm : gfX10_within x S p0 p1 = some (r, S')) : Ct mX10_within 1 0 0 [.int p0, .int p1] (mkS x S) (fun v h => v = some (.int r) ∧ h = mkS x S') :=
  Ct.of (lv := [some (.int p0), some (.int p1)]) rfl rfl rfl (show (_ : Nat) ≤ _ from Nat.le_of_ble_eq_true rfl) (fun G => rfl) (bpX10_within_0 x S p0 p1 r S' hm)
set_option maxHeartbeats 4000000 in
set_option maxRecDepth 20000 in
theorem bpX7_addGate_1_37 (x : XT)  (S : ST)  (r : Int32) (S' : ST) (hm : bfX7_addGate_1_37 x  S  = some (r, S')) : Ev mX7_addGate 2 0 0 37 [none, none, none, none, none] [] (mkS x S) (fun v h => v = some (.int r) ∧ h = mkS x S') := by
    unfold bfX7_addGate_1_37 at hm
    refine Ev.steps tokX7_addGate 1 (P := True) (pc' := 38) (lv' := [none, none, none, none, none]) (st' := [.int (-1)]) (h' := mkS x S) rfl trivial ?_
    cases hm
    exact Ev.reti tokX7_addGate rfl rfl ⟨rfl, rfl⟩
set_option maxHeartbeats 4000000 in
set_option maxRecDepth 20000 in
theorem bpX7_addGate_1_0 (x : XT)  (S : ST) (p1 : Int32) (p2 : Int32) (p3 : Int32) (p4 : Int32) (r : Int32) (S' : ST) (hm : bfX7_addGate_1_0 x  S p1 p2 p3 p4 = some (r, S')) : Ev mX7_addGate 2 0 0 0 [some (.ref 1), some (.int p1), some (.int p2), some (.int p3), some (.int p4)] [] (mkS x S) (fun v h => v = some (.int r) ∧ h = mkS x S') := by
    unfold bfX7_addGate_1_0 at hm
    refine Ev.steps tokX7_addGate 2 (P := True) (pc' := 3) (lv' := [some (.ref 1), some (.int p1), some (.int p2), some (.int p3), some (.int p4)]) (st' := [.int 6, .int p1]) (h' := mkS x S) rfl trivial ?_
    cases h1 : gfX10_within x S p1 6 with
    | none => rw [h1] at hm; cases hm
    | some q2 =>
      obtain ⟨r3, S4⟩ := q2
      rw [h1] at hm
      dsimp only at hm
      refine ev_callSN (N := mX10_within) (d' := 1) (bc := 0) (bs := 0) (bc' := 0) (bs' := 0) (as := [.int p1, .int 6]) (rest := []) (dcd tokX7_addGate rfl) okX10_within inX10_within lk7_78 rfl (by decide) (Nat.le_of_ble_eq_true rfl) (gpX10_within x S p1 6 _ _ h1) (fun v h' hq hn => ?_)
      obtain ⟨rfl, rfl⟩ := hq
      refine Ev.steps tokX7_addGate 1 (P := True) (pc' := if r3 = 0 then 37 else 9) (lv' := [some (.ref 1), some (.int p1), some (.int p2), some (.int p3), some (.int p4)]) (st' := []) (h' := mkS x S4) rfl trivial ?_
      refine Ev.ite (fun c5 => ?_) (fun c5 => ?_)
      · rw [if_pos c5] at hm
        refine Ev.fgt (lv' := [none, none, none, none, none]) trivial ?_
        exact bpX7_addGate_1_37 x S4 _ _ hm
      · rw [if_neg c5] at hm
        refine Ev.steps tokX7_addGate 2 (P := True) (pc' := 12) (lv' := [some (.ref 1), some (.int p1), some (.int p2), some (.int p3), some (.int p4)]) (st' := [.int 6, .int p2]) (h' := mkS x S4) rfl trivial ?_
        cases h6 : gfX10_within x S4 p2 6 with
        | none => rw [h6] at hm; cases hm
        | some q7 =>
          obtain ⟨r8, S9⟩ := q7
          rw [h6] at hm
          dsimp only at hm
          refine ev_callSN (N := mX10_within) (d' := 1) (bc := 0) (bs := 0) (bc' := 0) (bs' := 0) (as := [.int p2, .int 6]) (rest := []) (dcd tokX7_addGate rfl) okX10_within inX10_within lk7_78 rfl (by decide) (Nat.le_of_ble_eq_true rfl) (gpX10_within x S4 p2 6 _ _ h6) (fun v h' hq hn => ?_)
          obtain ⟨rfl, rfl⟩ := hq
          refine Ev.steps tokX7_addGate 1 (P := True) (pc' := if r8 = 0 then 37 else 18) (lv' := [some (.ref 1), some (.int p1), some (.int p2), some (.int p3), some (.int p4)]) (st' := []) (h' := mkS x S9) rfl trivial ?_
          refine Ev.ite (fun c10 => ?_) (fun c10 => ?_)
          · rw [if_pos c10] at hm
            refine Ev.fgt (lv' := [none, none, none, none, none]) trivial ?_
            exact bpX7_addGate_1_37 x S9 _ _ hm
          · rw [if_neg c10] at hm
            refine Ev.steps tokX7_addGate 2 (P := True) (pc' := 21) (lv' := [some (.ref 1), some (.int p1), some (.int p2), some (.int p3), some (.int p4)]) (st' := [.int 8, .int p3]) (h' := mkS x S9) rfl trivial ?_
            cases h11 : gfX10_within x S9 p3 8 with
            | none => rw [h11] at hm; cases hm
            | some q12 =>
              obtain ⟨r13, S14⟩ := q12
              rw [h11] at hm
              dsimp only at hm
              refine ev_callSN (N := mX10_within) (d' := 1) (bc := 0) (bs := 0) (bc' := 0) (bs' := 0) (as := [.int p3, .int 8]) (rest := []) (dcd tokX7_addGate rfl) okX10_within inX10_within lk7_78 rfl (by decide) (Nat.le_of_ble_eq_true rfl) (gpX10_within x S9 p3 8 _ _ h11) (fun v h' hq hn => ?_)
              obtain ⟨rfl, rfl⟩ := hq
              refine Ev.steps tokX7_addGate 1 (P := True) (pc' := if r13 = 0 then 37 else 27) (lv' := [some (.ref 1), some (.int p1), some (.int p2), some (.int p3), some (.int p4)]) (st' := []) (h' := mkS x S14) rfl trivial ?_
              refine Ev.ite (fun c15 => ?_) (fun c15 => ?_)
              · rw [if_pos c15] at hm
                refine Ev.fgt (lv' := [none, none, none, none, none]) trivial ?_
                exact bpX7_addGate_1_37 x S14 _ _ hm
              · rw [if_neg c15] at hm
                refine Ev.steps tokX7_addGate 2 (P := True) (pc' := 31) (lv' := [some (.ref 1), some (.int p1), some (.int p2), some (.int p3), some (.int p4)]) (st' := [.int 10, .int p4]) (h' := mkS x S14) rfl trivial ?_
                cases h16 : gfX10_within x S14 p4 10 with
                | none => rw [h16] at hm; cases hm
                | some q17 =>
                  obtain ⟨r18, S19⟩ := q17
                  rw [h16] at hm
                  dsimp only at hm
                  refine ev_callSN (N := mX10_within) (d' := 1) (bc := 0) (bs := 0) (bc' := 0) (bs' := 0) (as := [.int p4, .int 10]) (rest := []) (dcd tokX7_addGate rfl) okX10_within inX10_within lk7_78 rfl (by decide) (Nat.le_of_ble_eq_true rfl) (gpX10_within x S14 p4 10 _ _ h16) (fun v h' hq hn => ?_)
                  obtain ⟨rfl, rfl⟩ := hq
                  refine Ev.steps tokX7_addGate 1 (P := True) (pc' := if ¬ r18 = 0 then 39 else 37) (lv' := [some (.ref 1), some (.int p1), some (.int p2), some (.int p3), some (.int p4)]) (st' := []) (h' := mkS x S19) rfl trivial ?_
                  refine Ev.ite (fun c20 => ?_) (fun c20 => ?_)
                  · rw [if_pos c20] at hm
                    refine Ev.steps tokX7_addGate 4 (P := True) (pc' := if (S19.1 1 0) < 10 then 51 else 48) (lv' := [some (.ref 1), some (.int p1), some (.int p2), some (.int p3), some (.int p4)]) (st' := []) (h' := mkS x S19) rfl trivial ?_
                    refine Ev.ite (fun c21 => ?_) (fun c21 => ?_)
                    · rw [if_pos c21] at hm
                      obtain ⟨o22, hm⟩ := oblk hm
                      obtain ⟨o23, hm⟩ := oblk hm
                      obtain ⟨o24, hm⟩ := oblk hm
                      obtain ⟨o25, hm⟩ := oblk hm
                      obtain ⟨o26, hm⟩ := oblk hm
                      refine Ev.steps tokX7_addGate 37 (P := vp_in (S19.1 1 0) 10 ∧ vp_in (S19.1 1 0) 10 ∧ vp_in (S19.1 1 0) 10 ∧ vp_in (S19.1 1 0) 10 ∧ vp_in (S19.1 1 0) 10 ∧ True) (pc' := 113) (lv' := [some (.ref 1), some (.int p1), some (.int p2), some (.int p3), some (.int p4)]) (st' := [.int (S19.1 1 0)]) (h' := mkS x ((u2 S19.1 1 0 ((S19.1 1 0) + 1)), (u2 (u2 (u2 (u2 (u2 S19.2.1 2 ((S19.1 1 0).toNatClampNeg) p1) 3 ((S19.1 1 0).toNatClampNeg) p2) 4 ((S19.1 1 0).toNatClampNeg) p3) 5 ((S19.1 1 0).toNatClampNeg) p4) 6 ((S19.1 1 0).toNatClampNeg) (vp_nar .boolean 1)), S19.2.2.1, S19.2.2.2)) rfl ⟨inb_ok o22, inb_ok o23, inb_ok o24, inb_ok o25, inb_ok o26, trivial⟩ ?_
                      cases hm
                      exact Ev.reti tokX7_addGate rfl rfl ⟨rfl, rfl⟩
                    · rw [if_neg c21] at hm
                      refine Ev.steps tokX7_addGate 1 (P := True) (pc' := 50) (lv' := [some (.ref 1), some (.int p1), some (.int p2), some (.int p3), some (.int p4)]) (st' := [.int (-5)]) (h' := mkS x S19) rfl trivial ?_
                      cases hm
                      exact Ev.reti tokX7_addGate rfl rfl ⟨rfl, rfl⟩
                  · rw [if_neg c20] at hm
                    refine Ev.fgt (lv' := [none, none, none, none, none]) trivial ?_
                    exact bpX7_addGate_1_37 x S19 _ _ hm
theorem gpX7_addGate_1 (x : XT) (S : ST) (p1 : Int32) (p2 : Int32) (p3 : Int32) (p4 : Int32) (r : Int32) (S' : ST) (hm : gfX7_addGate_1 x S p1 p2 p3 p4 = some (r, S')) : Ct mX7_addGate 2 0 0 [.ref 1, .int p1, .int p2, .int p3, .int p4] (mkS x S) (fun v h => v = some (.int r) ∧ h = mkS x S') :=
  Ct.of (lv := [some (.ref 1), some (.int p1), some (.int p2), some (.int p3), some (.int p4)]) rfl rfl rfl (show (_ : Nat) ≤ _ from Nat.le_of_ble_eq_true rfl) (fun G => rfl) (bpX7_addGate_1_0 x S p1 p2 p3 p4 r S' hm)
set_option maxHeartbeats 4000000 in
set_option maxRecDepth 20000 in
theorem bpX10_told_0_30 (x : XT)  (S : ST) (v1 : Int32) (r : Int32) (S' : ST) (hm : bfX10_told_0_30 x  S v1 = some (r, S')) : Ev mX10_told 1 0 0 30 [none, some (.int v1)] [] (mkS x S) (fun v h => v = some (.int r) ∧ h = mkS x S') := by
    unfold bfX10_told_0_30 at hm
    refine Ev.steps tokX10_told 1 (P := True) (pc' := 31) (lv' := [none, some (.int v1)]) (st' := [.int v1]) (h' := mkS x S) rfl trivial ?_
    cases hm
    exact Ev.reti tokX10_told rfl rfl ⟨rfl, rfl⟩
set_option maxHeartbeats 4000000 in
set_option maxRecDepth 20000 in
theorem bpX10_told_0_0 (x : XT)  (S : ST) (p1 : Int32) (r : Int32) (S' : ST) (hm : bfX10_told_0_0 x  S p1 = some (r, S')) : Ev mX10_told 1 0 0 0 [some (.ref 0), some (.int p1)] [] (mkS x S) (fun v h => v = some (.int r) ∧ h = mkS x S') := by
    unfold bfX10_told_0_0 at hm
    refine Ev.steps tokX10_told 3 (P := True) (pc' := 3) (lv' := [some (.ref 0), some (.int p1)]) (st' := [.int 0, .int p1, .ref 0]) (h' := mkS x S) rfl trivial ?_
    refine ev_min (dcd tokX10_told rfl) lk10_348 mt_min.1 mt_in.1 mt_min.2 (by decide) (Nat.le_of_ble_eq_true rfl) ?_
    refine Ev.steps tokX10_told 3 (P := True) (pc' := if 0 ≤ p1 then 30 else 13) (lv' := [some (.ref 0), some (.int p1)]) (st' := []) (h' := mkS x ((u2 S.1 0 12 (if 0 < p1 then 0 else p1)), S.2.1, S.2.2.1, S.2.2.2)) rfl trivial ?_
    refine Ev.ite (fun c1 => ?_) (fun c1 => ?_)
    · rw [if_pos c1] at hm
      refine Ev.fgt (lv' := [none, some (.int p1)]) ⟨rfl, trivial⟩ ?_
      exact bpX10_told_0_30 x ((u2 S.1 0 12 (if 0 < p1 then 0 else p1)), S.2.1, S.2.2.1, S.2.2.2) p1 _ _ hm
    · rw [if_neg c1] at hm
      refine Ev.steps tokX10_told 3 (P := True) (pc' := if p1 ≤ (-7) then 30 else 19) (lv' := [some (.ref 0), some (.int p1)]) (st' := []) (h' := mkS x ((u2 S.1 0 12 (if 0 < p1 then 0 else p1)), S.2.1, S.2.2.1, S.2.2.2)) rfl trivial ?_
      refine Ev.ite (fun c2 => ?_) (fun c2 => ?_)
      · rw [if_pos c2] at hm
        refine Ev.fgt (lv' := [none, some (.int p1)]) ⟨rfl, trivial⟩ ?_
        exact bpX10_told_0_30 x ((u2 S.1 0 12 (if 0 < p1 then 0 else p1)), S.2.1, S.2.2.1, S.2.2.2) p1 _ _ hm
      · rw [if_neg c2] at hm
        obtain ⟨o3, hm⟩ := oblk hm
        obtain ⟨o4, hm⟩ := oblk hm
        refine Ev.steps tokX10_told 9 (P := vp_in (-p1) 7 ∧ vp_in (-p1) 7 ∧ True) (pc' := 30) (lv' := [some (.ref 0), some (.int p1)]) (st' := []) (h' := mkS x ((u2 S.1 0 12 (if 0 < p1 then 0 else p1)), (u2 S.2.1 99 ((-p1).toNatClampNeg) ((S.2.1 99 ((-p1).toNatClampNeg)) + 1)), S.2.2.1, S.2.2.2)) rfl ⟨inb_ok o3, inb_ok o4, trivial⟩ ?_
        refine Ev.fgt (lv' := [none, some (.int p1)]) ⟨rfl, trivial⟩ ?_
        exact bpX10_told_0_30 x ((u2 S.1 0 12 (if 0 < p1 then 0 else p1)), (u2 S.2.1 99 ((-p1).toNatClampNeg) ((S.2.1 99 ((-p1).toNatClampNeg)) + 1)), S.2.2.1, S.2.2.2) p1 _ _ hm
theorem gpX10_told_0 (x : XT) (S : ST) (p1 : Int32) (r : Int32) (S' : ST) (hm : gfX10_told_0 x S p1 = some (r, S')) : Ct mX10_told 1 0 0 [.ref 0, .int p1] (mkS x S) (fun v h => v = some (.int r) ∧ h = mkS x S') :=
  Ct.of (lv := [some (.ref 0), some (.int p1)]) rfl rfl rfl (show (_ : Nat) ≤ _ from Nat.le_of_ble_eq_true rfl) (fun G => rfl) (bpX10_told_0_0 x S p1 r S' hm)
set_option maxHeartbeats 4000000 in
set_option maxRecDepth 20000 in
theorem bpX10_toldAnew_0_12 (x : XT)  (S : ST) (v1 : Int32) (r : Int32) (S' : ST) (hm : bfX10_toldAnew_0_12 x  S v1 = some (r, S')) : Ev mX10_toldAnew 2 0 0 12 [some (.ref 0), some (.int v1)] [] (mkS x S) (fun v h => v = some (.int r) ∧ h = mkS x S') := by
    unfold bfX10_toldAnew_0_12 at hm
    refine Ev.steps tokX10_toldAnew 2 (P := True) (pc' := 14) (lv' := [some (.ref 0), some (.int v1)]) (st' := [.int v1, .ref 0]) (h' := mkS x S) rfl trivial ?_
    cases h1 : gfX10_told_0 x S v1 with
    | none => rw [h1] at hm; cases hm
    | some q2 =>
      obtain ⟨r3, S4⟩ := q2
      rw [h1] at hm
      dsimp only at hm
      refine ev_callV (N := mX10_told) (d' := 1) (bc := 0) (bs := 0) (bc' := 0) (bs' := 0) (as := [.int v1]) (rest := []) (a := 0) (ci := 10) (dcd tokX10_toldAnew rfl) okX10_told inX10_told seX10_told lk10_178 rfl (by decide) (Nat.le_of_ble_eq_true rfl) rfl ⟨by decide, rfl⟩ (gpX10_told_0 x S v1 _ _ h1) (fun v h' hq hn => ?_)
      obtain ⟨rfl, rfl⟩ := hq
      cases hm
      exact Ev.reti tokX10_toldAnew rfl rfl ⟨rfl, rfl⟩
set_option maxHeartbeats 4000000 in
set_option maxRecDepth 20000 in
theorem bpX10_toldAnew_0_0 (x : XT)  (S : ST) (p1 : Int32) (r : Int32) (S' : ST) (hm : bfX10_toldAnew_0_0 x  S p1 = some (r, S')) : Ev mX10_toldAnew 2 0 0 0 [some (.ref 0), some (.int p1)] [] (mkS x S) (fun v h => v = some (.int r) ∧ h = mkS x S') := by
    unfold bfX10_toldAnew_0_0 at hm
    refine Ev.steps tokX10_toldAnew 2 (P := True) (pc' := if p1 < 0 then 12 else 4) (lv' := [some (.ref 0), some (.int p1)]) (st' := []) (h' := mkS x S) rfl trivial ?_
    refine Ev.ite (fun c1 => ?_) (fun c1 => ?_)
    · rw [if_pos c1] at hm
      exact bpX10_toldAnew_0_12 x S p1 _ _ hm
    · rw [if_neg c1] at hm
      refine Ev.steps tokX10_toldAnew 4 (P := True) (pc' := 12) (lv' := [some (.ref 0), some (.int p1)]) (st' := []) (h' := mkS x ((u2 S.1 33 0 0), S.2.1, S.2.2.1, S.2.2.2)) rfl trivial ?_
      exact bpX10_toldAnew_0_12 x ((u2 S.1 33 0 0), S.2.1, S.2.2.1, S.2.2.2) p1 _ _ hm
theorem gpX10_toldAnew_0 (x : XT) (S : ST) (p1 : Int32) (r : Int32) (S' : ST) (hm : gfX10_toldAnew_0 x S p1 = some (r, S')) : Ct mX10_toldAnew 2 0 0 [.ref 0, .int p1] (mkS x S) (fun v h => v = some (.int r) ∧ h = mkS x S') :=
  Ct.of (lv := [some (.ref 0), some (.int p1)]) rfl rfl rfl (show (_ : Nat) ≤ _ from Nat.le_of_ble_eq_true rfl) (fun G => rfl) (bpX10_toldAnew_0_0 x S p1 r S' hm)
set_option maxHeartbeats 4000000 in
set_option maxRecDepth 20000 in
theorem bpX10_gate_0_0 (x : XT)  (S : ST) (p1 : Int32) (p2 : Int32) (p3 : Int32) (p4 : Int32) (r : Int32) (S' : ST) (hm : bfX10_gate_0_0 x  S p1 p2 p3 p4 = some (r, S')) : Ev mX10_gate 3 0 0 0 [some (.ref 0), some (.int p1), some (.int p2), some (.int p3), some (.int p4)] [] (mkS x S) (fun v h => v = some (.int r) ∧ h = mkS x S') := by
    unfold bfX10_gate_0_0 at hm
    refine Ev.steps tokX10_gate 7 (P := True) (pc' := 10) (lv' := [some (.ref 0), some (.int p1), some (.int p2), some (.int p3), some (.int p4)]) (st' := [.int p4, .int p3, .int p2, .int p1, .ref 1, .ref 0]) (h' := mkS x S) rfl trivial ?_
    cases h1 : gfX7_addGate_1 x S p1 p2 p3 p4 with
    | none => rw [h1] at hm; cases hm
    | some q2 =>
      obtain ⟨r3, S4⟩ := q2
      rw [h1] at hm
      dsimp only at hm
      refine ev_callV (N := mX7_addGate) (d' := 2) (bc := 0) (bs := 0) (bc' := 0) (bs' := 0) (as := [.int p1, .int p2, .int p3, .int p4]) (rest := [.ref 0]) (a := 1) (ci := 7) (dcd tokX10_gate rfl) okX7_addGate inX7_addGate seX7_addGate lk10_103 rfl (by decide) (Nat.le_of_ble_eq_true rfl) rfl ⟨by decide, rfl⟩ (gpX7_addGate_1 x S p1 p2 p3 p4 _ _ h1) (fun v h' hq hn => ?_)
      obtain ⟨rfl, rfl⟩ := hq
      cases h5 : gfX10_toldAnew_0 x S4 r3 with
      | none => rw [h5] at hm; cases hm
      | some q6 =>
        obtain ⟨r7, S8⟩ := q6
        rw [h5] at hm
        dsimp only at hm
        refine ev_callV (N := mX10_toldAnew) (d' := 2) (bc := 0) (bs := 0) (bc' := 0) (bs' := 0) (as := [.int r3]) (rest := []) (a := 0) (ci := 10) (dcd tokX10_gate rfl) okX10_toldAnew inX10_toldAnew seX10_toldAnew lk10_107 rfl (by decide) (Nat.le_of_ble_eq_true rfl) rfl ⟨by decide, rfl⟩ (gpX10_toldAnew_0 x S4 r3 _ _ h5) (fun v h' hq hn => ?_)
        obtain ⟨rfl, rfl⟩ := hq
        cases hm
        exact Ev.reti tokX10_gate rfl rfl ⟨rfl, rfl⟩
theorem gpX10_gate_0 (x : XT) (S : ST) (p1 : Int32) (p2 : Int32) (p3 : Int32) (p4 : Int32) (r : Int32) (S' : ST) (hm : gfX10_gate_0 x S p1 p2 p3 p4 = some (r, S')) : Ct mX10_gate 3 0 0 [.ref 0, .int p1, .int p2, .int p3, .int p4] (mkS x S) (fun v h => v = some (.int r) ∧ h = mkS x S') :=
  Ct.of (lv := [some (.ref 0), some (.int p1), some (.int p2), some (.int p3), some (.int p4)]) rfl rfl rfl (show (_ : Nat) ≤ _ from Nat.le_of_ble_eq_true rfl) (fun G => rfl) (bpX10_gate_0_0 x S p1 p2 p3 p4 r S' hm)
set_option maxHeartbeats 4000000 in
set_option maxRecDepth 20000 in
theorem bpX7_hasGate_1_17 (x : XT)  (S : ST) (t0 : Int32) (r : Int32) (S' : ST) (hm : bfX7_hasGate_1_17 x  S t0 = some (r, S')) : Ev mX7_hasGate 1 0 0 17 [none, none] [.int t0] (mkS x S) (fun v h => v = some (.int r) ∧ h = mkS x S') := by
    unfold bfX7_hasGate_1_17 at hm
    obtain ⟨o1, hm⟩ := oblk hm
    cases hm
    exact Ev.retz tokX7_hasGate rfl rfl (bbz_ok o1) ⟨rfl, rfl⟩
set_option maxHeartbeats 4000000 in
set_option maxRecDepth 20000 in
theorem bpX7_hasGate_1_16 (x : XT)  (S : ST)  (r : Int32) (S' : ST) (hm : bfX7_hasGate_1_16 x  S  = some (r, S')) : Ev mX7_hasGate 1 0 0 16 [none, none] [] (mkS x S) (fun v h => v = some (.int r) ∧ h = mkS x S') := by
    unfold bfX7_hasGate_1_16 at hm
    refine Ev.steps tokX7_hasGate 1 (P := True) (pc' := 17) (lv' := [none, none]) (st' := [.int 0]) (h' := mkS x S) rfl trivial ?_
    exact bpX7_hasGate_1_17 x S 0 _ _ hm
set_option maxHeartbeats 4000000 in
set_option maxRecDepth 20000 in
theorem bpX7_hasGate_1_0 (x : XT)  (S : ST) (p1 : Int32) (r : Int32) (S' : ST) (hm : bfX7_hasGate_1_0 x  S p1 = some (r, S')) : Ev mX7_hasGate 1 0 0 0 [some (.ref 1), some (.int p1)] [] (mkS x S) (fun v h => v = some (.int r) ∧ h = mkS x S') := by
    unfold bfX7_hasGate_1_0 at hm
    refine Ev.steps tokX7_hasGate 2 (P := True) (pc' := if p1 < 0 then 16 else 4) (lv' := [some (.ref 1), some (.int p1)]) (st' := []) (h' := mkS x S) rfl trivial ?_
    refine Ev.ite (fun c1 => ?_) (fun c1 => ?_)
    · rw [if_pos c1] at hm
      refine Ev.fgt (lv' := [none, none]) trivial ?_
      exact bpX7_hasGate_1_16 x S _ _ hm
    · rw [if_neg c1] at hm
      refine Ev.steps tokX7_hasGate 4 (P := True) (pc' := if (S.1 1 0) ≤ p1 then 16 else 12) (lv' := [some (.ref 1), some (.int p1)]) (st' := []) (h' := mkS x S) rfl trivial ?_
      refine Ev.ite (fun c2 => ?_) (fun c2 => ?_)
      · rw [if_pos c2] at hm
        refine Ev.fgt (lv' := [none, none]) trivial ?_
        exact bpX7_hasGate_1_16 x S _ _ hm
      · rw [if_neg c2] at hm
        refine Ev.steps tokX7_hasGate 2 (P := True) (pc' := 17) (lv' := [some (.ref 1), some (.int p1)]) (st' := [.int 1]) (h' := mkS x S) rfl trivial ?_
        refine Ev.fgt (lv' := [none, none]) trivial ?_
        exact bpX7_hasGate_1_17 x S 1 _ _ hm
theorem gpX7_hasGate_1 (x : XT) (S : ST) (p1 : Int32) (r : Int32) (S' : ST) (hm : gfX7_hasGate_1 x S p1 = some (r, S')) : Ct mX7_hasGate 1 0 0 [.ref 1, .int p1] (mkS x S) (fun v h => v = some (.int r) ∧ h = mkS x S') :=
  Ct.of (lv := [some (.ref 1), some (.int p1)]) rfl rfl rfl (show (_ : Nat) ≤ _ from Nat.le_of_ble_eq_true rfl) (fun G => rfl) (bpX7_hasGate_1_0 x S p1 r S' hm)
set_option maxHeartbeats 4000000 in
set_option maxRecDepth 20000 in
theorem bpX10_at_0_105 (x : XT)  (S : ST) (t0 : Int32) (r : Int32) (S' : ST) (hm : bfX10_at_0_105 x  S t0 = some (r, S')) : Ev mX10_at 2 0 0 105 [none, none, none] [.int t0] (mkS x S) (fun v h => v = some (.int r) ∧ h = mkS x S') := by
    unfold bfX10_at_0_105 at hm
    cases hm
    exact Ev.reti tokX10_at rfl rfl ⟨rfl, rfl⟩
set_option maxHeartbeats 4000000 in
set_option maxRecDepth 20000 in
theorem bpX10_at_0_0 (x : XT)  (S : ST) (p1 : Int32) (p2 : Int32) (r : Int32) (S' : ST) (hm : bfX10_at_0_0 x  S p1 p2 = some (r, S')) : Ev mX10_at 2 0 0 0 [some (.ref 0), some (.int p1), some (.int p2)] [] (mkS x S) (fun v h => v = some (.int r) ∧ h = mkS x S') := by
    unfold bfX10_at_0_0 at hm
    refine Ev.steps tokX10_at 3 (P := True) (pc' := 5) (lv' := [some (.ref 0), some (.int p1), some (.int p2)]) (st' := [.int p1, .ref 1]) (h' := mkS x S) rfl trivial ?_
    cases h1 : gfX7_hasGate_1 x S p1 with
    | none => rw [h1] at hm; cases hm
    | some q2 =>
      obtain ⟨r3, S4⟩ := q2
      rw [h1] at hm
      dsimp only at hm
      refine ev_callV (N := mX7_hasGate) (d' := 1) (bc := 0) (bs := 0) (bc' := 0) (bs' := 0) (as := [.int p1]) (rest := []) (a := 1) (ci := 7) (dcd tokX10_at rfl) okX7_hasGate inX7_hasGate seX7_hasGate lk10_111 rfl (by decide) (Nat.le_of_ble_eq_true rfl) rfl ⟨by decide, rfl⟩ (gpX7_hasGate_1 x S p1 _ _ h1) (fun v h' hq hn => ?_)
      obtain ⟨rfl, rfl⟩ := hq
      refine Ev.steps tokX10_at 1 (P := True) (pc' := if ¬ r3 = 0 then 13 else 11) (lv' := [some (.ref 0), some (.int p1), some (.int p2)]) (st' := []) (h' := mkS x S4) rfl trivial ?_
      refine Ev.ite (fun c5 => ?_) (fun c5 => ?_)
      · rw [if_pos c5] at hm
        refine Ev.steps tokX10_at 1 (P := True) (pc' := 14) (lv' := [some (.ref 0), some (.int p1), some (.int p2)]) (st' := [.int p2]) (h' := mkS x S4) rfl trivial ?_
        by_cases c6 : p2 = 0
        · rw [if_pos c6] at hm
          refine ev_tIn (off := 34) (t := 48) (dcd tokX10_at rfl) (by rw [c6]; decide) (by rw [c6]; decide) (by rw [c6]; rfl) rfl ?_
          obtain ⟨o7, hm⟩ := oblk hm
          refine Ev.steps tokX10_at 5 (P := vp_in p1 10 ∧ True) (pc' := 57) (lv' := [some (.ref 0), some (.int p1), some (.int p2)]) (st' := [.int (S4.2.1 2 p1.toNatClampNeg)]) (h' := mkS x S4) rfl ⟨inb_ok o7, trivial⟩ ?_
          cases hm
          exact Ev.reti tokX10_at rfl rfl ⟨rfl, rfl⟩
        rw [if_neg c6] at hm
        by_cases c8 : p2 = 1
        · rw [if_pos c8] at hm
          refine ev_tIn (off := 44) (t := 58) (dcd tokX10_at rfl) (by rw [c8]; decide) (by rw [c8]; decide) (by rw [c8]; rfl) rfl ?_
          obtain ⟨o9, hm⟩ := oblk hm
          refine Ev.steps tokX10_at 5 (P := vp_in p1 10 ∧ True) (pc' := 67) (lv' := [some (.ref 0), some (.int p1), some (.int p2)]) (st' := [.int (S4.2.1 3 p1.toNatClampNeg)]) (h' := mkS x S4) rfl ⟨inb_ok o9, trivial⟩ ?_
          cases hm
          exact Ev.reti tokX10_at rfl rfl ⟨rfl, rfl⟩
        rw [if_neg c8] at hm
        by_cases c10 : p2 = 2
        · rw [if_pos c10] at hm
          refine ev_tIn (off := 54) (t := 68) (dcd tokX10_at rfl) (by rw [c10]; decide) (by rw [c10]; decide) (by rw [c10]; rfl) rfl ?_
          obtain ⟨o11, hm⟩ := oblk hm
          refine Ev.steps tokX10_at 5 (P := vp_in p1 10 ∧ True) (pc' := 77) (lv' := [some (.ref 0), some (.int p1), some (.int p2)]) (st' := [.int (S4.2.1 4 p1.toNatClampNeg)]) (h' := mkS x S4) rfl ⟨inb_ok o11, trivial⟩ ?_
          cases hm
          exact Ev.reti tokX10_at rfl rfl ⟨rfl, rfl⟩
        rw [if_neg c10] at hm
        by_cases c12 : p2 = 3
        · rw [if_pos c12] at hm
          refine ev_tIn (off := 64) (t := 78) (dcd tokX10_at rfl) (by rw [c12]; decide) (by rw [c12]; decide) (by rw [c12]; rfl) rfl ?_
          obtain ⟨o13, hm⟩ := oblk hm
          refine Ev.steps tokX10_at 5 (P := vp_in p1 10 ∧ True) (pc' := 87) (lv' := [some (.ref 0), some (.int p1), some (.int p2)]) (st' := [.int (S4.2.1 5 p1.toNatClampNeg)]) (h' := mkS x S4) rfl ⟨inb_ok o13, trivial⟩ ?_
          cases hm
          exact Ev.reti tokX10_at rfl rfl ⟨rfl, rfl⟩
        rw [if_neg c12] at hm
        by_cases c14 : p2 = 4
        · rw [if_pos c14] at hm
          refine ev_tIn (off := 74) (t := 88) (dcd tokX10_at rfl) (by rw [c14]; decide) (by rw [c14]; decide) (by rw [c14]; rfl) rfl ?_
          obtain ⟨o15, hm⟩ := oblk hm
          refine Ev.steps tokX10_at 6 (P := vp_in p1 10 ∧ True) (pc' := if (S4.2.1 6 p1.toNatClampNeg) = 0 then 104 else 100) (lv' := [some (.ref 0), some (.int p1), some (.int p2)]) (st' := []) (h' := mkS x S4) rfl ⟨inb_ok o15, trivial⟩ ?_
          refine Ev.ite (fun c16 => ?_) (fun c16 => ?_)
          · rw [if_pos c16] at hm
            refine Ev.steps tokX10_at 1 (P := True) (pc' := 105) (lv' := [some (.ref 0), some (.int p1), some (.int p2)]) (st' := [.int 0]) (h' := mkS x S4) rfl trivial ?_
            refine Ev.fgt (lv' := [none, none, none]) trivial ?_
            exact bpX10_at_0_105 x S4 0 _ _ hm
          · rw [if_neg c16] at hm
            refine Ev.steps tokX10_at 2 (P := True) (pc' := 105) (lv' := [some (.ref 0), some (.int p1), some (.int p2)]) (st' := [.int 1]) (h' := mkS x S4) rfl trivial ?_
            refine Ev.fgt (lv' := [none, none, none]) trivial ?_
            exact bpX10_at_0_105 x S4 1 _ _ hm
        rw [if_neg c14] at hm
        refine ev_tOut (t := 106) (dcd tokX10_at rfl) (by have zc6 := lv_neT c6 (show (0 : Int32).toInt = 0 from by decide); have zc8 := lv_neT c8 (show (1 : Int32).toInt = 1 from by decide); have zc10 := lv_neT c10 (show (2 : Int32).toInt = 2 from by decide); have zc12 := lv_neT c12 (show (3 : Int32).toInt = 3 from by decide); have zc14 := lv_neT c14 (show (4 : Int32).toInt = 4 from by decide); omega) rfl ?_
        refine Ev.steps tokX10_at 1 (P := True) (pc' := 107) (lv' := [some (.ref 0), some (.int p1), some (.int p2)]) (st' := [.int (-1)]) (h' := mkS x S4) rfl trivial ?_
        cases hm
        exact Ev.reti tokX10_at rfl rfl ⟨rfl, rfl⟩
      · rw [if_neg c5] at hm
        refine Ev.steps tokX10_at 1 (P := True) (pc' := 12) (lv' := [some (.ref 0), some (.int p1), some (.int p2)]) (st' := [.int (-1)]) (h' := mkS x S4) rfl trivial ?_
        cases hm
        exact Ev.reti tokX10_at rfl rfl ⟨rfl, rfl⟩
theorem gpX10_at_0 (x : XT) (S : ST) (p1 : Int32) (p2 : Int32) (r : Int32) (S' : ST) (hm : gfX10_at_0 x S p1 p2 = some (r, S')) : Ct mX10_at 2 0 0 [.ref 0, .int p1, .int p2] (mkS x S) (fun v h => v = some (.int r) ∧ h = mkS x S') :=
  Ct.of (lv := [some (.ref 0), some (.int p1), some (.int p2)]) rfl rfl rfl (show (_ : Nat) ≤ _ from Nat.le_of_ble_eq_true rfl) (fun G => rfl) (bpX10_at_0_0 x S p1 p2 r S' hm)
set_option maxHeartbeats 4000000 in
set_option maxRecDepth 20000 in
theorem bpX7_addGoer_1_26 (x : XT)  (S : ST)  (r : Int32) (S' : ST) (hm : bfX7_addGoer_1_26 x  S  = some (r, S')) : Ev mX7_addGoer 2 0 0 26 [none, none, none, none] [] (mkS x S) (fun v h => v = some (.int r) ∧ h = mkS x S') := by
    unfold bfX7_addGoer_1_26 at hm
    refine Ev.steps tokX7_addGoer 1 (P := True) (pc' := 27) (lv' := [none, none, none, none]) (st' := [.int (-1)]) (h' := mkS x S) rfl trivial ?_
    cases hm
    exact Ev.reti tokX7_addGoer rfl rfl ⟨rfl, rfl⟩
set_option maxHeartbeats 4000000 in
set_option maxRecDepth 20000 in
theorem bpX7_addGoer_1_0 (x : XT)  (S : ST) (p1 : Int32) (p2 : Int32) (p3 : Int32) (r : Int32) (S' : ST) (hm : bfX7_addGoer_1_0 x  S p1 p2 p3 = some (r, S')) : Ev mX7_addGoer 2 0 0 0 [some (.ref 1), some (.int p1), some (.int p2), some (.int p3)] [] (mkS x S) (fun v h => v = some (.int r) ∧ h = mkS x S') := by
    unfold bfX7_addGoer_1_0 at hm
    refine Ev.steps tokX7_addGoer 2 (P := True) (pc' := 3) (lv' := [some (.ref 1), some (.int p1), some (.int p2), some (.int p3)]) (st' := [.int 6, .int p1]) (h' := mkS x S) rfl trivial ?_
    cases h1 : gfX10_within x S p1 6 with
    | none => rw [h1] at hm; cases hm
    | some q2 =>
      obtain ⟨r3, S4⟩ := q2
      rw [h1] at hm
      dsimp only at hm
      refine ev_callSN (N := mX10_within) (d' := 1) (bc := 0) (bs := 0) (bc' := 0) (bs' := 0) (as := [.int p1, .int 6]) (rest := []) (dcd tokX7_addGoer rfl) okX10_within inX10_within lk7_78 rfl (by decide) (Nat.le_of_ble_eq_true rfl) (gpX10_within x S p1 6 _ _ h1) (fun v h' hq hn => ?_)
      obtain ⟨rfl, rfl⟩ := hq
      refine Ev.steps tokX7_addGoer 1 (P := True) (pc' := if r3 = 0 then 26 else 9) (lv' := [some (.ref 1), some (.int p1), some (.int p2), some (.int p3)]) (st' := []) (h' := mkS x S4) rfl trivial ?_
      refine Ev.ite (fun c5 => ?_) (fun c5 => ?_)
      · rw [if_pos c5] at hm
        refine Ev.fgt (lv' := [none, none, none, none]) trivial ?_
        exact bpX7_addGoer_1_26 x S4 _ _ hm
      · rw [if_neg c5] at hm
        refine Ev.steps tokX7_addGoer 2 (P := True) (pc' := 12) (lv' := [some (.ref 1), some (.int p1), some (.int p2), some (.int p3)]) (st' := [.int 20, .int p2]) (h' := mkS x S4) rfl trivial ?_
        cases h6 : gfX10_within x S4 p2 20 with
        | none => rw [h6] at hm; cases hm
        | some q7 =>
          obtain ⟨r8, S9⟩ := q7
          rw [h6] at hm
          dsimp only at hm
          refine ev_callSN (N := mX10_within) (d' := 1) (bc := 0) (bs := 0) (bc' := 0) (bs' := 0) (as := [.int p2, .int 20]) (rest := []) (dcd tokX7_addGoer rfl) okX10_within inX10_within lk7_78 rfl (by decide) (Nat.le_of_ble_eq_true rfl) (gpX10_within x S4 p2 20 _ _ h6) (fun v h' hq hn => ?_)
          obtain ⟨rfl, rfl⟩ := hq
          refine Ev.steps tokX7_addGoer 1 (P := True) (pc' := if r8 = 0 then 26 else 18) (lv' := [some (.ref 1), some (.int p1), some (.int p2), some (.int p3)]) (st' := []) (h' := mkS x S9) rfl trivial ?_
          refine Ev.ite (fun c10 => ?_) (fun c10 => ?_)
          · rw [if_pos c10] at hm
            refine Ev.fgt (lv' := [none, none, none, none]) trivial ?_
            exact bpX7_addGoer_1_26 x S9 _ _ hm
          · rw [if_neg c10] at hm
            refine Ev.steps tokX7_addGoer 2 (P := True) (pc' := 20) (lv' := [some (.ref 1), some (.int p1), some (.int p2), some (.int p3)]) (st' := [.int 4, .int p3]) (h' := mkS x S9) rfl trivial ?_
            cases h11 : gfX10_within x S9 p3 4 with
            | none => rw [h11] at hm; cases hm
            | some q12 =>
              obtain ⟨r13, S14⟩ := q12
              rw [h11] at hm
              dsimp only at hm
              refine ev_callSN (N := mX10_within) (d' := 1) (bc := 0) (bs := 0) (bc' := 0) (bs' := 0) (as := [.int p3, .int 4]) (rest := []) (dcd tokX7_addGoer rfl) okX10_within inX10_within lk7_78 rfl (by decide) (Nat.le_of_ble_eq_true rfl) (gpX10_within x S9 p3 4 _ _ h11) (fun v h' hq hn => ?_)
              obtain ⟨rfl, rfl⟩ := hq
              refine Ev.steps tokX7_addGoer 1 (P := True) (pc' := if ¬ r13 = 0 then 28 else 26) (lv' := [some (.ref 1), some (.int p1), some (.int p2), some (.int p3)]) (st' := []) (h' := mkS x S14) rfl trivial ?_
              refine Ev.ite (fun c15 => ?_) (fun c15 => ?_)
              · rw [if_pos c15] at hm
                refine Ev.steps tokX7_addGoer 4 (P := True) (pc' := if (S14.1 1 6) < 5 then 39 else 36) (lv' := [some (.ref 1), some (.int p1), some (.int p2), some (.int p3)]) (st' := []) (h' := mkS x S14) rfl trivial ?_
                refine Ev.ite (fun c16 => ?_) (fun c16 => ?_)
                · rw [if_pos c16] at hm
                  obtain ⟨o17, hm⟩ := oblk hm
                  obtain ⟨o18, hm⟩ := oblk hm
                  obtain ⟨o19, hm⟩ := oblk hm
                  obtain ⟨o20, hm⟩ := oblk hm
                  refine Ev.steps tokX7_addGoer 31 (P := vp_in (S14.1 1 6) 5 ∧ vp_in (S14.1 1 6) 5 ∧ vp_in (S14.1 1 6) 5 ∧ vp_in (S14.1 1 6) 5 ∧ True) (pc' := 90) (lv' := [some (.ref 1), some (.int p1), some (.int p2), some (.int p3)]) (st' := [.int (S14.1 1 6)]) (h' := mkS x ((u2 S14.1 1 6 ((S14.1 1 6) + 1)), (u2 (u2 (u2 (u2 S14.2.1 7 ((S14.1 1 6).toNatClampNeg) p1) 8 ((S14.1 1 6).toNatClampNeg) p2) 9 ((S14.1 1 6).toNatClampNeg) p3) 10 ((S14.1 1 6).toNatClampNeg) 0), S14.2.2.1, S14.2.2.2)) rfl ⟨inb_ok o17, inb_ok o18, inb_ok o19, inb_ok o20, trivial⟩ ?_
                  cases hm
                  exact Ev.reti tokX7_addGoer rfl rfl ⟨rfl, rfl⟩
                · rw [if_neg c16] at hm
                  refine Ev.steps tokX7_addGoer 1 (P := True) (pc' := 38) (lv' := [some (.ref 1), some (.int p1), some (.int p2), some (.int p3)]) (st' := [.int (-5)]) (h' := mkS x S14) rfl trivial ?_
                  cases hm
                  exact Ev.reti tokX7_addGoer rfl rfl ⟨rfl, rfl⟩
              · rw [if_neg c15] at hm
                refine Ev.fgt (lv' := [none, none, none, none]) trivial ?_
                exact bpX7_addGoer_1_26 x S14 _ _ hm
theorem gpX7_addGoer_1 (x : XT) (S : ST) (p1 : Int32) (p2 : Int32) (p3 : Int32) (r : Int32) (S' : ST) (hm : gfX7_addGoer_1 x S p1 p2 p3 = some (r, S')) : Ct mX7_addGoer 2 0 0 [.ref 1, .int p1, .int p2, .int p3] (mkS x S) (fun v h => v = some (.int r) ∧ h = mkS x S') :=
  Ct.of (lv := [some (.ref 1), some (.int p1), some (.int p2), some (.int p3)]) rfl rfl rfl (show (_ : Nat) ≤ _ from Nat.le_of_ble_eq_true rfl) (fun G => rfl) (bpX7_addGoer_1_0 x S p1 p2 p3 r S' hm)
set_option maxHeartbeats 4000000 in
set_option maxRecDepth 20000 in
theorem bpX10_goer_0_0 (x : XT)  (S : ST) (p1 : Int32) (p2 : Int32) (p3 : Int32) (r : Int32) (S' : ST) (hm : bfX10_goer_0_0 x  S p1 p2 p3 = some (r, S')) : Ev mX10_goer 3 0 0 0 [some (.ref 0), some (.int p1), some (.int p2), some (.int p3)] [] (mkS x S) (fun v h => v = some (.int r) ∧ h = mkS x S') := by
    unfold bfX10_goer_0_0 at hm
    refine Ev.steps tokX10_goer 6 (P := True) (pc' := 8) (lv' := [some (.ref 0), some (.int p1), some (.int p2), some (.int p3)]) (st' := [.int p3, .int p2, .int p1, .ref 1, .ref 0]) (h' := mkS x S) rfl trivial ?_
    cases h1 : gfX7_addGoer_1 x S p1 p2 p3 with
    | none => rw [h1] at hm; cases hm
    | some q2 =>
      obtain ⟨r3, S4⟩ := q2
      rw [h1] at hm
      dsimp only at hm
      refine ev_callV (N := mX7_addGoer) (d' := 2) (bc := 0) (bs := 0) (bc' := 0) (bs' := 0) (as := [.int p1, .int p2, .int p3]) (rest := [.ref 0]) (a := 1) (ci := 7) (dcd tokX10_goer rfl) okX7_addGoer inX7_addGoer seX7_addGoer lk10_130 rfl (by decide) (Nat.le_of_ble_eq_true rfl) rfl ⟨by decide, rfl⟩ (gpX7_addGoer_1 x S p1 p2 p3 _ _ h1) (fun v h' hq hn => ?_)
      obtain ⟨rfl, rfl⟩ := hq
      cases h5 : gfX10_toldAnew_0 x S4 r3 with
      | none => rw [h5] at hm; cases hm
      | some q6 =>
        obtain ⟨r7, S8⟩ := q6
        rw [h5] at hm
        dsimp only at hm
        refine ev_callV (N := mX10_toldAnew) (d' := 2) (bc := 0) (bs := 0) (bc' := 0) (bs' := 0) (as := [.int r3]) (rest := []) (a := 0) (ci := 10) (dcd tokX10_goer rfl) okX10_toldAnew inX10_toldAnew seX10_toldAnew lk10_107 rfl (by decide) (Nat.le_of_ble_eq_true rfl) rfl ⟨by decide, rfl⟩ (gpX10_toldAnew_0 x S4 r3 _ _ h5) (fun v h' hq hn => ?_)
        obtain ⟨rfl, rfl⟩ := hq
        cases hm
        exact Ev.reti tokX10_goer rfl rfl ⟨rfl, rfl⟩
theorem gpX10_goer_0 (x : XT) (S : ST) (p1 : Int32) (p2 : Int32) (p3 : Int32) (r : Int32) (S' : ST) (hm : gfX10_goer_0 x S p1 p2 p3 = some (r, S')) : Ct mX10_goer 3 0 0 [.ref 0, .int p1, .int p2, .int p3] (mkS x S) (fun v h => v = some (.int r) ∧ h = mkS x S') :=
  Ct.of (lv := [some (.ref 0), some (.int p1), some (.int p2), some (.int p3)]) rfl rfl rfl (show (_ : Nat) ≤ _ from Nat.le_of_ble_eq_true rfl) (fun G => rfl) (bpX10_goer_0_0 x S p1 p2 p3 r S' hm)
set_option maxHeartbeats 4000000 in
set_option maxRecDepth 20000 in
theorem bpX7_hasGoer_1_17 (x : XT)  (S : ST) (t0 : Int32) (r : Int32) (S' : ST) (hm : bfX7_hasGoer_1_17 x  S t0 = some (r, S')) : Ev mX7_hasGoer 1 0 0 17 [none, none] [.int t0] (mkS x S) (fun v h => v = some (.int r) ∧ h = mkS x S') := by
    unfold bfX7_hasGoer_1_17 at hm
    obtain ⟨o1, hm⟩ := oblk hm
    cases hm
    exact Ev.retz tokX7_hasGoer rfl rfl (bbz_ok o1) ⟨rfl, rfl⟩
set_option maxHeartbeats 4000000 in
set_option maxRecDepth 20000 in
theorem bpX7_hasGoer_1_16 (x : XT)  (S : ST)  (r : Int32) (S' : ST) (hm : bfX7_hasGoer_1_16 x  S  = some (r, S')) : Ev mX7_hasGoer 1 0 0 16 [none, none] [] (mkS x S) (fun v h => v = some (.int r) ∧ h = mkS x S') := by
    unfold bfX7_hasGoer_1_16 at hm
    refine Ev.steps tokX7_hasGoer 1 (P := True) (pc' := 17) (lv' := [none, none]) (st' := [.int 0]) (h' := mkS x S) rfl trivial ?_
    exact bpX7_hasGoer_1_17 x S 0 _ _ hm
set_option maxHeartbeats 4000000 in
set_option maxRecDepth 20000 in
theorem bpX7_hasGoer_1_0 (x : XT)  (S : ST) (p1 : Int32) (r : Int32) (S' : ST) (hm : bfX7_hasGoer_1_0 x  S p1 = some (r, S')) : Ev mX7_hasGoer 1 0 0 0 [some (.ref 1), some (.int p1)] [] (mkS x S) (fun v h => v = some (.int r) ∧ h = mkS x S') := by
    unfold bfX7_hasGoer_1_0 at hm
    refine Ev.steps tokX7_hasGoer 2 (P := True) (pc' := if p1 < 0 then 16 else 4) (lv' := [some (.ref 1), some (.int p1)]) (st' := []) (h' := mkS x S) rfl trivial ?_
    refine Ev.ite (fun c1 => ?_) (fun c1 => ?_)
    · rw [if_pos c1] at hm
      refine Ev.fgt (lv' := [none, none]) trivial ?_
      exact bpX7_hasGoer_1_16 x S _ _ hm
    · rw [if_neg c1] at hm
      refine Ev.steps tokX7_hasGoer 4 (P := True) (pc' := if (S.1 1 6) ≤ p1 then 16 else 12) (lv' := [some (.ref 1), some (.int p1)]) (st' := []) (h' := mkS x S) rfl trivial ?_
      refine Ev.ite (fun c2 => ?_) (fun c2 => ?_)
      · rw [if_pos c2] at hm
        refine Ev.fgt (lv' := [none, none]) trivial ?_
        exact bpX7_hasGoer_1_16 x S _ _ hm
      · rw [if_neg c2] at hm
        refine Ev.steps tokX7_hasGoer 2 (P := True) (pc' := 17) (lv' := [some (.ref 1), some (.int p1)]) (st' := [.int 1]) (h' := mkS x S) rfl trivial ?_
        refine Ev.fgt (lv' := [none, none]) trivial ?_
        exact bpX7_hasGoer_1_17 x S 1 _ _ hm
theorem gpX7_hasGoer_1 (x : XT) (S : ST) (p1 : Int32) (r : Int32) (S' : ST) (hm : gfX7_hasGoer_1 x S p1 = some (r, S')) : Ct mX7_hasGoer 1 0 0 [.ref 1, .int p1] (mkS x S) (fun v h => v = some (.int r) ∧ h = mkS x S') :=
  Ct.of (lv := [some (.ref 1), some (.int p1)]) rfl rfl rfl (show (_ : Nat) ≤ _ from Nat.le_of_ble_eq_true rfl) (fun G => rfl) (bpX7_hasGoer_1_0 x S p1 r S' hm)
set_option maxHeartbeats 4000000 in
set_option maxRecDepth 20000 in
theorem bpX0_regardUnknown_20_1_0 (x : XT)  (S : ST) (p2 : Int32) (p3 : Int32) (p4 : Int32) (r : Unit) (S' : ST) (hm : bfX0_regardUnknown_20_1_0 x  S p2 p3 p4 = some (r, S')) : Ev mX0_regardUnknown 1 0 0 0 [some (.ref 20), some (.ref 1), some (.int p2), some (.int p3), some (.int p4)] [] (mkS x S) (fun v h => v = none ∧ h = mkS x S') := by
    unfold bfX0_regardUnknown_20_1_0 at hm
    refine Ev.steps tokX0_regardUnknown 46 (P := vp_in 0 8 ∧ vp_in 1 8 ∧ vp_in 2 8 ∧ vp_in 3 8 ∧ vp_in 4 8 ∧ vp_in 5 8 ∧ vp_in 0 3 ∧ vp_in 6 8 ∧ vp_in 2 3 ∧ vp_in 7 8 ∧ True) (pc' := 69) (lv' := [some (.ref 20), some (.ref 1), some (.int p2), some (.int p3), some (.int p4)]) (st' := []) (h' := mkS x (S.1, (u2 (u2 (u2 (u2 (u2 (u2 (u2 (u2 S.2.1 21 0 p2) 21 1 p3) 21 2 p4) 21 3 0) 21 4 (-1)) 21 5 (-1)) 21 6 (S.2.1 14 0)) 21 7 (S.2.1 14 2)), S.2.2.1, S.2.2.2)) rfl ⟨(by unfold vp_in; decide), (by unfold vp_in; decide), (by unfold vp_in; decide), (by unfold vp_in; decide), (by unfold vp_in; decide), (by unfold vp_in; decide), (by unfold vp_in; decide), (by unfold vp_in; decide), (by unfold vp_in; decide), (by unfold vp_in; decide), trivial⟩ ?_
    cases hm
    exact Ev.retv tokX0_regardUnknown rfl rfl ⟨rfl, rfl⟩
theorem gpX0_regardUnknown_20_1 (x : XT) (S : ST) (p2 : Int32) (p3 : Int32) (p4 : Int32) (r : Unit) (S' : ST) (hm : gfX0_regardUnknown_20_1 x S p2 p3 p4 = some (r, S')) : Ct mX0_regardUnknown 1 0 0 [.ref 20, .ref 1, .int p2, .int p3, .int p4] (mkS x S) (fun v h => v = none ∧ h = mkS x S') :=
  Ct.of (lv := [some (.ref 20), some (.ref 1), some (.int p2), some (.int p3), some (.int p4)]) rfl rfl rfl (show (_ : Nat) ≤ _ from Nat.le_of_ble_eq_true rfl) (fun G => rfl) (bpX0_regardUnknown_20_1_0 x S p2 p3 p4 r S' hm)
set_option maxHeartbeats 4000000 in
set_option maxRecDepth 20000 in
theorem bpX0_regard_20_1_0 (x : XT)  (S : ST) (p2 : Int32) (p3 : Int32) (p4 : Int32) (r : Unit) (S' : ST) (hm : bfX0_regard_20_1_0 x  S p2 p3 p4 = some (r, S')) : Ev mX0_regard 2 0 0 0 [some (.ref 20), some (.ref 1), some (.int p2), some (.int p3), some (.int p4)] [] (mkS x S) (fun v h => v = none ∧ h = mkS x S') := by
    unfold bfX0_regard_20_1_0 at hm
    obtain ⟨o1, hm⟩ := oblk hm
    obtain ⟨o2, hm⟩ := oblk hm
    refine Ev.steps tokX0_regard 11 (P := vp_in p3 10 ∧ vp_in p3 10 ∧ True) (pc' := 16) (lv' := [some (.ref 20), some (.ref 1), some (.int p2), some (.int p3), some (.int p4)]) (st' := [.int p4, .int (S.2.1 5 p3.toNatClampNeg), .int (S.2.1 4 p3.toNatClampNeg), .ref 1, .ref 20]) (h' := mkS x S) rfl ⟨inb_ok o1, inb_ok o2, trivial⟩ ?_
    cases h3 : gfX0_regardUnknown_20_1 x S (S.2.1 4 p3.toNatClampNeg) (S.2.1 5 p3.toNatClampNeg) p4 with
    | none => rw [h3] at hm; cases hm
    | some q4 =>
      obtain ⟨r5, S6⟩ := q4
      rw [h3] at hm
      dsimp only at hm
      refine ev_callV (N := mX0_regardUnknown) (d' := 1) (bc := 0) (bs := 0) (bc' := 0) (bs' := 0) (as := [.ref 1, .int (S.2.1 4 p3.toNatClampNeg), .int (S.2.1 5 p3.toNatClampNeg), .int p4]) (rest := []) (a := 20) (ci := 0) (dcd tokX0_regard rfl) okX0_regardUnknown inX0_regardUnknown seX0_regardUnknown lk0_29 rfl (by decide) (Nat.le_of_ble_eq_true rfl) rfl ⟨by decide, rfl⟩ (gpX0_regardUnknown_20_1 x S (S.2.1 4 p3.toNatClampNeg) (S.2.1 5 p3.toNatClampNeg) p4 _ _ h3) (fun v h' hq hn => ?_)
      obtain ⟨rfl, rfl⟩ := hq
      obtain ⟨o7, hm⟩ := oblk hm
      refine Ev.steps tokX0_regard 18 (P := vp_in p2 5 ∧ vp_in 3 8 ∧ vp_in 4 8 ∧ vp_in 5 8 ∧ True) (pc' := 45) (lv' := [some (.ref 20), some (.ref 1), some (.int p2), some (.int p3), some (.int p4)]) (st' := []) (h' := mkS x (S6.1, (u2 (u2 (u2 S6.2.1 21 3 (S6.2.1 9 p2.toNatClampNeg)) 21 4 p3) 21 5 p2), S6.2.2.1, S6.2.2.2)) rfl ⟨inb_ok o7, (by unfold vp_in; decide), (by unfold vp_in; decide), (by unfold vp_in; decide), trivial⟩ ?_
      cases hm
      exact Ev.retv tokX0_regard rfl rfl ⟨rfl, rfl⟩
theorem gpX0_regard_20_1 (x : XT) (S : ST) (p2 : Int32) (p3 : Int32) (p4 : Int32) (r : Unit) (S' : ST) (hm : gfX0_regard_20_1 x S p2 p3 p4 = some (r, S')) : Ct mX0_regard 2 0 0 [.ref 20, .ref 1, .int p2, .int p3, .int p4] (mkS x S) (fun v h => v = none ∧ h = mkS x S') :=
  Ct.of (lv := [some (.ref 20), some (.ref 1), some (.int p2), some (.int p3), some (.int p4)]) rfl rfl rfl (show (_ : Nat) ≤ _ from Nat.le_of_ble_eq_true rfl) (fun G => rfl) (bpX0_regard_20_1_0 x S p2 p3 p4 r S' hm)
set_option maxHeartbeats 4000000 in
set_option maxRecDepth 20000 in
theorem bpX9_join_199 (x : XT)  (S : ST) (t0 : Int32) (r : Int32) (S' : ST) (hm : bfX9_join_199 x  S t0 = some (r, S')) : Ev mX9_join 1 0 0 199 [none, none, none, none, none, none, none] [.int t0] (mkS x S) (fun v h => v = some (.int r) ∧ h = mkS x S') := by
    unfold bfX9_join_199 at hm
    cases hm
    exact Ev.reti tokX9_join rfl rfl ⟨rfl, rfl⟩
set_option maxHeartbeats 4000000 in
set_option maxRecDepth 20000 in
theorem bpX9_join_191 (x : XT)  (S : ST)  (r : Int32) (S' : ST) (hm : bfX9_join_191 x  S  = some (r, S')) : Ev mX9_join 1 0 0 191 [none, none, none, none, none, none, none] [] (mkS x S) (fun v h => v = some (.int r) ∧ h = mkS x S') := by
    unfold bfX9_join_191 at hm
    refine Ev.steps tokX9_join 2 (P := True) (pc' := 199) (lv' := [none, none, none, none, none, none, none]) (st' := [.int (-2000000000)]) (h' := mkS x S) rfl trivial ?_
    exact bpX9_join_199 x S (-2000000000) _ _ hm
set_option maxHeartbeats 4000000 in
set_option maxRecDepth 20000 in
theorem bpX9_join_173 (x : XT)  (S : ST) (v5 : Int64) (r : Int32) (S' : ST) (hm : bfX9_join_173 x  S v5 = some (r, S')) : Ev mX9_join 1 0 0 173 [none, none, none, none, none, some (.long v5), none] [] (mkS x S) (fun v h => v = some (.int r) ∧ h = mkS x S') := by
    unfold bfX9_join_173 at hm
    refine Ev.steps tokX9_join 4 (P := True) (pc' := if (lg_cmp v5 (-1000000000)) < 0 then 191 else 182) (lv' := [none, none, none, none, none, some (.long v5), none]) (st' := []) (h' := mkS x S) rfl trivial ?_
    refine Ev.ite (fun c1 => ?_) (fun c1 => ?_)
    · rw [if_pos c1] at hm
      refine Ev.fgt (lv' := [none, none, none, none, none, none, none]) trivial ?_
      exact bpX9_join_191 x S _ _ hm
    · rw [if_neg c1] at hm
      refine Ev.steps tokX9_join 4 (P := True) (pc' := if (lg_cmp v5 1000000000) ≤ 0 then 196 else 191) (lv' := [none, none, none, none, none, some (.long v5), none]) (st' := []) (h' := mkS x S) rfl trivial ?_
      refine Ev.ite (fun c2 => ?_) (fun c2 => ?_)
      · rw [if_pos c2] at hm
        refine Ev.steps tokX9_join 2 (P := True) (pc' := 199) (lv' := [none, none, none, none, none, some (.long v5), none]) (st' := [.int v5.toInt32]) (h' := mkS x S) rfl trivial ?_
        refine Ev.fgt (lv' := [none, none, none, none, none, none, none]) trivial ?_
        exact bpX9_join_199 x S v5.toInt32 _ _ hm
      · rw [if_neg c2] at hm
        refine Ev.fgt (lv' := [none, none, none, none, none, none, none]) trivial ?_
        exact bpX9_join_191 x S _ _ hm
set_option maxHeartbeats 4000000 in
set_option maxRecDepth 20000 in
theorem bpX9_join_139 (x : XT)  (S : ST) (t0 : Int64) (r : Int32) (S' : ST) (hm : bfX9_join_139 x  S t0 = some (r, S')) : Ev mX9_join 1 0 0 139 [none, none, none, none, none, none, none] [.long t0] (mkS x S) (fun v h => v = some (.int r) ∧ h = mkS x S') := by
    unfold bfX9_join_139 at hm
    refine Ev.steps tokX9_join 2 (P := True) (pc' := 173) (lv' := [none, none, none, none, none, some (.long t0), none]) (st' := []) (h' := mkS x S) rfl trivial ?_
    exact bpX9_join_173 x S t0 _ _ hm
set_option maxHeartbeats 4000000 in
set_option maxRecDepth 20000 in
theorem bpX9_join_155 (x : XT)  (S : ST) (t0 : Int64) (r : Int32) (S' : ST) (hm : bfX9_join_155 x  S t0 = some (r, S')) : Ev mX9_join 1 0 0 155 [none, none, none, none, none, none, none] [.long t0] (mkS x S) (fun v h => v = some (.int r) ∧ h = mkS x S') := by
    unfold bfX9_join_155 at hm
    refine Ev.steps tokX9_join 2 (P := True) (pc' := 173) (lv' := [none, none, none, none, none, some (.long t0), none]) (st' := []) (h' := mkS x S) rfl trivial ?_
    exact bpX9_join_173 x S t0 _ _ hm
set_option maxHeartbeats 4000000 in
set_option maxRecDepth 20000 in
theorem bpX9_join_171 (x : XT)  (S : ST) (t0 : Int64) (r : Int32) (S' : ST) (hm : bfX9_join_171 x  S t0 = some (r, S')) : Ev mX9_join 1 0 0 171 [none, none, none, none, none, none, none] [.long t0] (mkS x S) (fun v h => v = some (.int r) ∧ h = mkS x S') := by
    unfold bfX9_join_171 at hm
    refine Ev.steps tokX9_join 1 (P := True) (pc' := 173) (lv' := [none, none, none, none, none, some (.long t0), none]) (st' := []) (h' := mkS x S) rfl trivial ?_
    exact bpX9_join_173 x S t0 _ _ hm
set_option maxHeartbeats 4000000 in
set_option maxRecDepth 20000 in
theorem bpX9_join_21 (x : XT)  (S : ST) (v0 : Int32) (v1 : Int64) (v3 : Int64) (r : Int32) (S' : ST) (hm : bfX9_join_21 x  S v0 v1 v3 = some (r, S')) : Ev mX9_join 1 0 0 21 [some (.int v0), some (.long v1), none, some (.long v3), none, none, none] [] (mkS x S) (fun v h => v = some (.int r) ∧ h = mkS x S') := by
    unfold bfX9_join_21 at hm
    refine Ev.steps tokX9_join 1 (P := True) (pc' := 22) (lv' := [some (.int v0), some (.long v1), none, some (.long v3), none, none, none]) (st' := [.int v0]) (h' := mkS x S) rfl trivial ?_
    by_cases c1 : v0 = 37
    · rw [if_pos c1] at hm
      refine ev_look (off := 98) (t := 120) (dcd tokX9_join rfl) (by decide) (by rw [c1]; decide) rfl ?_
      obtain ⟨o2, hm⟩ := oblk hm
      refine Ev.steps tokX9_join 5 (P := ¬ v3 = 0 ∧ True) (pc' := 173) (lv' := [some (.int v0), some (.long v1), none, some (.long v3), none, some (.long (v1 - v1 / v3 * v3)), none]) (st' := []) (h' := mkS x S) rfl ⟨nzl_ok o2, trivial⟩ ?_
      refine Ev.fgt (lv' := [none, none, none, none, none, some (.long (v1 - v1 / v3 * v3)), none]) ⟨rfl, trivial⟩ ?_
      exact bpX9_join_173 x S (v1 - v1 / v3 * v3) _ _ hm
    rw [if_neg c1] at hm
    by_cases c3 : v0 = 42
    · rw [if_pos c3] at hm
      refine ev_look (off := 82) (t := 104) (dcd tokX9_join rfl) (by decide) (by rw [c3]; decide) rfl ?_
      refine Ev.steps tokX9_join 5 (P := True) (pc' := 173) (lv' := [some (.int v0), some (.long v1), none, some (.long v3), none, some (.long (v1 * v3)), none]) (st' := []) (h' := mkS x S) rfl trivial ?_
      refine Ev.fgt (lv' := [none, none, none, none, none, some (.long (v1 * v3)), none]) ⟨rfl, trivial⟩ ?_
      exact bpX9_join_173 x S (v1 * v3) _ _ hm
    rw [if_neg c3] at hm
    by_cases c4 : v0 = 43
    · rw [if_pos c4] at hm
      refine ev_look (off := 66) (t := 88) (dcd tokX9_join rfl) (by decide) (by rw [c4]; decide) rfl ?_
      refine Ev.steps tokX9_join 5 (P := True) (pc' := 173) (lv' := [some (.int v0), some (.long v1), none, some (.long v3), none, some (.long (v1 + v3)), none]) (st' := []) (h' := mkS x S) rfl trivial ?_
      refine Ev.fgt (lv' := [none, none, none, none, none, some (.long (v1 + v3)), none]) ⟨rfl, trivial⟩ ?_
      exact bpX9_join_173 x S (v1 + v3) _ _ hm
    rw [if_neg c4] at hm
    by_cases c5 : v0 = 45
    · rw [if_pos c5] at hm
      refine ev_look (off := 74) (t := 96) (dcd tokX9_join rfl) (by decide) (by rw [c5]; decide) rfl ?_
      refine Ev.steps tokX9_join 5 (P := True) (pc' := 173) (lv' := [some (.int v0), some (.long v1), none, some (.long v3), none, some (.long (v1 - v3)), none]) (st' := []) (h' := mkS x S) rfl trivial ?_
      refine Ev.fgt (lv' := [none, none, none, none, none, some (.long (v1 - v3)), none]) ⟨rfl, trivial⟩ ?_
      exact bpX9_join_173 x S (v1 - v3) _ _ hm
    rw [if_neg c5] at hm
    by_cases c6 : v0 = 47
    · rw [if_pos c6] at hm
      refine ev_look (off := 90) (t := 112) (dcd tokX9_join rfl) (by decide) (by rw [c6]; decide) rfl ?_
      obtain ⟨o7, hm⟩ := oblk hm
      refine Ev.steps tokX9_join 5 (P := ¬ v3 = 0 ∧ True) (pc' := 173) (lv' := [some (.int v0), some (.long v1), none, some (.long v3), none, some (.long (v1 / v3)), none]) (st' := []) (h' := mkS x S) rfl ⟨nzl_ok o7, trivial⟩ ?_
      refine Ev.fgt (lv' := [none, none, none, none, none, some (.long (v1 / v3)), none]) ⟨rfl, trivial⟩ ?_
      exact bpX9_join_173 x S (v1 / v3) _ _ hm
    rw [if_neg c6] at hm
    by_cases c8 : v0 = 60
    · rw [if_pos c8] at hm
      refine ev_look (off := 106) (t := 128) (dcd tokX9_join rfl) (by decide) (by rw [c8]; decide) rfl ?_
      refine Ev.steps tokX9_join 4 (P := True) (pc' := if 0 ≤ (lg_cmp v1 v3) then 138 else 134) (lv' := [some (.int v0), some (.long v1), none, some (.long v3), none, none, none]) (st' := []) (h' := mkS x S) rfl trivial ?_
      refine Ev.ite (fun c9 => ?_) (fun c9 => ?_)
      · rw [if_pos c9] at hm
        refine Ev.steps tokX9_join 1 (P := True) (pc' := 139) (lv' := [some (.int v0), some (.long v1), none, some (.long v3), none, none, none]) (st' := [.long 0]) (h' := mkS x S) rfl trivial ?_
        refine Ev.fgt (lv' := [none, none, none, none, none, none, none]) trivial ?_
        exact bpX9_join_139 x S 0 _ _ hm
      · rw [if_neg c9] at hm
        refine Ev.steps tokX9_join 2 (P := True) (pc' := 139) (lv' := [some (.int v0), some (.long v1), none, some (.long v3), none, none, none]) (st' := [.long 1]) (h' := mkS x S) rfl trivial ?_
        refine Ev.fgt (lv' := [none, none, none, none, none, none, none]) trivial ?_
        exact bpX9_join_139 x S 1 _ _ hm
    rw [if_neg c8] at hm
    by_cases c10 : v0 = 62
    · rw [if_pos c10] at hm
      refine ev_look (off := 122) (t := 144) (dcd tokX9_join rfl) (by decide) (by rw [c10]; decide) rfl ?_
      refine Ev.steps tokX9_join 4 (P := True) (pc' := if (lg_cmp v1 v3) ≤ 0 then 154 else 150) (lv' := [some (.int v0), some (.long v1), none, some (.long v3), none, none, none]) (st' := []) (h' := mkS x S) rfl trivial ?_
      refine Ev.ite (fun c11 => ?_) (fun c11 => ?_)
      · rw [if_pos c11] at hm
        refine Ev.steps tokX9_join 1 (P := True) (pc' := 155) (lv' := [some (.int v0), some (.long v1), none, some (.long v3), none, none, none]) (st' := [.long 0]) (h' := mkS x S) rfl trivial ?_
        refine Ev.fgt (lv' := [none, none, none, none, none, none, none]) trivial ?_
        exact bpX9_join_155 x S 0 _ _ hm
      · rw [if_neg c11] at hm
        refine Ev.steps tokX9_join 2 (P := True) (pc' := 155) (lv' := [some (.int v0), some (.long v1), none, some (.long v3), none, none, none]) (st' := [.long 1]) (h' := mkS x S) rfl trivial ?_
        refine Ev.fgt (lv' := [none, none, none, none, none, none, none]) trivial ?_
        exact bpX9_join_155 x S 1 _ _ hm
    rw [if_neg c10] at hm
    refine ev_look (off := 138) (t := 160) (dcd tokX9_join rfl) (by decide) ((lv_osw c1 (show (37 : Int32).toInt = 37 from by decide)).trans ((lv_osw c3 (show (42 : Int32).toInt = 42 from by decide)).trans ((lv_osw c4 (show (43 : Int32).toInt = 43 from by decide)).trans ((lv_osw c5 (show (45 : Int32).toInt = 45 from by decide)).trans ((lv_osw c6 (show (47 : Int32).toInt = 47 from by decide)).trans ((lv_osw c8 (show (60 : Int32).toInt = 60 from by decide)).trans ((lv_osw c10 (show (62 : Int32).toInt = 62 from by decide)).trans (rfl)))))))) rfl ?_
    refine Ev.steps tokX9_join 4 (P := True) (pc' := if ¬ (lg_cmp v1 v3) = 0 then 170 else 166) (lv' := [some (.int v0), some (.long v1), none, some (.long v3), none, none, none]) (st' := []) (h' := mkS x S) rfl trivial ?_
    refine Ev.ite (fun c12 => ?_) (fun c12 => ?_)
    · rw [if_pos c12] at hm
      refine Ev.steps tokX9_join 1 (P := True) (pc' := 171) (lv' := [some (.int v0), some (.long v1), none, some (.long v3), none, none, none]) (st' := [.long 0]) (h' := mkS x S) rfl trivial ?_
      refine Ev.fgt (lv' := [none, none, none, none, none, none, none]) trivial ?_
      exact bpX9_join_171 x S 0 _ _ hm
    · rw [if_neg c12] at hm
      refine Ev.steps tokX9_join 2 (P := True) (pc' := 171) (lv' := [some (.int v0), some (.long v1), none, some (.long v3), none, none, none]) (st' := [.long 1]) (h' := mkS x S) rfl trivial ?_
      refine Ev.fgt (lv' := [none, none, none, none, none, none, none]) trivial ?_
      exact bpX9_join_171 x S 1 _ _ hm
set_option maxHeartbeats 4000000 in
set_option maxRecDepth 20000 in
theorem bpX9_join_12 (x : XT)  (S : ST) (v0 : Int32) (v1 : Int64) (v3 : Int64) (r : Int32) (S' : ST) (hm : bfX9_join_12 x  S v0 v1 v3 = some (r, S')) : Ev mX9_join 1 0 0 12 [some (.int v0), some (.long v1), none, some (.long v3), none, none, none] [] (mkS x S) (fun v h => v = some (.int r) ∧ h = mkS x S') := by
    unfold bfX9_join_12 at hm
    refine Ev.steps tokX9_join 4 (P := True) (pc' := if ¬ (lg_cmp v3 0) = 0 then 21 else 18) (lv' := [some (.int v0), some (.long v1), none, some (.long v3), none, none, none]) (st' := []) (h' := mkS x S) rfl trivial ?_
    refine Ev.ite (fun c1 => ?_) (fun c1 => ?_)
    · rw [if_pos c1] at hm
      exact bpX9_join_21 x S v0 v1 v3 _ _ hm
    · rw [if_neg c1] at hm
      refine Ev.steps tokX9_join 1 (P := True) (pc' := 20) (lv' := [some (.int v0), some (.long v1), none, some (.long v3), none, none, none]) (st' := [.int (-2000000000)]) (h' := mkS x S) rfl trivial ?_
      cases hm
      exact Ev.reti tokX9_join rfl rfl ⟨rfl, rfl⟩
set_option maxHeartbeats 4000000 in
set_option maxRecDepth 20000 in
theorem bpX9_join_0 (x : XT)  (S : ST) (p0 : Int32) (p1 : Int64) (p3 : Int64) (r : Int32) (S' : ST) (hm : bfX9_join_0 x  S p0 p1 p3 = some (r, S')) : Ev mX9_join 1 0 0 0 [some (.int p0), some (.long p1), none, some (.long p3), none, none, none] [] (mkS x S) (fun v h => v = some (.int r) ∧ h = mkS x S') := by
    unfold bfX9_join_0 at hm
    refine Ev.steps tokX9_join 3 (P := True) (pc' := if p0 = 47 then 12 else 6) (lv' := [some (.int p0), some (.long p1), none, some (.long p3), none, none, none]) (st' := []) (h' := mkS x S) rfl trivial ?_
    refine Ev.ite (fun c1 => ?_) (fun c1 => ?_)
    · rw [if_pos c1] at hm
      exact bpX9_join_12 x S p0 p1 p3 _ _ hm
    · rw [if_neg c1] at hm
      refine Ev.steps tokX9_join 3 (P := True) (pc' := if ¬ p0 = 37 then 21 else 12) (lv' := [some (.int p0), some (.long p1), none, some (.long p3), none, none, none]) (st' := []) (h' := mkS x S) rfl trivial ?_
      refine Ev.ite (fun c2 => ?_) (fun c2 => ?_)
      · rw [if_pos c2] at hm
        exact bpX9_join_21 x S p0 p1 p3 _ _ hm
      · rw [if_neg c2] at hm
        exact bpX9_join_12 x S p0 p1 p3 _ _ hm
theorem gpX9_join (x : XT) (S : ST) (p0 : Int32) (p1 : Int64) (p3 : Int64) (r : Int32) (S' : ST) (hm : gfX9_join x S p0 p1 p3 = some (r, S')) : Ct mX9_join 1 0 0 [.int p0, .long p1, .long p3] (mkS x S) (fun v h => v = some (.int r) ∧ h = mkS x S') :=
  Ct.of (lv := [some (.int p0), some (.long p1), none, some (.long p3), none, none, none]) rfl rfl rfl (show (_ : Nat) ≤ _ from Nat.le_of_ble_eq_true rfl) (fun G => rfl) (bpX9_join_0 x S p0 p1 p3 r S' hm)
set_option maxHeartbeats 4000000 in
set_option maxRecDepth 20000 in
theorem bpX9_reckon_T_21_22_298 (x : XT)  (S : ST) (t0 : Int32) (r : Int32) (S' : ST) (hm : bfX9_reckon_T_21_22_298 x  S t0 = some (r, S')) : Ev mX9_reckon 2 0 0 298 [none, none, none, none, none, none, none, none, none, none, none] [.int t0] (mkS x S) (fun v h => v = some (.int r) ∧ h = mkS x S') := by
    unfold bfX9_reckon_T_21_22_298 at hm
    cases hm
    exact Ev.reti tokX9_reckon rfl rfl ⟨rfl, rfl⟩
set_option maxHeartbeats 4000000 in
set_option maxRecDepth 20000 in
theorem bpX9_reckon_T_21_22_111 (x : XT)  (S : ST)  (r : Int32) (S' : ST) (hm : bfX9_reckon_T_21_22_111 x  S  = some (r, S')) : Ev mX9_reckon 2 0 0 111 [none, none, none, none, none, none, none, none, none, none, none] [] (mkS x S) (fun v h => v = some (.int r) ∧ h = mkS x S') := by
    unfold bfX9_reckon_T_21_22_111 at hm
    refine Ev.steps tokX9_reckon 1 (P := True) (pc' := 113) (lv' := [none, none, none, none, none, none, none, none, none, none, none]) (st' := [.int (-2000000000)]) (h' := mkS x S) rfl trivial ?_
    cases hm
    exact Ev.reti tokX9_reckon rfl rfl ⟨rfl, rfl⟩
set_option maxHeartbeats 4000000 in
set_option maxRecDepth 20000 in
theorem bpX9_reckon_T_21_22_278 (x : XT) (k36 : ST → Nat → Int32 → Int32 → Int32 → Option (Int32 × ST)) (hk36 : ∀ (S : ST) (v0 : Nat) (v5 : Int32) (v6 : Int32) (v7 : Int32) (r : Int32) (S' : ST), k36 S v0 v5 v6 v7 = some (r, S') → Ev mX9_reckon 2 0 0 36 [some (.ref v0), none, none, some (.ref 21), some (.ref 22), some (.int v5), some (.int v6), some (.int v7), none, none, none] [] (mkS x S) (fun v h => v = some (.int r) ∧ h = mkS x S')) (S : ST) (v0 : Nat) (v5 : Int32) (v6 : Int32) (v7 : Int32) (r : Int32) (S' : ST) (hm : bfX9_reckon_T_21_22_278 x k36 S v0 v5 v6 v7 = some (r, S')) : Ev mX9_reckon 2 0 0 278 [some (.ref v0), none, none, some (.ref 21), some (.ref 22), some (.int v5), some (.int v6), some (.int v7), none, none, none] [] (mkS x S) (fun v h => v = some (.int r) ∧ h = mkS x S') := by
    unfold bfX9_reckon_T_21_22_278 at hm
    obtain ⟨o1, hm⟩ := oblk hm
    obtain ⟨f9_v0, r2_v0, r3_v0, r4_v0, r5_v0, a1_v0, a2_v0, a3_v0, a4_v0⟩ := tx_ok o1
    refine Ev.steps tokX9_reckon 2 (P := True) (pc' := 36) (lv' := [some (.ref v0), none, none, some (.ref 21), some (.ref 22), some (.int v5), some (.int v6), some (.int (v7 + 1)), none, none, none]) (st' := []) (h' := mkS x S) rfl trivial ?_
    exact hk36 S v0 v5 v6 (v7 + 1) _ _ hm
set_option maxHeartbeats 4000000 in
set_option maxRecDepth 20000 in
theorem bpX9_reckon_T_21_22_135 (x : XT) (k36 : ST → Nat → Int32 → Int32 → Int32 → Option (Int32 × ST)) (hk36 : ∀ (S : ST) (v0 : Nat) (v5 : Int32) (v6 : Int32) (v7 : Int32) (r : Int32) (S' : ST), k36 S v0 v5 v6 v7 = some (r, S') → Ev mX9_reckon 2 0 0 36 [some (.ref v0), none, none, some (.ref 21), some (.ref 22), some (.int v5), some (.int v6), some (.int v7), none, none, none] [] (mkS x S) (fun v h => v = some (.int r) ∧ h = mkS x S')) (S : ST) (v0 : Nat) (v5 : Int32) (v6 : Int32) (v7 : Int32) (t1 : Int32) (t2 : Int32) (r : Int32) (S' : ST) (hm : bfX9_reckon_T_21_22_135 x k36 S v0 v5 v6 v7 t1 t2 = some (r, S')) : Ev mX9_reckon 2 0 0 135 [some (.ref v0), none, none, some (.ref 21), some (.ref 22), some (.int v5), some (.int v6), some (.int v7), none, none, none] [.int t2, .int t1, .ref 22] (mkS x S) (fun v h => v = some (.int r) ∧ h = mkS x S') := by
    unfold bfX9_reckon_T_21_22_135 at hm
    obtain ⟨o1, hm⟩ := oblk hm
    obtain ⟨f9_v0, r2_v0, r3_v0, r4_v0, r5_v0, a1_v0, a2_v0, a3_v0, a4_v0⟩ := tx_ok o1
    obtain ⟨o2, hm⟩ := oblk hm
    refine Ev.steps tokX9_reckon 2 (P := vp_in t1 50 ∧ True) (pc' := 278) (lv' := [some (.ref v0), none, none, some (.ref 21), some (.ref 22), some (.int v5), some (.int v6), some (.int v7), none, none, none]) (st' := []) (h' := mkS x (S.1, (u2 S.2.1 22 t1.toNatClampNeg t2), S.2.2.1, S.2.2.2)) rfl ⟨inb_ok o2, trivial⟩ ?_
    exact bpX9_reckon_T_21_22_278 x k36 hk36 (S.1, (u2 S.2.1 22 t1.toNatClampNeg t2), S.2.2.1, S.2.2.2) v0 v5 v6 v7 _ _ hm
set_option maxHeartbeats 4000000 in
set_option maxRecDepth 20000 in
theorem bpX9_reckon_T_21_22_114 (x : XT) (k36 : ST → Nat → Int32 → Int32 → Int32 → Option (Int32 × ST)) (hk36 : ∀ (S : ST) (v0 : Nat) (v5 : Int32) (v6 : Int32) (v7 : Int32) (r : Int32) (S' : ST), k36 S v0 v5 v6 v7 = some (r, S') → Ev mX9_reckon 2 0 0 36 [some (.ref v0), none, none, some (.ref 21), some (.ref 22), some (.int v5), some (.int v6), some (.int v7), none, none, none] [] (mkS x S) (fun v h => v = some (.int r) ∧ h = mkS x S')) (S : ST) (v0 : Nat) (v5 : Int32) (v6 : Int32) (v7 : Int32) (v8 : Int32) (v9 : Int32) (r : Int32) (S' : ST) (hm : bfX9_reckon_T_21_22_114 x k36 S v0 v5 v6 v7 v8 v9 = some (r, S')) : Ev mX9_reckon 2 0 0 114 [some (.ref v0), none, none, some (.ref 21), some (.ref 22), some (.int v5), some (.int v6), some (.int v7), some (.int v8), some (.int v9), none] [] (mkS x S) (fun v h => v = some (.int r) ∧ h = mkS x S') := by
    unfold bfX9_reckon_T_21_22_114 at hm
    obtain ⟨o1, hm⟩ := oblk hm
    obtain ⟨f9_v0, r2_v0, r3_v0, r4_v0, r5_v0, a1_v0, a2_v0, a3_v0, a4_v0⟩ := tx_ok o1
    refine Ev.steps tokX9_reckon 5 (P := True) (pc' := if ¬ v8 = 256 then 131 else 126) (lv' := [some (.ref v0), none, none, some (.ref 21), some (.ref 22), some (.int v5), some (.int v6), some (.int v7), some (.int v8), some (.int v9), none]) (st' := [.int v6, .ref 22]) (h' := mkS x S) rfl trivial ?_
    refine Ev.ite (fun c2 => ?_) (fun c2 => ?_)
    · rw [if_pos c2] at hm
      obtain ⟨o3, hm⟩ := oblk hm
      refine Ev.steps tokX9_reckon 3 (P := vp_in v9 8 ∧ True) (pc' := 135) (lv' := [some (.ref v0), none, none, some (.ref 21), some (.ref 22), some (.int v5), some (.int v6), some (.int v7), some (.int v8), some (.int v9), none]) (st' := [.int (S.2.1 21 v9.toNatClampNeg), .int v6, .ref 22]) (h' := mkS x S) rfl ⟨inb_ok o3, trivial⟩ ?_
      refine Ev.fgt (lv' := [some (.ref v0), none, none, some (.ref 21), some (.ref 22), some (.int v5), some (.int v6), some (.int v7), none, none, none]) ⟨rfl, rfl, rfl, rfl, rfl, rfl, trivial⟩ ?_
      exact bpX9_reckon_T_21_22_135 x k36 hk36 S v0 v5 v6 v7 v6 (S.2.1 21 v9.toNatClampNeg) _ _ hm
    · rw [if_neg c2] at hm
      refine Ev.steps tokX9_reckon 2 (P := True) (pc' := 135) (lv' := [some (.ref v0), none, none, some (.ref 21), some (.ref 22), some (.int v5), some (.int v6), some (.int v7), some (.int v8), some (.int v9), none]) (st' := [.int v9, .int v6, .ref 22]) (h' := mkS x S) rfl trivial ?_
      refine Ev.fgt (lv' := [some (.ref v0), none, none, some (.ref 21), some (.ref 22), some (.int v5), some (.int v6), some (.int v7), none, none, none]) ⟨rfl, rfl, rfl, rfl, rfl, rfl, trivial⟩ ?_
      exact bpX9_reckon_T_21_22_135 x k36 hk36 S v0 v5 v6 v7 v6 v9 _ _ hm
set_option maxHeartbeats 4000000 in
set_option maxRecDepth 20000 in
theorem bpX9_reckon_T_21_22_85 (x : XT) (k36 : ST → Nat → Int32 → Int32 → Int32 → Option (Int32 × ST)) (hk36 : ∀ (S : ST) (v0 : Nat) (v5 : Int32) (v6 : Int32) (v7 : Int32) (r : Int32) (S' : ST), k36 S v0 v5 v6 v7 = some (r, S') → Ev mX9_reckon 2 0 0 36 [some (.ref v0), none, none, some (.ref 21), some (.ref 22), some (.int v5), some (.int v6), some (.int v7), none, none, none] [] (mkS x S) (fun v h => v = some (.int r) ∧ h = mkS x S')) (S : ST) (v0 : Nat) (v5 : Int32) (v6 : Int32) (v7 : Int32) (v8 : Int32) (v9 : Int32) (r : Int32) (S' : ST) (hm : bfX9_reckon_T_21_22_85 x k36 S v0 v5 v6 v7 v8 v9 = some (r, S')) : Ev mX9_reckon 2 0 0 85 [some (.ref v0), none, none, some (.ref 21), some (.ref 22), some (.int v5), some (.int v6), some (.int v7), some (.int v8), some (.int v9), none] [] (mkS x S) (fun v h => v = some (.int r) ∧ h = mkS x S') := by
    unfold bfX9_reckon_T_21_22_85 at hm
    obtain ⟨o1, hm⟩ := oblk hm
    obtain ⟨f9_v0, r2_v0, r3_v0, r4_v0, r5_v0, a1_v0, a2_v0, a3_v0, a4_v0⟩ := tx_ok o1
    refine Ev.steps tokX9_reckon 5 (P := True) (pc' := if 50 ≤ (v6 + 1) then 111 else 96) (lv' := [some (.ref v0), none, none, some (.ref 21), some (.ref 22), some (.int v5), some (.int (v6 + 1)), some (.int v7), some (.int v8), some (.int v9), none]) (st' := []) (h' := mkS x S) rfl trivial ?_
    refine Ev.ite (fun c2 => ?_) (fun c2 => ?_)
    · rw [if_pos c2] at hm
      refine Ev.fgt (lv' := [none, none, none, none, none, none, none, none, none, none, none]) trivial ?_
      exact bpX9_reckon_T_21_22_111 x S _ _ hm
    · rw [if_neg c2] at hm
      refine Ev.steps tokX9_reckon 4 (P := True) (pc' := if v9 < 8 then 114 else 103) (lv' := [some (.ref v0), none, none, some (.ref 21), some (.ref 22), some (.int v5), some (.int (v6 + 1)), some (.int v7), some (.int v8), some (.int v9), none]) (st' := []) (h' := mkS x S) rfl trivial ?_
      refine Ev.ite (fun c3 => ?_) (fun c3 => ?_)
      · rw [if_pos c3] at hm
        exact bpX9_reckon_T_21_22_114 x k36 hk36 S v0 v5 (v6 + 1) v7 v8 v9 _ _ hm
      · rw [if_neg c3] at hm
        refine Ev.steps tokX9_reckon 3 (P := True) (pc' := if ¬ v8 = 259 then 114 else 111) (lv' := [some (.ref v0), none, none, some (.ref 21), some (.ref 22), some (.int v5), some (.int (v6 + 1)), some (.int v7), some (.int v8), some (.int v9), none]) (st' := []) (h' := mkS x S) rfl trivial ?_
        refine Ev.ite (fun c4 => ?_) (fun c4 => ?_)
        · rw [if_pos c4] at hm
          exact bpX9_reckon_T_21_22_114 x k36 hk36 S v0 v5 (v6 + 1) v7 v8 v9 _ _ hm
        · rw [if_neg c4] at hm
          refine Ev.fgt (lv' := [none, none, none, none, none, none, none, none, none, none, none]) trivial ?_
          exact bpX9_reckon_T_21_22_111 x S _ _ hm
set_option maxHeartbeats 4000000 in
set_option maxRecDepth 20000 in
theorem bpX9_reckon_T_21_22_204 (x : XT) (k36 : ST → Nat → Int32 → Int32 → Int32 → Option (Int32 × ST)) (hk36 : ∀ (S : ST) (v0 : Nat) (v5 : Int32) (v6 : Int32) (v7 : Int32) (r : Int32) (S' : ST), k36 S v0 v5 v6 v7 = some (r, S') → Ev mX9_reckon 2 0 0 36 [some (.ref v0), none, none, some (.ref 21), some (.ref 22), some (.int v5), some (.int v6), some (.int v7), none, none, none] [] (mkS x S) (fun v h => v = some (.int r) ∧ h = mkS x S')) (S : ST) (v0 : Nat) (v5 : Int32) (v6 : Int32) (v7 : Int32) (v9 : Int32) (t0 : Int32) (t1 : Int32) (r : Int32) (S' : ST) (hm : bfX9_reckon_T_21_22_204 x k36 S v0 v5 v6 v7 v9 t0 t1 = some (r, S')) : Ev mX9_reckon 2 0 0 204 [some (.ref v0), none, none, some (.ref 21), some (.ref 22), some (.int v5), some (.int v6), some (.int v7), none, some (.int v9), none] [.int t1, .int t0] (mkS x S) (fun v h => v = some (.int r) ∧ h = mkS x S') := by
    unfold bfX9_reckon_T_21_22_204 at hm
    obtain ⟨o1, hm⟩ := oblk hm
    obtain ⟨f9_v0, r2_v0, r3_v0, r4_v0, r5_v0, a1_v0, a2_v0, a3_v0, a4_v0⟩ := tx_ok o1
    refine Ev.steps tokX9_reckon 1 (P := True) (pc' := if ¬ t0 = t1 then 221 else 207) (lv' := [some (.ref v0), none, none, some (.ref 21), some (.ref 22), some (.int v5), some (.int v6), some (.int v7), none, some (.int v9), none]) (st' := []) (h' := mkS x S) rfl trivial ?_
    refine Ev.ite (fun c2 => ?_) (fun c2 => ?_)
    · rw [if_pos c2] at hm
      refine Ev.steps tokX9_reckon 2 (P := True) (pc' := 278) (lv' := [some (.ref v0), none, none, some (.ref 21), some (.ref 22), some (.int v5), some (.int (v6 + (-1))), some (.int v7), none, some (.int v9), none]) (st' := []) (h' := mkS x S) rfl trivial ?_
      refine Ev.fgt (lv' := [some (.ref v0), none, none, some (.ref 21), some (.ref 22), some (.int v5), some (.int (v6 + (-1))), some (.int v7), none, none, none]) ⟨rfl, rfl, rfl, rfl, rfl, rfl, trivial⟩ ?_
      exact bpX9_reckon_T_21_22_278 x k36 hk36 S v0 v5 (v6 + (-1)) v7 _ _ hm
    · rw [if_neg c2] at hm
      refine Ev.steps tokX9_reckon 4 (P := True) (pc' := 213) (lv' := [some (.ref v0), none, none, some (.ref 21), some (.ref 22), some (.int v5), some (.int v6), some (.int v7), none, some (.int v9), none]) (st' := [.int (v9 - 1), .int v7]) (h' := mkS x S) rfl trivial ?_
      refine ev_max (dcd tokX9_reckon rfl) lk9_47 mt_max.1 mt_in.1 mt_max.2 (by decide) (Nat.le_of_ble_eq_true rfl) ?_
      refine Ev.steps tokX9_reckon 2 (P := True) (pc' := 278) (lv' := [some (.ref v0), none, none, some (.ref 21), some (.ref 22), some (.int v5), some (.int v6), some (.int (if v7 < (v9 - 1) then (v9 - 1) else v7)), none, some (.int v9), none]) (st' := []) (h' := mkS x S) rfl trivial ?_
      refine Ev.fgt (lv' := [some (.ref v0), none, none, some (.ref 21), some (.ref 22), some (.int v5), some (.int v6), some (.int (if v7 < (v9 - 1) then (v9 - 1) else v7)), none, none, none]) ⟨rfl, rfl, rfl, rfl, rfl, rfl, trivial⟩ ?_
      exact bpX9_reckon_T_21_22_278 x k36 hk36 S v0 v5 v6 (if v7 < (v9 - 1) then (v9 - 1) else v7) _ _ hm
set_option maxHeartbeats 4000000 in
set_option maxRecDepth 20000 in
theorem bpX9_reckon_T_21_22_186 (x : XT) (k36 : ST → Nat → Int32 → Int32 → Int32 → Option (Int32 × ST)) (hk36 : ∀ (S : ST) (v0 : Nat) (v5 : Int32) (v6 : Int32) (v7 : Int32) (r : Int32) (S' : ST), k36 S v0 v5 v6 v7 = some (r, S') → Ev mX9_reckon 2 0 0 36 [some (.ref v0), none, none, some (.ref 21), some (.ref 22), some (.int v5), some (.int v6), some (.int v7), none, none, none] [] (mkS x S) (fun v h => v = some (.int r) ∧ h = mkS x S')) (S : ST) (v0 : Nat) (v5 : Int32) (v6 : Int32) (v7 : Int32) (v8 : Int32) (v9 : Int32) (r : Int32) (S' : ST) (hm : bfX9_reckon_T_21_22_186 x k36 S v0 v5 v6 v7 v8 v9 = some (r, S')) : Ev mX9_reckon 2 0 0 186 [some (.ref v0), none, none, some (.ref 21), some (.ref 22), some (.int v5), some (.int v6), some (.int v7), some (.int v8), some (.int v9), none] [] (mkS x S) (fun v h => v = some (.int r) ∧ h = mkS x S') := by
    unfold bfX9_reckon_T_21_22_186 at hm
    obtain ⟨o1, hm⟩ := oblk hm
    obtain ⟨f9_v0, r2_v0, r3_v0, r4_v0, r5_v0, a1_v0, a2_v0, a3_v0, a4_v0⟩ := tx_ok o1
    obtain ⟨o2, hm⟩ := oblk hm
    refine Ev.steps tokX9_reckon 6 (P := vp_in v6 50 ∧ True) (pc' := if ¬ v8 = 271 then 203 else 199) (lv' := [some (.ref v0), none, none, some (.ref 21), some (.ref 22), some (.int v5), some (.int v6), some (.int v7), some (.int v8), some (.int v9), none]) (st' := [.int (S.2.1 22 v6.toNatClampNeg)]) (h' := mkS x S) rfl ⟨inb_ok o2, trivial⟩ ?_
    refine Ev.ite (fun c3 => ?_) (fun c3 => ?_)
    · rw [if_pos c3] at hm
      refine Ev.steps tokX9_reckon 1 (P := True) (pc' := 204) (lv' := [some (.ref v0), none, none, some (.ref 21), some (.ref 22), some (.int v5), some (.int v6), some (.int v7), some (.int v8), some (.int v9), none]) (st' := [.int 0, .int (S.2.1 22 v6.toNatClampNeg)]) (h' := mkS x S) rfl trivial ?_
      refine Ev.fgt (lv' := [some (.ref v0), none, none, some (.ref 21), some (.ref 22), some (.int v5), some (.int v6), some (.int v7), none, some (.int v9), none]) ⟨rfl, rfl, rfl, rfl, rfl, rfl, rfl, trivial⟩ ?_
      exact bpX9_reckon_T_21_22_204 x k36 hk36 S v0 v5 v6 v7 v9 (S.2.1 22 v6.toNatClampNeg) 0 _ _ hm
    · rw [if_neg c3] at hm
      refine Ev.steps tokX9_reckon 2 (P := True) (pc' := 204) (lv' := [some (.ref v0), none, none, some (.ref 21), some (.ref 22), some (.int v5), some (.int v6), some (.int v7), some (.int v8), some (.int v9), none]) (st' := [.int 1, .int (S.2.1 22 v6.toNatClampNeg)]) (h' := mkS x S) rfl trivial ?_
      refine Ev.fgt (lv' := [some (.ref v0), none, none, some (.ref 21), some (.ref 22), some (.int v5), some (.int v6), some (.int v7), none, some (.int v9), none]) ⟨rfl, rfl, rfl, rfl, rfl, rfl, rfl, trivial⟩ ?_
      exact bpX9_reckon_T_21_22_204 x k36 hk36 S v0 v5 v6 v7 v9 (S.2.1 22 v6.toNatClampNeg) 1 _ _ hm
set_option maxHeartbeats 4000000 in
set_option maxRecDepth 20000 in
theorem bpX9_reckon_T_21_22_259 (x : XT) (k36 : ST → Nat → Int32 → Int32 → Int32 → Option (Int32 × ST)) (hk36 : ∀ (S : ST) (v0 : Nat) (v5 : Int32) (v6 : Int32) (v7 : Int32) (r : Int32) (S' : ST), k36 S v0 v5 v6 v7 = some (r, S') → Ev mX9_reckon 2 0 0 36 [some (.ref v0), none, none, some (.ref 21), some (.ref 22), some (.int v5), some (.int v6), some (.int v7), none, none, none] [] (mkS x S) (fun v h => v = some (.int r) ∧ h = mkS x S')) (S : ST) (v0 : Nat) (v5 : Int32) (v6 : Int32) (v7 : Int32) (t0 : Int32) (r : Int32) (S' : ST) (hm : bfX9_reckon_T_21_22_259 x k36 S v0 v5 v6 v7 t0 = some (r, S')) : Ev mX9_reckon 2 0 0 259 [some (.ref v0), none, none, some (.ref 21), some (.ref 22), some (.int v5), some (.int v6), some (.int v7), none, none, none] [.int t0] (mkS x S) (fun v h => v = some (.int r) ∧ h = mkS x S') := by
    unfold bfX9_reckon_T_21_22_259 at hm
    obtain ⟨o1, hm⟩ := oblk hm
    obtain ⟨f9_v0, r2_v0, r3_v0, r4_v0, r5_v0, a1_v0, a2_v0, a3_v0, a4_v0⟩ := tx_ok o1
    refine Ev.steps tokX9_reckon 4 (P := True) (pc' := if ¬ t0 = (-2000000000) then 271 else 268) (lv' := [some (.ref v0), none, none, some (.ref 21), some (.ref 22), some (.int v5), some (.int v6), some (.int v7), none, none, some (.int t0)]) (st' := []) (h' := mkS x S) rfl trivial ?_
    refine Ev.ite (fun c2 => ?_) (fun c2 => ?_)
    · rw [if_pos c2] at hm
      obtain ⟨o3, hm⟩ := oblk hm
      refine Ev.steps tokX9_reckon 4 (P := vp_in v6 50 ∧ True) (pc' := 278) (lv' := [some (.ref v0), none, none, some (.ref 21), some (.ref 22), some (.int v5), some (.int v6), some (.int v7), none, none, some (.int t0)]) (st' := []) (h' := mkS x (S.1, (u2 S.2.1 22 v6.toNatClampNeg t0), S.2.2.1, S.2.2.2)) rfl ⟨inb_ok o3, trivial⟩ ?_
      refine Ev.fgt (lv' := [some (.ref v0), none, none, some (.ref 21), some (.ref 22), some (.int v5), some (.int v6), some (.int v7), none, none, none]) ⟨rfl, rfl, rfl, rfl, rfl, rfl, trivial⟩ ?_
      exact bpX9_reckon_T_21_22_278 x k36 hk36 (S.1, (u2 S.2.1 22 v6.toNatClampNeg t0), S.2.2.1, S.2.2.2) v0 v5 v6 v7 _ _ hm
    · rw [if_neg c2] at hm
      refine Ev.steps tokX9_reckon 1 (P := True) (pc' := 270) (lv' := [some (.ref v0), none, none, some (.ref 21), some (.ref 22), some (.int v5), some (.int v6), some (.int v7), none, none, some (.int t0)]) (st' := [.int (-2000000000)]) (h' := mkS x S) rfl trivial ?_
      cases hm
      exact Ev.reti tokX9_reckon rfl rfl ⟨rfl, rfl⟩
set_option maxHeartbeats 4000000 in
set_option maxRecDepth 20000 in
theorem bpX9_reckon_T_21_22_36 (x : XT) (k36 : ST → Nat → Int32 → Int32 → Int32 → Option (Int32 × ST)) (hk36 : ∀ (S : ST) (v0 : Nat) (v5 : Int32) (v6 : Int32) (v7 : Int32) (r : Int32) (S' : ST), k36 S v0 v5 v6 v7 = some (r, S') → Ev mX9_reckon 2 0 0 36 [some (.ref v0), none, none, some (.ref 21), some (.ref 22), some (.int v5), some (.int v6), some (.int v7), none, none, none] [] (mkS x S) (fun v h => v = some (.int r) ∧ h = mkS x S')) (S : ST) (v0 : Nat) (v5 : Int32) (v6 : Int32) (v7 : Int32) (r : Int32) (S' : ST) (hm : bfX9_reckon_T_21_22_36 x k36 S v0 v5 v6 v7 = some (r, S')) : Ev mX9_reckon 2 0 0 36 [some (.ref v0), none, none, some (.ref 21), some (.ref 22), some (.int v5), some (.int v6), some (.int v7), none, none, none] [] (mkS x S) (fun v h => v = some (.int r) ∧ h = mkS x S') := by
    unfold bfX9_reckon_T_21_22_36 at hm
    obtain ⟨o1, hm⟩ := oblk hm
    obtain ⟨f9_v0, r2_v0, r3_v0, r4_v0, r5_v0, a1_v0, a2_v0, a3_v0, a4_v0⟩ := tx_ok o1
    refine Ev.steps tokX9_reckon 3 (P := True) (pc' := if v5 ≤ v7 then 284 else 43) (lv' := [some (.ref v0), none, none, some (.ref 21), some (.ref 22), some (.int v5), some (.int v6), some (.int v7), none, none, none]) (st' := []) (h' := mkS x S) rfl trivial ?_
    refine Ev.ite (fun c2 => ?_) (fun c2 => ?_)
    · rw [if_pos c2] at hm
      refine Ev.steps tokX9_reckon 2 (P := True) (pc' := if ¬ v6 = 0 then 296 else 289) (lv' := [some (.ref v0), none, none, some (.ref 21), some (.ref 22), some (.int v5), some (.int v6), some (.int v7), none, none, none]) (st' := []) (h' := mkS x S) rfl trivial ?_
      refine Ev.ite (fun c3 => ?_) (fun c3 => ?_)
      · rw [if_pos c3] at hm
        refine Ev.steps tokX9_reckon 1 (P := True) (pc' := 298) (lv' := [some (.ref v0), none, none, some (.ref 21), some (.ref 22), some (.int v5), some (.int v6), some (.int v7), none, none, none]) (st' := [.int (-2000000000)]) (h' := mkS x S) rfl trivial ?_
        refine Ev.fgt (lv' := [none, none, none, none, none, none, none, none, none, none, none]) trivial ?_
        exact bpX9_reckon_T_21_22_298 x S (-2000000000) _ _ hm
      · rw [if_neg c3] at hm
        refine Ev.steps tokX9_reckon 4 (P := vp_in 0 50 ∧ True) (pc' := 298) (lv' := [some (.ref v0), none, none, some (.ref 21), some (.ref 22), some (.int v5), some (.int v6), some (.int v7), none, none, none]) (st' := [.int (S.2.1 22 0)]) (h' := mkS x S) rfl ⟨(by unfold vp_in; decide), trivial⟩ ?_
        refine Ev.fgt (lv' := [none, none, none, none, none, none, none, none, none, none, none]) trivial ?_
        exact bpX9_reckon_T_21_22_298 x S (S.2.1 22 0) _ _ hm
    · rw [if_neg c2] at hm
      refine Ev.steps tokX9_reckon 1 (P := True) (pc' := 44) (lv' := [some (.ref v0), none, none, some (.ref 21), some (.ref 22), some (.int v5), some (.int v6), some (.int v7), none, none, none]) (st' := [.ref v0]) (h' := mkS x S) rfl trivial ?_
      refine ev_getR (dcd tokX9_reckon rfl) rfl f9_v0 rfl r5_v0 ?_
      refine Ev.steps tokX9_reckon 1 (P := True) (pc' := 49) (lv' := [some (.ref v0), none, none, some (.ref 21), some (.ref 22), some (.int v5), some (.int v6), some (.int v7), none, none, none]) (st' := [.int v7, .ref (v0 + 4)]) (h' := mkS x S) rfl trivial ?_
      obtain ⟨o4, hm⟩ := oblk hm
      refine ev_iald (dcd tokX9_reckon rfl) a4_v0 (inb_ok o4) ?_
      refine Ev.steps tokX9_reckon 4 (P := ¬ 512 = 0 ∧ True) (pc' := 57) (lv' := [some (.ref v0), none, none, some (.ref 21), some (.ref 22), some (.int v5), some (.int v6), some (.int v7), some (.int ((S.2.1 (v0 + 4) v7.toNatClampNeg) - (S.2.1 (v0 + 4) v7.toNatClampNeg) / 512 * 512)), none, none]) (st' := [.ref v0]) (h' := mkS x S) rfl ⟨(by decide), trivial⟩ ?_
      refine ev_getR (dcd tokX9_reckon rfl) rfl f9_v0 rfl r5_v0 ?_
      refine Ev.steps tokX9_reckon 1 (P := True) (pc' := 62) (lv' := [some (.ref v0), none, none, some (.ref 21), some (.ref 22), some (.int v5), some (.int v6), some (.int v7), some (.int ((S.2.1 (v0 + 4) v7.toNatClampNeg) - (S.2.1 (v0 + 4) v7.toNatClampNeg) / 512 * 512)), none, none]) (st' := [.int v7, .ref (v0 + 4)]) (h' := mkS x S) rfl trivial ?_
      obtain ⟨o5, hm⟩ := oblk hm
      refine ev_iald (dcd tokX9_reckon rfl) a4_v0 (inb_ok o5) ?_
      refine Ev.steps tokX9_reckon 6 (P := ¬ 512 = 0 ∧ True) (pc' := if ((S.2.1 (v0 + 4) v7.toNatClampNeg) - (S.2.1 (v0 + 4) v7.toNatClampNeg) / 512 * 512) = 256 then 85 else 77) (lv' := [some (.ref v0), none, none, some (.ref 21), some (.ref 22), some (.int v5), some (.int v6), some (.int v7), some (.int ((S.2.1 (v0 + 4) v7.toNatClampNeg) - (S.2.1 (v0 + 4) v7.toNatClampNeg) / 512 * 512)), some (.int ((S.2.1 (v0 + 4) v7.toNatClampNeg) / 512)), none]) (st' := []) (h' := mkS x S) rfl ⟨(by decide), trivial⟩ ?_
      refine Ev.ite (fun c6 => ?_) (fun c6 => ?_)
      · rw [if_pos c6] at hm
        exact bpX9_reckon_T_21_22_85 x k36 hk36 S v0 v5 v6 v7 ((S.2.1 (v0 + 4) v7.toNatClampNeg) - (S.2.1 (v0 + 4) v7.toNatClampNeg) / 512 * 512) ((S.2.1 (v0 + 4) v7.toNatClampNeg) / 512) _ _ hm
      · rw [if_neg c6] at hm
        refine Ev.steps tokX9_reckon 3 (P := True) (pc' := if ¬ ((S.2.1 (v0 + 4) v7.toNatClampNeg) - (S.2.1 (v0 + 4) v7.toNatClampNeg) / 512 * 512) = 259 then 139 else 85) (lv' := [some (.ref v0), none, none, some (.ref 21), some (.ref 22), some (.int v5), some (.int v6), some (.int v7), some (.int ((S.2.1 (v0 + 4) v7.toNatClampNeg) - (S.2.1 (v0 + 4) v7.toNatClampNeg) / 512 * 512)), some (.int ((S.2.1 (v0 + 4) v7.toNatClampNeg) / 512)), none]) (st' := []) (h' := mkS x S) rfl trivial ?_
        refine Ev.ite (fun c7 => ?_) (fun c7 => ?_)
        · rw [if_pos c7] at hm
          refine Ev.steps tokX9_reckon 2 (P := True) (pc' := if 0 ≤ v6 then 147 else 144) (lv' := [some (.ref v0), none, none, some (.ref 21), some (.ref 22), some (.int v5), some (.int v6), some (.int v7), some (.int ((S.2.1 (v0 + 4) v7.toNatClampNeg) - (S.2.1 (v0 + 4) v7.toNatClampNeg) / 512 * 512)), some (.int ((S.2.1 (v0 + 4) v7.toNatClampNeg) / 512)), none]) (st' := []) (h' := mkS x S) rfl trivial ?_
          refine Ev.ite (fun c8 => ?_) (fun c8 => ?_)
          · rw [if_pos c8] at hm
            refine Ev.steps tokX9_reckon 3 (P := True) (pc' := if ¬ ((S.2.1 (v0 + 4) v7.toNatClampNeg) - (S.2.1 (v0 + 4) v7.toNatClampNeg) / 512 * 512) = 273 then 170 else 155) (lv' := [some (.ref v0), none, none, some (.ref 21), some (.ref 22), some (.int v5), some (.int v6), some (.int v7), some (.int ((S.2.1 (v0 + 4) v7.toNatClampNeg) - (S.2.1 (v0 + 4) v7.toNatClampNeg) / 512 * 512)), some (.int ((S.2.1 (v0 + 4) v7.toNatClampNeg) / 512)), none]) (st' := []) (h' := mkS x S) rfl trivial ?_
            refine Ev.ite (fun c9 => ?_) (fun c9 => ?_)
            · rw [if_pos c9] at hm
              refine Ev.steps tokX9_reckon 3 (P := True) (pc' := if ((S.2.1 (v0 + 4) v7.toNatClampNeg) - (S.2.1 (v0 + 4) v7.toNatClampNeg) / 512 * 512) = 271 then 186 else 178) (lv' := [some (.ref v0), none, none, some (.ref 21), some (.ref 22), some (.int v5), some (.int v6), some (.int v7), some (.int ((S.2.1 (v0 + 4) v7.toNatClampNeg) - (S.2.1 (v0 + 4) v7.toNatClampNeg) / 512 * 512)), some (.int ((S.2.1 (v0 + 4) v7.toNatClampNeg) / 512)), none]) (st' := []) (h' := mkS x S) rfl trivial ?_
              refine Ev.ite (fun c10 => ?_) (fun c10 => ?_)
              · rw [if_pos c10] at hm
                exact bpX9_reckon_T_21_22_186 x k36 hk36 S v0 v5 v6 v7 ((S.2.1 (v0 + 4) v7.toNatClampNeg) - (S.2.1 (v0 + 4) v7.toNatClampNeg) / 512 * 512) ((S.2.1 (v0 + 4) v7.toNatClampNeg) / 512) _ _ hm
              · rw [if_neg c10] at hm
                refine Ev.steps tokX9_reckon 3 (P := True) (pc' := if ¬ ((S.2.1 (v0 + 4) v7.toNatClampNeg) - (S.2.1 (v0 + 4) v7.toNatClampNeg) / 512 * 512) = 272 then 227 else 186) (lv' := [some (.ref v0), none, none, some (.ref 21), some (.ref 22), some (.int v5), some (.int v6), some (.int v7), some (.int ((S.2.1 (v0 + 4) v7.toNatClampNeg) - (S.2.1 (v0 + 4) v7.toNatClampNeg) / 512 * 512)), some (.int ((S.2.1 (v0 + 4) v7.toNatClampNeg) / 512)), none]) (st' := []) (h' := mkS x S) rfl trivial ?_
                refine Ev.ite (fun c11 => ?_) (fun c11 => ?_)
                · rw [if_pos c11] at hm
                  refine Ev.steps tokX9_reckon 3 (P := True) (pc' := if 0 ≤ (v6 + (-1)) then 240 else 235) (lv' := [some (.ref v0), none, none, some (.ref 21), some (.ref 22), some (.int v5), some (.int (v6 + (-1))), some (.int v7), some (.int ((S.2.1 (v0 + 4) v7.toNatClampNeg) - (S.2.1 (v0 + 4) v7.toNatClampNeg) / 512 * 512)), some (.int ((S.2.1 (v0 + 4) v7.toNatClampNeg) / 512)), none]) (st' := []) (h' := mkS x S) rfl trivial ?_
                  refine Ev.ite (fun c12 => ?_) (fun c12 => ?_)
                  · rw [if_pos c12] at hm
                    obtain ⟨o13, hm⟩ := oblk hm
                    obtain ⟨o14, hm⟩ := oblk hm
                    refine Ev.steps tokX9_reckon 11 (P := vp_in (v6 + (-1)) 50 ∧ vp_in ((v6 + (-1)) + 1) 50 ∧ True) (pc' := 256) (lv' := [some (.ref v0), none, none, some (.ref 21), some (.ref 22), some (.int v5), some (.int (v6 + (-1))), some (.int v7), some (.int ((S.2.1 (v0 + 4) v7.toNatClampNeg) - (S.2.1 (v0 + 4) v7.toNatClampNeg) / 512 * 512)), some (.int ((S.2.1 (v0 + 4) v7.toNatClampNeg) / 512)), none]) (st' := [.long ((S.2.1 22 (((v6 + (-1)) + 1).toNatClampNeg)).toInt64), .long ((S.2.1 22 ((v6 + (-1)).toNatClampNeg)).toInt64), .int ((S.2.1 (v0 + 4) v7.toNatClampNeg) - (S.2.1 (v0 + 4) v7.toNatClampNeg) / 512 * 512)]) (h' := mkS x S) rfl ⟨inb_ok o13, inb_ok o14, trivial⟩ ?_
                    cases h15 : gfX9_join x S ((S.2.1 (v0 + 4) v7.toNatClampNeg) - (S.2.1 (v0 + 4) v7.toNatClampNeg) / 512 * 512) ((S.2.1 22 ((v6 + (-1)).toNatClampNeg)).toInt64) ((S.2.1 22 (((v6 + (-1)) + 1).toNatClampNeg)).toInt64) with
                    | none => rw [h15] at hm; cases hm
                    | some q16 =>
                      obtain ⟨r17, S18⟩ := q16
                      rw [h15] at hm
                      dsimp only at hm
                      refine ev_callS (N := mX9_join) (d' := 1) (bc := 0) (bs := 0) (bc' := 0) (bs' := 0) (as := [.int ((S.2.1 (v0 + 4) v7.toNatClampNeg) - (S.2.1 (v0 + 4) v7.toNatClampNeg) / 512 * 512), .long ((S.2.1 22 ((v6 + (-1)).toNatClampNeg)).toInt64), .long ((S.2.1 22 (((v6 + (-1)) + 1).toNatClampNeg)).toInt64)]) (rest := []) (dcd tokX9_reckon rfl) okX9_join inX9_join lk9_50 rfl (by decide) (Nat.le_of_ble_eq_true rfl) (gpX9_join x S ((S.2.1 (v0 + 4) v7.toNatClampNeg) - (S.2.1 (v0 + 4) v7.toNatClampNeg) / 512 * 512) ((S.2.1 22 ((v6 + (-1)).toNatClampNeg)).toInt64) ((S.2.1 22 (((v6 + (-1)) + 1).toNatClampNeg)).toInt64) _ _ h15) (fun v h' hq hn => ?_)
                      obtain ⟨rfl, rfl⟩ := hq
                      refine Ev.fgt (lv' := [some (.ref v0), none, none, some (.ref 21), some (.ref 22), some (.int v5), some (.int (v6 + (-1))), some (.int v7), none, none, none]) ⟨rfl, rfl, rfl, rfl, rfl, rfl, trivial⟩ ?_
                      exact bpX9_reckon_T_21_22_259 x k36 hk36 S18 v0 v5 (v6 + (-1)) v7 r17 _ _ hm
                  · rw [if_neg c12] at hm
                    refine Ev.steps tokX9_reckon 2 (P := True) (pc' := 259) (lv' := [some (.ref v0), none, none, some (.ref 21), some (.ref 22), some (.int v5), some (.int (v6 + (-1))), some (.int v7), some (.int ((S.2.1 (v0 + 4) v7.toNatClampNeg) - (S.2.1 (v0 + 4) v7.toNatClampNeg) / 512 * 512)), some (.int ((S.2.1 (v0 + 4) v7.toNatClampNeg) / 512)), none]) (st' := [.int (-2000000000)]) (h' := mkS x S) rfl trivial ?_
                    refine Ev.fgt (lv' := [some (.ref v0), none, none, some (.ref 21), some (.ref 22), some (.int v5), some (.int (v6 + (-1))), some (.int v7), none, none, none]) ⟨rfl, rfl, rfl, rfl, rfl, rfl, trivial⟩ ?_
                    exact bpX9_reckon_T_21_22_259 x k36 hk36 S v0 v5 (v6 + (-1)) v7 (-2000000000) _ _ hm
                · rw [if_neg c11] at hm
                  exact bpX9_reckon_T_21_22_186 x k36 hk36 S v0 v5 v6 v7 ((S.2.1 (v0 + 4) v7.toNatClampNeg) - (S.2.1 (v0 + 4) v7.toNatClampNeg) / 512 * 512) ((S.2.1 (v0 + 4) v7.toNatClampNeg) / 512) _ _ hm
            · rw [if_neg c9] at hm
              obtain ⟨o19, hm⟩ := oblk hm
              obtain ⟨o20, hm⟩ := oblk hm
              refine Ev.steps tokX9_reckon 9 (P := vp_in v6 50 ∧ vp_in v6 50 ∧ True) (pc' := 278) (lv' := [some (.ref v0), none, none, some (.ref 21), some (.ref 22), some (.int v5), some (.int v6), some (.int v7), some (.int ((S.2.1 (v0 + 4) v7.toNatClampNeg) - (S.2.1 (v0 + 4) v7.toNatClampNeg) / 512 * 512)), some (.int ((S.2.1 (v0 + 4) v7.toNatClampNeg) / 512)), none]) (st' := []) (h' := mkS x (S.1, (u2 S.2.1 22 v6.toNatClampNeg (1 - (S.2.1 22 v6.toNatClampNeg))), S.2.2.1, S.2.2.2)) rfl ⟨inb_ok o19, inb_ok o20, trivial⟩ ?_
              refine Ev.fgt (lv' := [some (.ref v0), none, none, some (.ref 21), some (.ref 22), some (.int v5), some (.int v6), some (.int v7), none, none, none]) ⟨rfl, rfl, rfl, rfl, rfl, rfl, trivial⟩ ?_
              exact bpX9_reckon_T_21_22_278 x k36 hk36 (S.1, (u2 S.2.1 22 v6.toNatClampNeg (1 - (S.2.1 22 v6.toNatClampNeg))), S.2.2.1, S.2.2.2) v0 v5 v6 v7 _ _ hm
          · rw [if_neg c8] at hm
            refine Ev.steps tokX9_reckon 1 (P := True) (pc' := 146) (lv' := [some (.ref v0), none, none, some (.ref 21), some (.ref 22), some (.int v5), some (.int v6), some (.int v7), some (.int ((S.2.1 (v0 + 4) v7.toNatClampNeg) - (S.2.1 (v0 + 4) v7.toNatClampNeg) / 512 * 512)), some (.int ((S.2.1 (v0 + 4) v7.toNatClampNeg) / 512)), none]) (st' := [.int (-2000000000)]) (h' := mkS x S) rfl trivial ?_
            cases hm
            exact Ev.reti tokX9_reckon rfl rfl ⟨rfl, rfl⟩
        · rw [if_neg c7] at hm
          exact bpX9_reckon_T_21_22_85 x k36 hk36 S v0 v5 v6 v7 ((S.2.1 (v0 + 4) v7.toNatClampNeg) - (S.2.1 (v0 + 4) v7.toNatClampNeg) / 512 * 512) ((S.2.1 (v0 + 4) v7.toNatClampNeg) / 512) _ _ hm
theorem lpX9_reckon_T_21_22_36 (x : XT)  : ∀ (n : Nat) (S : ST) (v0 : Nat) (v5 : Int32) (v6 : Int32) (v7 : Int32) (r : Int32) (S' : ST), lfX9_reckon_T_21_22_36 x  n S v0 v5 v6 v7 = some (r, S') → Ev mX9_reckon 2 0 0 36 [some (.ref v0), none, none, some (.ref 21), some (.ref 22), some (.int v5), some (.int v6), some (.int v7), none, none, none] [] (mkS x S) (fun v h => v = some (.int r) ∧ h = mkS x S')
  | 0, _, _, _, _, _, _, _, hm => by cases hm
  | n + 1, S, v0, v5, v6, v7, r, S', hm => bpX9_reckon_T_21_22_36 x (lfX9_reckon_T_21_22_36 x  n) (lpX9_reckon_T_21_22_36 x  n) S v0 v5 v6 v7 r S' hm
set_option maxHeartbeats 4000000 in
set_option maxRecDepth 20000 in
theorem bpX9_reckon_T_21_22_0 (x : XT)  (S : ST) (p0 : Nat) (p1 : Int32) (p2 : Int32) (r : Int32) (S' : ST) (hm : bfX9_reckon_T_21_22_0 x  S p0 p1 p2 = some (r, S')) : Ev mX9_reckon 2 0 0 0 [some (.ref p0), some (.int p1), some (.int p2), some (.ref 21), some (.ref 22), none, none, none, none, none, none] [] (mkS x S) (fun v h => v = some (.int r) ∧ h = mkS x S') := by
    unfold bfX9_reckon_T_21_22_0 at hm
    obtain ⟨o1, hm⟩ := oblk hm
    obtain ⟨f9_p0, r2_p0, r3_p0, r4_p0, r5_p0, a1_p0, a2_p0, a3_p0, a4_p0⟩ := tx_ok o1
    refine Ev.steps tokX9_reckon 1 (P := True) (pc' := 1) (lv' := [some (.ref p0), some (.int p1), some (.int p2), some (.ref 21), some (.ref 22), none, none, none, none, none, none]) (st' := [.ref p0]) (h' := mkS x S) rfl trivial ?_
    refine ev_getR (dcd tokX9_reckon rfl) rfl f9_p0 rfl r4_p0 ?_
    refine Ev.steps tokX9_reckon 7 (P := True) (pc' := 11) (lv' := [some (.ref p0), some (.int p1), some (.int p2), some (.ref 21), some (.ref 22), none, none, none, none, none, none]) (st' := [.int (((4 * p1) + p2) + 1), .ref (p0 + 3)]) (h' := mkS x S) rfl trivial ?_
    obtain ⟨o2, hm⟩ := oblk hm
    refine ev_iald (dcd tokX9_reckon rfl) a3_p0 (inb_ok o2) ?_
    refine Ev.steps tokX9_reckon 1 (P := True) (pc' := 13) (lv' := [some (.ref p0), some (.int p1), some (.int p2), some (.ref 21), some (.ref 22), none, none, none, none, none, none]) (st' := [.ref p0, .int (S.2.1 (p0 + 3) ((((4 * p1) + p2) + 1).toNatClampNeg))]) (h' := mkS x S) rfl trivial ?_
    refine ev_getI (dcd tokX9_reckon rfl) rfl f9_p0 rfl ?_
    refine ev_min (dcd tokX9_reckon rfl) lk9_40 mt_min.1 mt_in.1 mt_min.2 (by decide) (Nat.le_of_ble_eq_true rfl) ?_
    refine Ev.steps tokX9_reckon 4 (P := True) (pc' := 25) (lv' := [some (.ref p0), some (.int p1), some (.int p2), some (.ref 21), some (.ref 22), some (.int (if (S.1 p0 1) < (S.2.1 (p0 + 3) ((((4 * p1) + p2) + 1).toNatClampNeg)) then (S.1 p0 1) else (S.2.1 (p0 + 3) ((((4 * p1) + p2) + 1).toNatClampNeg)))), some (.int (-1)), none, none, none, none]) (st' := [.ref p0]) (h' := mkS x S) rfl trivial ?_
    refine ev_getR (dcd tokX9_reckon rfl) rfl f9_p0 rfl r4_p0 ?_
    refine Ev.steps tokX9_reckon 5 (P := True) (pc' := 33) (lv' := [some (.ref p0), some (.int p1), some (.int p2), some (.ref 21), some (.ref 22), some (.int (if (S.1 p0 1) < (S.2.1 (p0 + 3) ((((4 * p1) + p2) + 1).toNatClampNeg)) then (S.1 p0 1) else (S.2.1 (p0 + 3) ((((4 * p1) + p2) + 1).toNatClampNeg)))), some (.int (-1)), none, none, none, none]) (st' := [.int ((4 * p1) + p2), .ref (p0 + 3)]) (h' := mkS x S) rfl trivial ?_
    obtain ⟨o3, hm⟩ := oblk hm
    refine ev_iald (dcd tokX9_reckon rfl) a3_p0 (inb_ok o3) ?_
    refine Ev.steps tokX9_reckon 1 (P := True) (pc' := 36) (lv' := [some (.ref p0), some (.int p1), some (.int p2), some (.ref 21), some (.ref 22), some (.int (if (S.1 p0 1) < (S.2.1 (p0 + 3) ((((4 * p1) + p2) + 1).toNatClampNeg)) then (S.1 p0 1) else (S.2.1 (p0 + 3) ((((4 * p1) + p2) + 1).toNatClampNeg)))), some (.int (-1)), some (.int (S.2.1 (p0 + 3) (((4 * p1) + p2).toNatClampNeg))), none, none, none]) (st' := []) (h' := mkS x S) rfl trivial ?_
    refine Ev.fgt (lv' := [some (.ref p0), none, none, some (.ref 21), some (.ref 22), some (.int (if (S.1 p0 1) < (S.2.1 (p0 + 3) ((((4 * p1) + p2) + 1).toNatClampNeg)) then (S.1 p0 1) else (S.2.1 (p0 + 3) ((((4 * p1) + p2) + 1).toNatClampNeg)))), some (.int (-1)), some (.int (S.2.1 (p0 + 3) (((4 * p1) + p2).toNatClampNeg))), none, none, none]) ⟨rfl, rfl, rfl, rfl, rfl, rfl, trivial⟩ ?_
    exact lpX9_reckon_T_21_22_36 x  20000 S p0 (if (S.1 p0 1) < (S.2.1 (p0 + 3) ((((4 * p1) + p2) + 1).toNatClampNeg)) then (S.1 p0 1) else (S.2.1 (p0 + 3) ((((4 * p1) + p2) + 1).toNatClampNeg))) (-1) (S.2.1 (p0 + 3) (((4 * p1) + p2).toNatClampNeg)) _ _ hm
theorem gpX9_reckon_T_21_22 (x : XT) (S : ST) (p0 : Nat) (p1 : Int32) (p2 : Int32) (r : Int32) (S' : ST) (hm : gfX9_reckon_T_21_22 x S p0 p1 p2 = some (r, S')) : Ct mX9_reckon 2 0 0 [.ref p0, .int p1, .int p2, .ref 21, .ref 22] (mkS x S) (fun v h => v = some (.int r) ∧ h = mkS x S') :=
  Ct.of (lv := [some (.ref p0), some (.int p1), some (.int p2), some (.ref 21), some (.ref 22), none, none, none, none, none, none]) rfl rfl rfl (show (_ : Nat) ≤ _ from Nat.le_of_ble_eq_true rfl) (fun G => rfl) (bpX9_reckon_T_21_22_0 x S p0 p1 p2 r S' hm)
end MIR
