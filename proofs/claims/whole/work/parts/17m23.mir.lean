section MIR
set_option maxHeartbeats 4000000 in
set_option maxRecDepth 20000 in
theorem bpX11_fine_130_13 (x : XT)  (S : ST) (t0 : Int32) (r : Int32) (S' : ST) (hm : bfX11_fine_130_13 x  S t0 = some (r, S')) : Ev mX11_fine 1 0 0 13 [none] [.int t0] (mkS x S) (fun v h => v = some (.int r) ∧ h = mkS x S') := by
    unfold bfX11_fine_130_13 at hm
    obtain ⟨o1, hm⟩ := oblk hm
    cases hm
    exact Ev.retz tokX11_fine rfl rfl (bbz_ok o1) ⟨rfl, rfl⟩
set_option maxHeartbeats 4000000 in
set_option maxRecDepth 20000 in
theorem bpX11_fine_130_0 (x : XT)  (S : ST)  (r : Int32) (S' : ST) (hm : bfX11_fine_130_0 x  S  = some (r, S')) : Ev mX11_fine 1 0 0 0 [some (.ref 130)] [] (mkS x S) (fun v h => v = some (.int r) ∧ h = mkS x S') := by
    unfold bfX11_fine_130_0 at hm
    refine Ev.steps tokX11_fine 4 (P := True) (pc' := if ¬ (S.1 130 21) = (-1) then 12 else 8) (lv' := [some (.ref 130)]) (st' := []) (h' := mkS x S) rfl trivial ?_
    refine Ev.ite (fun c1 => ?_) (fun c1 => ?_)
    · rw [if_pos c1] at hm
      refine Ev.steps tokX11_fine 1 (P := True) (pc' := 13) (lv' := [some (.ref 130)]) (st' := [.int 0]) (h' := mkS x S) rfl trivial ?_
      refine Ev.fgt (lv' := [none]) trivial ?_
      exact bpX11_fine_130_13 x S 0 _ _ hm
    · rw [if_neg c1] at hm
      refine Ev.steps tokX11_fine 2 (P := True) (pc' := 13) (lv' := [some (.ref 130)]) (st' := [.int 1]) (h' := mkS x S) rfl trivial ?_
      refine Ev.fgt (lv' := [none]) trivial ?_
      exact bpX11_fine_130_13 x S 1 _ _ hm
theorem gpX11_fine_130 (x : XT) (S : ST)  (r : Int32) (S' : ST) (hm : gfX11_fine_130 x S  = some (r, S')) : Ct mX11_fine 1 0 0 [.ref 130] (mkS x S) (fun v h => v = some (.int r) ∧ h = mkS x S') :=
  Ct.of (lv := [some (.ref 130)]) rfl rfl rfl (show (_ : Nat) ≤ _ from Nat.le_of_ble_eq_true rfl) (fun G => rfl) (bpX11_fine_130_0 x S  r S' hm)
set_option maxHeartbeats 4000000 in
set_option maxRecDepth 20000 in
theorem bpX11_faults_130_20 (x : XT)  (S : ST)  (r : Unit) (S' : ST) (hm : bfX11_faults_130_20 x  S  = some (r, S')) : Ev mX11_faults 2 0 0 20 [none] [] (mkS x S) (fun v h => v = none ∧ h = mkS x S') := by
    unfold bfX11_faults_130_20 at hm
    cases hm
    exact Ev.retv tokX11_faults rfl rfl ⟨rfl, rfl⟩
set_option maxHeartbeats 4000000 in
set_option maxRecDepth 20000 in
theorem bpX11_faults_130_0 (x : XT)  (S : ST)  (r : Unit) (S' : ST) (hm : bfX11_faults_130_0 x  S  = some (r, S')) : Ev mX11_faults 2 0 0 0 [some (.ref 130)] [] (mkS x S) (fun v h => v = none ∧ h = mkS x S') := by
    unfold bfX11_faults_130_0 at hm
    refine Ev.steps tokX11_faults 1 (P := True) (pc' := 1) (lv' := [some (.ref 130)]) (st' := [.ref 130]) (h' := mkS x S) rfl trivial ?_
    cases h1 : gfX11_fine_130 x S with
    | none => rw [h1] at hm; cases hm
    | some q2 =>
      obtain ⟨r3, S4⟩ := q2
      rw [h1] at hm
      dsimp only at hm
      refine ev_callV (N := mX11_fine) (d' := 1) (bc := 0) (bs := 0) (bc' := 0) (bs' := 0) (as := []) (rest := []) (a := 130) (ci := 11) (dcd tokX11_faults rfl) okX11_fine inX11_fine seX11_fine lk11_202 rfl (by decide) (Nat.le_of_ble_eq_true rfl) rfl ⟨by decide, rfl⟩ (gpX11_fine_130 x S _ _ h1) (fun v h' hq hn => ?_)
      obtain ⟨rfl, rfl⟩ := hq
      refine Ev.steps tokX11_faults 1 (P := True) (pc' := if r3 = 0 then 20 else 7) (lv' := [some (.ref 130)]) (st' := []) (h' := mkS x S4) rfl trivial ?_
      refine Ev.ite (fun c5 => ?_) (fun c5 => ?_)
      · rw [if_pos c5] at hm
        refine Ev.fgt (lv' := [none]) trivial ?_
        exact bpX11_faults_130_20 x S4 _ _ hm
      · rw [if_neg c5] at hm
        obtain ⟨o6, hm⟩ := oblk hm
        refine Ev.steps tokX11_faults 7 (P := vp_in (S4.1 130 19) 401 ∧ True) (pc' := 20) (lv' := [some (.ref 130)]) (st' := []) (h' := mkS x ((u2 S4.1 130 21 (S4.2.1 141 ((S4.1 130 19).toNatClampNeg))), S4.2.1, S4.2.2.1, S4.2.2.2)) rfl ⟨inb_ok o6, trivial⟩ ?_
        refine Ev.fgt (lv' := [none]) trivial ?_
        exact bpX11_faults_130_20 x ((u2 S4.1 130 21 (S4.2.1 141 ((S4.1 130 19).toNatClampNeg))), S4.2.1, S4.2.2.1, S4.2.2.2) _ _ hm
theorem gpX11_faults_130 (x : XT) (S : ST)  (r : Unit) (S' : ST) (hm : gfX11_faults_130 x S  = some (r, S')) : Ct mX11_faults 2 0 0 [.ref 130] (mkS x S) (fun v h => v = none ∧ h = mkS x S') :=
  Ct.of (lv := [some (.ref 130)]) rfl rfl rfl (show (_ : Nat) ≤ _ from Nat.le_of_ble_eq_true rfl) (fun G => rfl) (bpX11_faults_130_0 x S  r S' hm)
set_option maxHeartbeats 4000000 in
set_option maxRecDepth 20000 in
theorem bpX11_takes0_130_40 (x : XT)  (S : ST) (v2 : Int32) (r : Int32) (S' : ST) (hm : bfX11_takes0_130_40 x  S v2 = some (r, S')) : Ev mX11_takes0 2 0 0 40 [none, none, some (.int v2)] [] (mkS x S) (fun v h => v = some (.int r) ∧ h = mkS x S') := by
    unfold bfX11_takes0_130_40 at hm
    refine Ev.steps tokX11_takes0 1 (P := True) (pc' := 41) (lv' := [none, none, some (.int v2)]) (st' := [.int v2]) (h' := mkS x S) rfl trivial ?_
    obtain ⟨o1, hm⟩ := oblk hm
    cases hm
    exact Ev.retz tokX11_takes0 rfl rfl (bbz_ok o1) ⟨rfl, rfl⟩
set_option maxHeartbeats 4000000 in
set_option maxRecDepth 20000 in
theorem bpX11_takes0_130_25 (x : XT)  (S : ST) (t0 : Int32) (r : Int32) (S' : ST) (hm : bfX11_takes0_130_25 x  S t0 = some (r, S')) : Ev mX11_takes0 2 0 0 25 [some (.ref 130), none, none] [.int t0] (mkS x S) (fun v h => v = some (.int r) ∧ h = mkS x S') := by
    unfold bfX11_takes0_130_25 at hm
    refine Ev.steps tokX11_takes0 3 (P := True) (pc' := if t0 = 0 then 40 else 30) (lv' := [some (.ref 130), none, some (.int t0)]) (st' := []) (h' := mkS x S) rfl trivial ?_
    refine Ev.ite (fun c1 => ?_) (fun c1 => ?_)
    · rw [if_pos c1] at hm
      refine Ev.fgt (lv' := [none, none, some (.int t0)]) ⟨rfl, trivial⟩ ?_
      exact bpX11_takes0_130_40 x S t0 _ _ hm
    · rw [if_neg c1] at hm
      refine Ev.steps tokX11_takes0 6 (P := True) (pc' := 40) (lv' := [some (.ref 130), none, some (.int t0)]) (st' := []) (h' := mkS x ((u2 S.1 130 19 ((S.1 130 19) + 1)), S.2.1, S.2.2.1, S.2.2.2)) rfl trivial ?_
      refine Ev.fgt (lv' := [none, none, some (.int t0)]) ⟨rfl, trivial⟩ ?_
      exact bpX11_takes0_130_40 x ((u2 S.1 130 19 ((S.1 130 19) + 1)), S.2.1, S.2.2.1, S.2.2.2) t0 _ _ hm
set_option maxHeartbeats 4000000 in
set_option maxRecDepth 20000 in
theorem bpX11_takes0_130_24 (x : XT)  (S : ST)  (r : Int32) (S' : ST) (hm : bfX11_takes0_130_24 x  S  = some (r, S')) : Ev mX11_takes0 2 0 0 24 [some (.ref 130), none, none] [] (mkS x S) (fun v h => v = some (.int r) ∧ h = mkS x S') := by
    unfold bfX11_takes0_130_24 at hm
    refine Ev.steps tokX11_takes0 1 (P := True) (pc' := 25) (lv' := [some (.ref 130), none, none]) (st' := [.int 0]) (h' := mkS x S) rfl trivial ?_
    exact bpX11_takes0_130_25 x S 0 _ _ hm
set_option maxHeartbeats 4000000 in
set_option maxRecDepth 20000 in
theorem bpX11_takes0_130_0 (x : XT)  (S : ST) (p1 : Int32) (r : Int32) (S' : ST) (hm : bfX11_takes0_130_0 x  S p1 = some (r, S')) : Ev mX11_takes0 2 0 0 0 [some (.ref 130), some (.int p1), none] [] (mkS x S) (fun v h => v = some (.int r) ∧ h = mkS x S') := by
    unfold bfX11_takes0_130_0 at hm
    refine Ev.steps tokX11_takes0 1 (P := True) (pc' := 1) (lv' := [some (.ref 130), some (.int p1), none]) (st' := [.ref 130]) (h' := mkS x S) rfl trivial ?_
    cases h1 : gfX11_fine_130 x S with
    | none => rw [h1] at hm; cases hm
    | some q2 =>
      obtain ⟨r3, S4⟩ := q2
      rw [h1] at hm
      dsimp only at hm
      refine ev_callV (N := mX11_fine) (d' := 1) (bc := 0) (bs := 0) (bc' := 0) (bs' := 0) (as := []) (rest := []) (a := 130) (ci := 11) (dcd tokX11_takes0 rfl) okX11_fine inX11_fine seX11_fine lk11_202 rfl (by decide) (Nat.le_of_ble_eq_true rfl) rfl ⟨by decide, rfl⟩ (gpX11_fine_130 x S _ _ h1) (fun v h' hq hn => ?_)
      obtain ⟨rfl, rfl⟩ := hq
      refine Ev.steps tokX11_takes0 1 (P := True) (pc' := if r3 = 0 then 24 else 7) (lv' := [some (.ref 130), some (.int p1), none]) (st' := []) (h' := mkS x S4) rfl trivial ?_
      refine Ev.ite (fun c5 => ?_) (fun c5 => ?_)
      · rw [if_pos c5] at hm
        refine Ev.fgt (lv' := [some (.ref 130), none, none]) ⟨rfl, trivial⟩ ?_
        exact bpX11_takes0_130_24 x S4 _ _ hm
      · rw [if_neg c5] at hm
        obtain ⟨o6, hm⟩ := oblk hm
        refine Ev.steps tokX11_takes0 7 (P := vp_in (S4.1 130 19) 401 ∧ True) (pc' := if ¬ (S4.2.1 139 ((S4.1 130 19).toNatClampNeg)) = p1 then 24 else 20) (lv' := [some (.ref 130), some (.int p1), none]) (st' := []) (h' := mkS x S4) rfl ⟨inb_ok o6, trivial⟩ ?_
        refine Ev.ite (fun c7 => ?_) (fun c7 => ?_)
        · rw [if_pos c7] at hm
          refine Ev.fgt (lv' := [some (.ref 130), none, none]) ⟨rfl, trivial⟩ ?_
          exact bpX11_takes0_130_24 x S4 _ _ hm
        · rw [if_neg c7] at hm
          refine Ev.steps tokX11_takes0 2 (P := True) (pc' := 25) (lv' := [some (.ref 130), some (.int p1), none]) (st' := [.int 1]) (h' := mkS x S4) rfl trivial ?_
          refine Ev.fgt (lv' := [some (.ref 130), none, none]) ⟨rfl, trivial⟩ ?_
          exact bpX11_takes0_130_25 x S4 1 _ _ hm
theorem gpX11_takes0_130 (x : XT) (S : ST) (p1 : Int32) (r : Int32) (S' : ST) (hm : gfX11_takes0_130 x S p1 = some (r, S')) : Ct mX11_takes0 2 0 0 [.ref 130, .int p1] (mkS x S) (fun v h => v = some (.int r) ∧ h = mkS x S') :=
  Ct.of (lv := [some (.ref 130), some (.int p1), none]) rfl rfl rfl (show (_ : Nat) ≤ _ from Nat.le_of_ble_eq_true rfl) (fun G => rfl) (bpX11_takes0_130_0 x S p1 r S' hm)
set_option maxHeartbeats 4000000 in
set_option maxRecDepth 20000 in
theorem bpX11_must_130_12 (x : XT)  (S : ST)  (r : Unit) (S' : ST) (hm : bfX11_must_130_12 x  S  = some (r, S')) : Ev mX11_must 3 0 0 12 [none, none] [] (mkS x S) (fun v h => v = none ∧ h = mkS x S') := by
    unfold bfX11_must_130_12 at hm
    cases hm
    exact Ev.retv tokX11_must rfl rfl ⟨rfl, rfl⟩
set_option maxHeartbeats 4000000 in
set_option maxRecDepth 20000 in
theorem bpX11_must_130_0 (x : XT)  (S : ST) (p1 : Int32) (r : Unit) (S' : ST) (hm : bfX11_must_130_0 x  S p1 = some (r, S')) : Ev mX11_must 3 0 0 0 [some (.ref 130), some (.int p1)] [] (mkS x S) (fun v h => v = none ∧ h = mkS x S') := by
    unfold bfX11_must_130_0 at hm
    refine Ev.steps tokX11_must 2 (P := True) (pc' := 2) (lv' := [some (.ref 130), some (.int p1)]) (st' := [.int p1, .ref 130]) (h' := mkS x S) rfl trivial ?_
    cases h1 : gfX11_takes0_130 x S p1 with
    | none => rw [h1] at hm; cases hm
    | some q2 =>
      obtain ⟨r3, S4⟩ := q2
      rw [h1] at hm
      dsimp only at hm
      refine ev_callV (N := mX11_takes0) (d' := 2) (bc := 0) (bs := 0) (bc' := 0) (bs' := 0) (as := [.int p1]) (rest := []) (a := 130) (ci := 11) (dcd tokX11_must rfl) okX11_takes0 inX11_takes0 seX11_takes0 lk11_208 rfl (by decide) (Nat.le_of_ble_eq_true rfl) rfl ⟨by decide, rfl⟩ (gpX11_takes0_130 x S p1 _ _ h1) (fun v h' hq hn => ?_)
      obtain ⟨rfl, rfl⟩ := hq
      refine Ev.steps tokX11_must 1 (P := True) (pc' := if ¬ r3 = 0 then 12 else 8) (lv' := [some (.ref 130), some (.int p1)]) (st' := []) (h' := mkS x S4) rfl trivial ?_
      refine Ev.ite (fun c5 => ?_) (fun c5 => ?_)
      · rw [if_pos c5] at hm
        refine Ev.fgt (lv' := [none, none]) trivial ?_
        exact bpX11_must_130_12 x S4 _ _ hm
      · rw [if_neg c5] at hm
        refine Ev.steps tokX11_must 1 (P := True) (pc' := 9) (lv' := [some (.ref 130), some (.int p1)]) (st' := [.ref 130]) (h' := mkS x S4) rfl trivial ?_
        cases h6 : gfX11_faults_130 x S4 with
        | none => rw [h6] at hm; cases hm
        | some q7 =>
          obtain ⟨r8, S9⟩ := q7
          rw [h6] at hm
          dsimp only at hm
          refine ev_callV (N := mX11_faults) (d' := 2) (bc := 0) (bs := 0) (bc' := 0) (bs' := 0) (as := []) (rest := []) (a := 130) (ci := 11) (dcd tokX11_must rfl) okX11_faults inX11_faults seX11_faults lk11_211 rfl (by decide) (Nat.le_of_ble_eq_true rfl) rfl ⟨by decide, rfl⟩ (gpX11_faults_130 x S4 _ _ h6) (fun v h' hq hn => ?_)
          obtain ⟨rfl, rfl⟩ := hq
          refine Ev.fgt (lv' := [none, none]) trivial ?_
          exact bpX11_must_130_12 x S9 _ _ hm
theorem gpX11_must_130 (x : XT) (S : ST) (p1 : Int32) (r : Unit) (S' : ST) (hm : gfX11_must_130 x S p1 = some (r, S')) : Ct mX11_must 3 0 0 [.ref 130, .int p1] (mkS x S) (fun v h => v = none ∧ h = mkS x S') :=
  Ct.of (lv := [some (.ref 130), some (.int p1)]) rfl rfl rfl (show (_ : Nat) ≤ _ from Nat.le_of_ble_eq_true rfl) (fun G => rfl) (bpX11_must_130_0 x S p1 r S' hm)
set_option maxHeartbeats 4000000 in
set_option maxRecDepth 20000 in
theorem bpX11_leaf_130_40 (x : XT)  (S : ST)  (r : Unit) (S' : ST) (hm : bfX11_leaf_130_40 x  S  = some (r, S')) : Ev mX11_leaf 3 0 0 40 [none] [] (mkS x S) (fun v h => v = none ∧ h = mkS x S') := by
    unfold bfX11_leaf_130_40 at hm
    cases hm
    exact Ev.retv tokX11_leaf rfl rfl ⟨rfl, rfl⟩
set_option maxHeartbeats 4000000 in
set_option maxRecDepth 20000 in
theorem bpX11_leaf_130_13 (x : XT)  (S : ST)  (r : Unit) (S' : ST) (hm : bfX11_leaf_130_13 x  S  = some (r, S')) : Ev mX11_leaf 3 0 0 13 [some (.ref 130)] [] (mkS x S) (fun v h => v = none ∧ h = mkS x S') := by
    unfold bfX11_leaf_130_13 at hm
    refine Ev.steps tokX11_leaf 7 (P := True) (pc' := 24) (lv' := [some (.ref 130)]) (st' := [.ref 130]) (h' := mkS x ((u2 S.1 130 20 ((S.1 130 20) + 1)), S.2.1, S.2.2.1, S.2.2.2)) rfl trivial ?_
    cases h1 : gfX11_fine_130 x ((u2 S.1 130 20 ((S.1 130 20) + 1)), S.2.1, S.2.2.1, S.2.2.2) with
    | none => rw [h1] at hm; cases hm
    | some q2 =>
      obtain ⟨r3, S4⟩ := q2
      rw [h1] at hm
      dsimp only at hm
      refine ev_callV (N := mX11_fine) (d' := 1) (bc := 0) (bs := 0) (bc' := 0) (bs' := 0) (as := []) (rest := []) (a := 130) (ci := 11) (dcd tokX11_leaf rfl) okX11_fine inX11_fine seX11_fine lk11_202 rfl (by decide) (Nat.le_of_ble_eq_true rfl) rfl ⟨by decide, rfl⟩ (gpX11_fine_130 x ((u2 S.1 130 20 ((S.1 130 20) + 1)), S.2.1, S.2.2.1, S.2.2.2) _ _ h1) (fun v h' hq hn => ?_)
      obtain ⟨rfl, rfl⟩ := hq
      refine Ev.steps tokX11_leaf 1 (P := True) (pc' := if r3 = 0 then 40 else 30) (lv' := [some (.ref 130)]) (st' := []) (h' := mkS x S4) rfl trivial ?_
      refine Ev.ite (fun c5 => ?_) (fun c5 => ?_)
      · rw [if_pos c5] at hm
        refine Ev.fgt (lv' := [none]) trivial ?_
        exact bpX11_leaf_130_40 x S4 _ _ hm
      · rw [if_neg c5] at hm
        refine Ev.steps tokX11_leaf 6 (P := True) (pc' := 40) (lv' := [some (.ref 130)]) (st' := []) (h' := mkS x ((u2 S4.1 130 19 ((S4.1 130 19) + 1)), S4.2.1, S4.2.2.1, S4.2.2.2)) rfl trivial ?_
        refine Ev.fgt (lv' := [none]) trivial ?_
        exact bpX11_leaf_130_40 x ((u2 S4.1 130 19 ((S4.1 130 19) + 1)), S4.2.1, S4.2.2.1, S4.2.2.2) _ _ hm
set_option maxHeartbeats 4000000 in
set_option maxRecDepth 20000 in
theorem bpX11_leaf_130_0 (x : XT)  (S : ST)  (r : Unit) (S' : ST) (hm : bfX11_leaf_130_0 x  S  = some (r, S')) : Ev mX11_leaf 3 0 0 0 [some (.ref 130)] [] (mkS x S) (fun v h => v = none ∧ h = mkS x S') := by
    unfold bfX11_leaf_130_0 at hm
    refine Ev.steps tokX11_leaf 4 (P := True) (pc' := if ¬ (S.1 130 20) = 50 then 13 else 9) (lv' := [some (.ref 130)]) (st' := []) (h' := mkS x S) rfl trivial ?_
    refine Ev.ite (fun c1 => ?_) (fun c1 => ?_)
    · rw [if_pos c1] at hm
      exact bpX11_leaf_130_13 x S _ _ hm
    · rw [if_neg c1] at hm
      refine Ev.steps tokX11_leaf 1 (P := True) (pc' := 10) (lv' := [some (.ref 130)]) (st' := [.ref 130]) (h' := mkS x S) rfl trivial ?_
      cases h2 : gfX11_faults_130 x S with
      | none => rw [h2] at hm; cases hm
      | some q3 =>
        obtain ⟨r4, S5⟩ := q3
        rw [h2] at hm
        dsimp only at hm
        refine ev_callV (N := mX11_faults) (d' := 2) (bc := 0) (bs := 0) (bc' := 0) (bs' := 0) (as := []) (rest := []) (a := 130) (ci := 11) (dcd tokX11_leaf rfl) okX11_faults inX11_faults seX11_faults lk11_211 rfl (by decide) (Nat.le_of_ble_eq_true rfl) rfl ⟨by decide, rfl⟩ (gpX11_faults_130 x S _ _ h2) (fun v h' hq hn => ?_)
        obtain ⟨rfl, rfl⟩ := hq
        exact bpX11_leaf_130_13 x S5 _ _ hm
theorem gpX11_leaf_130 (x : XT) (S : ST)  (r : Unit) (S' : ST) (hm : gfX11_leaf_130 x S  = some (r, S')) : Ct mX11_leaf 3 0 0 [.ref 130] (mkS x S) (fun v h => v = none ∧ h = mkS x S') :=
  Ct.of (lv := [some (.ref 130)]) rfl rfl rfl (show (_ : Nat) ≤ _ from Nat.le_of_ble_eq_true rfl) (fun G => rfl) (bpX11_leaf_130_0 x S  r S' hm)
set_option maxHeartbeats 4000000 in
set_option maxRecDepth 20000 in
theorem bpX11_mustNumber_130_59 (x : XT)  (S : ST)  (r : Unit) (S' : ST) (hm : bfX11_mustNumber_130_59 x  S  = some (r, S')) : Ev mX11_mustNumber 3 0 0 59 [none, none, none] [] (mkS x S) (fun v h => v = none ∧ h = mkS x S') := by
    unfold bfX11_mustNumber_130_59 at hm
    cases hm
    exact Ev.retv tokX11_mustNumber rfl rfl ⟨rfl, rfl⟩
set_option maxHeartbeats 4000000 in
set_option maxRecDepth 20000 in
theorem bpX11_mustNumber_130_42 (x : XT)  (S : ST)  (r : Unit) (S' : ST) (hm : bfX11_mustNumber_130_42 x  S  = some (r, S')) : Ev mX11_mustNumber 3 0 0 42 [some (.ref 130), none, none] [] (mkS x S) (fun v h => v = none ∧ h = mkS x S') := by
    unfold bfX11_mustNumber_130_42 at hm
    refine Ev.steps tokX11_mustNumber 1 (P := True) (pc' := 43) (lv' := [some (.ref 130), none, none]) (st' := [.ref 130]) (h' := mkS x S) rfl trivial ?_
    cases h1 : gfX11_fine_130 x S with
    | none => rw [h1] at hm; cases hm
    | some q2 =>
      obtain ⟨r3, S4⟩ := q2
      rw [h1] at hm
      dsimp only at hm
      refine ev_callV (N := mX11_fine) (d' := 1) (bc := 0) (bs := 0) (bc' := 0) (bs' := 0) (as := []) (rest := []) (a := 130) (ci := 11) (dcd tokX11_mustNumber rfl) okX11_fine inX11_fine seX11_fine lk11_202 rfl (by decide) (Nat.le_of_ble_eq_true rfl) rfl ⟨by decide, rfl⟩ (gpX11_fine_130 x S _ _ h1) (fun v h' hq hn => ?_)
      obtain ⟨rfl, rfl⟩ := hq
      refine Ev.steps tokX11_mustNumber 1 (P := True) (pc' := if r3 = 0 then 59 else 49) (lv' := [some (.ref 130), none, none]) (st' := []) (h' := mkS x S4) rfl trivial ?_
      refine Ev.ite (fun c5 => ?_) (fun c5 => ?_)
      · rw [if_pos c5] at hm
        refine Ev.fgt (lv' := [none, none, none]) trivial ?_
        exact bpX11_mustNumber_130_59 x S4 _ _ hm
      · rw [if_neg c5] at hm
        refine Ev.steps tokX11_mustNumber 6 (P := True) (pc' := 59) (lv' := [some (.ref 130), none, none]) (st' := []) (h' := mkS x ((u2 S4.1 130 19 ((S4.1 130 19) + 1)), S4.2.1, S4.2.2.1, S4.2.2.2)) rfl trivial ?_
        refine Ev.fgt (lv' := [none, none, none]) trivial ?_
        exact bpX11_mustNumber_130_59 x ((u2 S4.1 130 19 ((S4.1 130 19) + 1)), S4.2.1, S4.2.2.1, S4.2.2.2) _ _ hm
set_option maxHeartbeats 4000000 in
set_option maxRecDepth 20000 in
theorem bpX11_mustNumber_130_38 (x : XT)  (S : ST)  (r : Unit) (S' : ST) (hm : bfX11_mustNumber_130_38 x  S  = some (r, S')) : Ev mX11_mustNumber 3 0 0 38 [some (.ref 130), none, none] [] (mkS x S) (fun v h => v = none ∧ h = mkS x S') := by
    unfold bfX11_mustNumber_130_38 at hm
    refine Ev.steps tokX11_mustNumber 1 (P := True) (pc' := 39) (lv' := [some (.ref 130), none, none]) (st' := [.ref 130]) (h' := mkS x S) rfl trivial ?_
    cases h1 : gfX11_faults_130 x S with
    | none => rw [h1] at hm; cases hm
    | some q2 =>
      obtain ⟨r3, S4⟩ := q2
      rw [h1] at hm
      dsimp only at hm
      refine ev_callV (N := mX11_faults) (d' := 2) (bc := 0) (bs := 0) (bc' := 0) (bs' := 0) (as := []) (rest := []) (a := 130) (ci := 11) (dcd tokX11_mustNumber rfl) okX11_faults inX11_faults seX11_faults lk11_211 rfl (by decide) (Nat.le_of_ble_eq_true rfl) rfl ⟨by decide, rfl⟩ (gpX11_faults_130 x S _ _ h1) (fun v h' hq hn => ?_)
      obtain ⟨rfl, rfl⟩ := hq
      exact bpX11_mustNumber_130_42 x S4 _ _ hm
set_option maxHeartbeats 4000000 in
set_option maxRecDepth 20000 in
theorem bpX11_mustNumber_130_0 (x : XT)  (S : ST) (p1 : Int32) (p2 : Int32) (r : Unit) (S' : ST) (hm : bfX11_mustNumber_130_0 x  S p1 p2 = some (r, S')) : Ev mX11_mustNumber 3 0 0 0 [some (.ref 130), some (.int p1), some (.int p2)] [] (mkS x S) (fun v h => v = none ∧ h = mkS x S') := by
    unfold bfX11_mustNumber_130_0 at hm
    refine Ev.steps tokX11_mustNumber 1 (P := True) (pc' := 1) (lv' := [some (.ref 130), some (.int p1), some (.int p2)]) (st' := [.ref 130]) (h' := mkS x S) rfl trivial ?_
    cases h1 : gfX11_fine_130 x S with
    | none => rw [h1] at hm; cases hm
    | some q2 =>
      obtain ⟨r3, S4⟩ := q2
      rw [h1] at hm
      dsimp only at hm
      refine ev_callV (N := mX11_fine) (d' := 1) (bc := 0) (bs := 0) (bc' := 0) (bs' := 0) (as := []) (rest := []) (a := 130) (ci := 11) (dcd tokX11_mustNumber rfl) okX11_fine inX11_fine seX11_fine lk11_202 rfl (by decide) (Nat.le_of_ble_eq_true rfl) rfl ⟨by decide, rfl⟩ (gpX11_fine_130 x S _ _ h1) (fun v h' hq hn => ?_)
      obtain ⟨rfl, rfl⟩ := hq
      refine Ev.steps tokX11_mustNumber 1 (P := True) (pc' := if r3 = 0 then 42 else 7) (lv' := [some (.ref 130), some (.int p1), some (.int p2)]) (st' := []) (h' := mkS x S4) rfl trivial ?_
      refine Ev.ite (fun c5 => ?_) (fun c5 => ?_)
      · rw [if_pos c5] at hm
        refine Ev.fgt (lv' := [some (.ref 130), none, none]) ⟨rfl, trivial⟩ ?_
        exact bpX11_mustNumber_130_42 x S4 _ _ hm
      · rw [if_neg c5] at hm
        obtain ⟨o6, hm⟩ := oblk hm
        refine Ev.steps tokX11_mustNumber 7 (P := vp_in (S4.1 130 19) 401 ∧ True) (pc' := if ¬ (S4.2.1 139 ((S4.1 130 19).toNatClampNeg)) = 50 then 38 else 21) (lv' := [some (.ref 130), some (.int p1), some (.int p2)]) (st' := []) (h' := mkS x S4) rfl ⟨inb_ok o6, trivial⟩ ?_
        refine Ev.ite (fun c7 => ?_) (fun c7 => ?_)
        · rw [if_pos c7] at hm
          refine Ev.fgt (lv' := [some (.ref 130), none, none]) ⟨rfl, trivial⟩ ?_
          exact bpX11_mustNumber_130_38 x S4 _ _ hm
        · rw [if_neg c7] at hm
          obtain ⟨o8, hm⟩ := oblk hm
          refine Ev.steps tokX11_mustNumber 7 (P := vp_in (S4.1 130 19) 401 ∧ True) (pc' := 32) (lv' := [some (.ref 130), some (.int p1), some (.int p2)]) (st' := [.int p2, .int p1, .int (S4.2.1 140 ((S4.1 130 19).toNatClampNeg))]) (h' := mkS x S4) rfl ⟨inb_ok o8, trivial⟩ ?_
          cases h9 : gfX11_lies x S4 (S4.2.1 140 ((S4.1 130 19).toNatClampNeg)) p1 p2 with
          | none => rw [h9] at hm; cases hm
          | some q10 =>
            obtain ⟨r11, S12⟩ := q10
            rw [h9] at hm
            dsimp only at hm
            refine ev_callS (N := mX11_lies) (d' := 1) (bc := 0) (bs := 0) (bc' := 0) (bs' := 0) (as := [.int (S4.2.1 140 ((S4.1 130 19).toNatClampNeg)), .int p1, .int p2]) (rest := []) (dcd tokX11_mustNumber rfl) okX11_lies inX11_lies lk11_18 rfl (by decide) (Nat.le_of_ble_eq_true rfl) (gpX11_lies x S4 (S4.2.1 140 ((S4.1 130 19).toNatClampNeg)) p1 p2 _ _ h9) (fun v h' hq hn => ?_)
            obtain ⟨rfl, rfl⟩ := hq
            refine Ev.steps tokX11_mustNumber 1 (P := True) (pc' := if ¬ r11 = 0 then 42 else 38) (lv' := [some (.ref 130), some (.int p1), some (.int p2)]) (st' := []) (h' := mkS x S12) rfl trivial ?_
            refine Ev.ite (fun c13 => ?_) (fun c13 => ?_)
            · rw [if_pos c13] at hm
              refine Ev.fgt (lv' := [some (.ref 130), none, none]) ⟨rfl, trivial⟩ ?_
              exact bpX11_mustNumber_130_42 x S12 _ _ hm
            · rw [if_neg c13] at hm
              refine Ev.fgt (lv' := [some (.ref 130), none, none]) ⟨rfl, trivial⟩ ?_
              exact bpX11_mustNumber_130_38 x S12 _ _ hm
theorem gpX11_mustNumber_130 (x : XT) (S : ST) (p1 : Int32) (p2 : Int32) (r : Unit) (S' : ST) (hm : gfX11_mustNumber_130 x S p1 p2 = some (r, S')) : Ct mX11_mustNumber 3 0 0 [.ref 130, .int p1, .int p2] (mkS x S) (fun v h => v = none ∧ h = mkS x S') :=
  Ct.of (lv := [some (.ref 130), some (.int p1), some (.int p2)]) rfl rfl rfl (show (_ : Nat) ≤ _ from Nat.le_of_ble_eq_true rfl) (fun G => rfl) (bpX11_mustNumber_130_0 x S p1 p2 r S' hm)
set_option maxHeartbeats 4000000 in
set_option maxRecDepth 20000 in
theorem bpX11_readSum_130_29 (x : XT) {dd : Nat} (rec_X11_readSum : ST → Int32 → Option (Unit × ST)) (hrec_X11_readSum : ∀ (S : ST) (z0 : Int32) (r : Unit) (S' : ST), rec_X11_readSum S z0 = some (r, S') → Ct mX11_readSum dd 0 0 [.ref 130, .int z0] (mkS x S) (fun v h => v = none ∧ h = mkS x S')) (rec_X11_readTerm : ST → Int32 → Option (Unit × ST)) (hrec_X11_readTerm : ∀ (S : ST) (z0 : Int32) (r : Unit) (S' : ST), rec_X11_readTerm S z0 = some (r, S') → Ct mX11_readTerm dd 0 0 [.ref 130, .int z0] (mkS x S) (fun v h => v = none ∧ h = mkS x S')) (rec_X11_readPart : ST → Int32 → Option (Unit × ST)) (hrec_X11_readPart : ∀ (S : ST) (z0 : Int32) (r : Unit) (S' : ST), rec_X11_readPart S z0 = some (r, S') → Ct mX11_readPart dd 0 0 [.ref 130, .int z0] (mkS x S) (fun v h => v = none ∧ h = mkS x S')) (hB : 3 ≤ dd) (k5 : ST → Int32 → Option (Unit × ST)) (hk5 : ∀ (S : ST) (v1 : Int32) (r : Unit) (S' : ST), k5 S v1 = some (r, S') → Ev mX11_readSum (dd + 1) 0 0 5 [some (.ref 130), some (.int v1)] [] (mkS x S) (fun v h => v = none ∧ h = mkS x S')) (S : ST) (v1 : Int32) (r : Unit) (S' : ST) (hm : bfX11_readSum_130_29 x rec_X11_readSum rec_X11_readTerm rec_X11_readPart k5 S v1 = some (r, S')) : Ev mX11_readSum (dd + 1) 0 0 29 [some (.ref 130), some (.int v1)] [] (mkS x S) (fun v h => v = none ∧ h = mkS x S') := by
    unfold bfX11_readSum_130_29 at hm
    refine Ev.steps tokX11_readSum 2 (P := True) (pc' := 31) (lv' := [some (.ref 130), some (.int v1)]) (st' := [.int v1, .ref 130]) (h' := mkS x S) rfl trivial ?_
    cases h1 : rec_X11_readTerm S v1 with
    | none => rw [h1] at hm; cases hm
    | some q2 =>
      obtain ⟨r3, S4⟩ := q2
      rw [h1] at hm
      dsimp only at hm
      refine ev_callV (N := mX11_readTerm) (d' := dd) (bc := 0) (bs := 0) (bc' := 0) (bs' := 0) (as := [.int v1]) (rest := []) (a := 130) (ci := 11) (dcd tokX11_readSum rfl) okX11_readTerm inX11_readTerm seX11_readTerm lk11_254 rfl (by omega) (Nat.le_of_ble_eq_true rfl) rfl ⟨by decide, rfl⟩ (hrec_X11_readTerm S v1 _ _ h1) (fun v h' hq hn => ?_)
      obtain ⟨rfl, rfl⟩ := hq
      refine Ev.steps tokX11_readSum 1 (P := True) (pc' := 5) (lv' := [some (.ref 130), some (.int v1)]) (st' := []) (h' := mkS x S4) rfl trivial ?_
      exact hk5 S4 v1 _ _ hm
set_option maxHeartbeats 4000000 in
set_option maxRecDepth 20000 in
theorem bpX11_readSum_130_5 (x : XT) {dd : Nat} (rec_X11_readSum : ST → Int32 → Option (Unit × ST)) (hrec_X11_readSum : ∀ (S : ST) (z0 : Int32) (r : Unit) (S' : ST), rec_X11_readSum S z0 = some (r, S') → Ct mX11_readSum dd 0 0 [.ref 130, .int z0] (mkS x S) (fun v h => v = none ∧ h = mkS x S')) (rec_X11_readTerm : ST → Int32 → Option (Unit × ST)) (hrec_X11_readTerm : ∀ (S : ST) (z0 : Int32) (r : Unit) (S' : ST), rec_X11_readTerm S z0 = some (r, S') → Ct mX11_readTerm dd 0 0 [.ref 130, .int z0] (mkS x S) (fun v h => v = none ∧ h = mkS x S')) (rec_X11_readPart : ST → Int32 → Option (Unit × ST)) (hrec_X11_readPart : ∀ (S : ST) (z0 : Int32) (r : Unit) (S' : ST), rec_X11_readPart S z0 = some (r, S') → Ct mX11_readPart dd 0 0 [.ref 130, .int z0] (mkS x S) (fun v h => v = none ∧ h = mkS x S')) (hB : 3 ≤ dd) (k5 : ST → Int32 → Option (Unit × ST)) (hk5 : ∀ (S : ST) (v1 : Int32) (r : Unit) (S' : ST), k5 S v1 = some (r, S') → Ev mX11_readSum (dd + 1) 0 0 5 [some (.ref 130), some (.int v1)] [] (mkS x S) (fun v h => v = none ∧ h = mkS x S')) (S : ST) (v1 : Int32) (r : Unit) (S' : ST) (hm : bfX11_readSum_130_5 x rec_X11_readSum rec_X11_readTerm rec_X11_readPart k5 S v1 = some (r, S')) : Ev mX11_readSum (dd + 1) 0 0 5 [some (.ref 130), some (.int v1)] [] (mkS x S) (fun v h => v = none ∧ h = mkS x S') := by
    unfold bfX11_readSum_130_5 at hm
    refine Ev.steps tokX11_readSum 2 (P := True) (pc' := 8) (lv' := [some (.ref 130), some (.int v1)]) (st' := [.int 43, .ref 130]) (h' := mkS x S) rfl trivial ?_
    cases h1 : gfX11_sign x S 43 with
    | none => rw [h1] at hm; cases hm
    | some q2 =>
      obtain ⟨r3, S4⟩ := q2
      rw [h1] at hm
      dsimp only at hm
      refine ev_callS (N := mX11_sign) (d' := 1) (bc := 0) (bs := 0) (bc' := 0) (bs' := 0) (as := [.int 43]) (rest := [.ref 130]) (dcd tokX11_readSum rfl) okX11_sign inX11_sign lk11_250 rfl (by omega) (Nat.le_of_ble_eq_true rfl) (gpX11_sign x S 43 _ _ h1) (fun v h' hq hn => ?_)
      obtain ⟨rfl, rfl⟩ := hq
      cases h5 : gfX11_takes0_130 x S4 r3 with
      | none => rw [h5] at hm; cases hm
      | some q6 =>
        obtain ⟨r7, S8⟩ := q6
        rw [h5] at hm
        dsimp only at hm
        refine ev_callV (N := mX11_takes0) (d' := 2) (bc := 0) (bs := 0) (bc' := 0) (bs' := 0) (as := [.int r3]) (rest := []) (a := 130) (ci := 11) (dcd tokX11_readSum rfl) okX11_takes0 inX11_takes0 seX11_takes0 lk11_208 rfl (by omega) (Nat.le_of_ble_eq_true rfl) rfl ⟨by decide, rfl⟩ (gpX11_takes0_130 x S4 r3 _ _ h5) (fun v h' hq hn => ?_)
        obtain ⟨rfl, rfl⟩ := hq
        refine Ev.steps tokX11_readSum 1 (P := True) (pc' := if ¬ r7 = 0 then 29 else 17) (lv' := [some (.ref 130), some (.int v1)]) (st' := []) (h' := mkS x S8) rfl trivial ?_
        refine Ev.ite (fun c9 => ?_) (fun c9 => ?_)
        · rw [if_pos c9] at hm
          exact bpX11_readSum_130_29 x (dd := dd) rec_X11_readSum hrec_X11_readSum rec_X11_readTerm hrec_X11_readTerm rec_X11_readPart hrec_X11_readPart hB k5 hk5 S8 v1 _ _ hm
        · rw [if_neg c9] at hm
          refine Ev.steps tokX11_readSum 2 (P := True) (pc' := 20) (lv' := [some (.ref 130), some (.int v1)]) (st' := [.int 45, .ref 130]) (h' := mkS x S8) rfl trivial ?_
          cases h10 : gfX11_sign x S8 45 with
          | none => rw [h10] at hm; cases hm
          | some q11 =>
            obtain ⟨r12, S13⟩ := q11
            rw [h10] at hm
            dsimp only at hm
            refine ev_callS (N := mX11_sign) (d' := 1) (bc := 0) (bs := 0) (bc' := 0) (bs' := 0) (as := [.int 45]) (rest := [.ref 130]) (dcd tokX11_readSum rfl) okX11_sign inX11_sign lk11_250 rfl (by omega) (Nat.le_of_ble_eq_true rfl) (gpX11_sign x S8 45 _ _ h10) (fun v h' hq hn => ?_)
            obtain ⟨rfl, rfl⟩ := hq
            cases h14 : gfX11_takes0_130 x S13 r12 with
            | none => rw [h14] at hm; cases hm
            | some q15 =>
              obtain ⟨r16, S17⟩ := q15
              rw [h14] at hm
              dsimp only at hm
              refine ev_callV (N := mX11_takes0) (d' := 2) (bc := 0) (bs := 0) (bc' := 0) (bs' := 0) (as := [.int r12]) (rest := []) (a := 130) (ci := 11) (dcd tokX11_readSum rfl) okX11_takes0 inX11_takes0 seX11_takes0 lk11_208 rfl (by omega) (Nat.le_of_ble_eq_true rfl) rfl ⟨by decide, rfl⟩ (gpX11_takes0_130 x S13 r12 _ _ h14) (fun v h' hq hn => ?_)
              obtain ⟨rfl, rfl⟩ := hq
              refine Ev.steps tokX11_readSum 1 (P := True) (pc' := if r16 = 0 then 37 else 29) (lv' := [some (.ref 130), some (.int v1)]) (st' := []) (h' := mkS x S17) rfl trivial ?_
              refine Ev.ite (fun c18 => ?_) (fun c18 => ?_)
              · rw [if_pos c18] at hm
                cases hm
                exact Ev.retv tokX11_readSum rfl rfl ⟨rfl, rfl⟩
              · rw [if_neg c18] at hm
                exact bpX11_readSum_130_29 x (dd := dd) rec_X11_readSum hrec_X11_readSum rec_X11_readTerm hrec_X11_readTerm rec_X11_readPart hrec_X11_readPart hB k5 hk5 S17 v1 _ _ hm
theorem lpX11_readSum_130_5 (x : XT) {dd : Nat} (rec_X11_readSum : ST → Int32 → Option (Unit × ST)) (hrec_X11_readSum : ∀ (S : ST) (z0 : Int32) (r : Unit) (S' : ST), rec_X11_readSum S z0 = some (r, S') → Ct mX11_readSum dd 0 0 [.ref 130, .int z0] (mkS x S) (fun v h => v = none ∧ h = mkS x S')) (rec_X11_readTerm : ST → Int32 → Option (Unit × ST)) (hrec_X11_readTerm : ∀ (S : ST) (z0 : Int32) (r : Unit) (S' : ST), rec_X11_readTerm S z0 = some (r, S') → Ct mX11_readTerm dd 0 0 [.ref 130, .int z0] (mkS x S) (fun v h => v = none ∧ h = mkS x S')) (rec_X11_readPart : ST → Int32 → Option (Unit × ST)) (hrec_X11_readPart : ∀ (S : ST) (z0 : Int32) (r : Unit) (S' : ST), rec_X11_readPart S z0 = some (r, S') → Ct mX11_readPart dd 0 0 [.ref 130, .int z0] (mkS x S) (fun v h => v = none ∧ h = mkS x S')) (hB : 3 ≤ dd)  : ∀ (n : Nat) (S : ST) (v1 : Int32) (r : Unit) (S' : ST), lfX11_readSum_130_5 x rec_X11_readSum rec_X11_readTerm rec_X11_readPart  n S v1 = some (r, S') → Ev mX11_readSum (dd + 1) 0 0 5 [some (.ref 130), some (.int v1)] [] (mkS x S) (fun v h => v = none ∧ h = mkS x S')
  | 0, _, _, _, _, hm => by cases hm
  | n + 1, S, v1, r, S', hm => bpX11_readSum_130_5 x (dd := dd) rec_X11_readSum hrec_X11_readSum rec_X11_readTerm hrec_X11_readTerm rec_X11_readPart hrec_X11_readPart hB (lfX11_readSum_130_5 x rec_X11_readSum rec_X11_readTerm rec_X11_readPart  n) (lpX11_readSum_130_5 x (dd := dd) rec_X11_readSum hrec_X11_readSum rec_X11_readTerm hrec_X11_readTerm rec_X11_readPart hrec_X11_readPart hB  n) S v1 r S' hm
set_option maxHeartbeats 4000000 in
set_option maxRecDepth 20000 in
theorem bpX11_readSum_130_0 (x : XT) {dd : Nat} (rec_X11_readSum : ST → Int32 → Option (Unit × ST)) (hrec_X11_readSum : ∀ (S : ST) (z0 : Int32) (r : Unit) (S' : ST), rec_X11_readSum S z0 = some (r, S') → Ct mX11_readSum dd 0 0 [.ref 130, .int z0] (mkS x S) (fun v h => v = none ∧ h = mkS x S')) (rec_X11_readTerm : ST → Int32 → Option (Unit × ST)) (hrec_X11_readTerm : ∀ (S : ST) (z0 : Int32) (r : Unit) (S' : ST), rec_X11_readTerm S z0 = some (r, S') → Ct mX11_readTerm dd 0 0 [.ref 130, .int z0] (mkS x S) (fun v h => v = none ∧ h = mkS x S')) (rec_X11_readPart : ST → Int32 → Option (Unit × ST)) (hrec_X11_readPart : ∀ (S : ST) (z0 : Int32) (r : Unit) (S' : ST), rec_X11_readPart S z0 = some (r, S') → Ct mX11_readPart dd 0 0 [.ref 130, .int z0] (mkS x S) (fun v h => v = none ∧ h = mkS x S')) (hB : 3 ≤ dd)  (S : ST) (p1 : Int32) (r : Unit) (S' : ST) (hm : bfX11_readSum_130_0 x rec_X11_readSum rec_X11_readTerm rec_X11_readPart  S p1 = some (r, S')) : Ev mX11_readSum (dd + 1) 0 0 0 [some (.ref 130), some (.int p1)] [] (mkS x S) (fun v h => v = none ∧ h = mkS x S') := by
    unfold bfX11_readSum_130_0 at hm
    refine Ev.steps tokX11_readSum 2 (P := True) (pc' := 2) (lv' := [some (.ref 130), some (.int p1)]) (st' := [.int p1, .ref 130]) (h' := mkS x S) rfl trivial ?_
    cases h1 : rec_X11_readTerm S p1 with
    | none => rw [h1] at hm; cases hm
    | some q2 =>
      obtain ⟨r3, S4⟩ := q2
      rw [h1] at hm
      dsimp only at hm
      refine ev_callV (N := mX11_readTerm) (d' := dd) (bc := 0) (bs := 0) (bc' := 0) (bs' := 0) (as := [.int p1]) (rest := []) (a := 130) (ci := 11) (dcd tokX11_readSum rfl) okX11_readTerm inX11_readTerm seX11_readTerm lk11_254 rfl (by omega) (Nat.le_of_ble_eq_true rfl) rfl ⟨by decide, rfl⟩ (hrec_X11_readTerm S p1 _ _ h1) (fun v h' hq hn => ?_)
      obtain ⟨rfl, rfl⟩ := hq
      exact lpX11_readSum_130_5 x (dd := dd) rec_X11_readSum hrec_X11_readSum rec_X11_readTerm hrec_X11_readTerm rec_X11_readPart hrec_X11_readPart hB  20000 S4 p1 _ _ hm
theorem grpX11_readSum_130 (x : XT) {dd : Nat} (rec_X11_readSum : ST → Int32 → Option (Unit × ST)) (hrec_X11_readSum : ∀ (S : ST) (z0 : Int32) (r : Unit) (S' : ST), rec_X11_readSum S z0 = some (r, S') → Ct mX11_readSum dd 0 0 [.ref 130, .int z0] (mkS x S) (fun v h => v = none ∧ h = mkS x S')) (rec_X11_readTerm : ST → Int32 → Option (Unit × ST)) (hrec_X11_readTerm : ∀ (S : ST) (z0 : Int32) (r : Unit) (S' : ST), rec_X11_readTerm S z0 = some (r, S') → Ct mX11_readTerm dd 0 0 [.ref 130, .int z0] (mkS x S) (fun v h => v = none ∧ h = mkS x S')) (rec_X11_readPart : ST → Int32 → Option (Unit × ST)) (hrec_X11_readPart : ∀ (S : ST) (z0 : Int32) (r : Unit) (S' : ST), rec_X11_readPart S z0 = some (r, S') → Ct mX11_readPart dd 0 0 [.ref 130, .int z0] (mkS x S) (fun v h => v = none ∧ h = mkS x S')) (hB : 3 ≤ dd) (S : ST) (p1 : Int32) (r : Unit) (S' : ST) (hm : grfX11_readSum_130 x rec_X11_readSum rec_X11_readTerm rec_X11_readPart S p1 = some (r, S')) : Ct mX11_readSum (dd + 1) 0 0 [.ref 130, .int p1] (mkS x S) (fun v h => v = none ∧ h = mkS x S') :=
  Ct.of (lv := [some (.ref 130), some (.int p1)]) rfl rfl rfl (show (_ : Nat) ≤ _ from Nat.le_of_ble_eq_true rfl) (fun G => rfl) (bpX11_readSum_130_0 x (dd := dd) rec_X11_readSum hrec_X11_readSum rec_X11_readTerm hrec_X11_readTerm rec_X11_readPart hrec_X11_readPart hB S p1 r S' hm)
set_option maxHeartbeats 4000000 in
set_option maxRecDepth 20000 in
theorem bpX11_readTerm_130_41 (x : XT) {dd : Nat} (rec_X11_readSum : ST → Int32 → Option (Unit × ST)) (hrec_X11_readSum : ∀ (S : ST) (z0 : Int32) (r : Unit) (S' : ST), rec_X11_readSum S z0 = some (r, S') → Ct mX11_readSum dd 0 0 [.ref 130, .int z0] (mkS x S) (fun v h => v = none ∧ h = mkS x S')) (rec_X11_readTerm : ST → Int32 → Option (Unit × ST)) (hrec_X11_readTerm : ∀ (S : ST) (z0 : Int32) (r : Unit) (S' : ST), rec_X11_readTerm S z0 = some (r, S') → Ct mX11_readTerm dd 0 0 [.ref 130, .int z0] (mkS x S) (fun v h => v = none ∧ h = mkS x S')) (rec_X11_readPart : ST → Int32 → Option (Unit × ST)) (hrec_X11_readPart : ∀ (S : ST) (z0 : Int32) (r : Unit) (S' : ST), rec_X11_readPart S z0 = some (r, S') → Ct mX11_readPart dd 0 0 [.ref 130, .int z0] (mkS x S) (fun v h => v = none ∧ h = mkS x S')) (hB : 3 ≤ dd) (k5 : ST → Int32 → Option (Unit × ST)) (hk5 : ∀ (S : ST) (v1 : Int32) (r : Unit) (S' : ST), k5 S v1 = some (r, S') → Ev mX11_readTerm (dd + 1) 0 0 5 [some (.ref 130), some (.int v1)] [] (mkS x S) (fun v h => v = none ∧ h = mkS x S')) (S : ST) (v1 : Int32) (r : Unit) (S' : ST) (hm : bfX11_readTerm_130_41 x rec_X11_readSum rec_X11_readTerm rec_X11_readPart k5 S v1 = some (r, S')) : Ev mX11_readTerm (dd + 1) 0 0 41 [some (.ref 130), some (.int v1)] [] (mkS x S) (fun v h => v = none ∧ h = mkS x S') := by
    unfold bfX11_readTerm_130_41 at hm
    refine Ev.steps tokX11_readTerm 2 (P := True) (pc' := 43) (lv' := [some (.ref 130), some (.int v1)]) (st' := [.int v1, .ref 130]) (h' := mkS x S) rfl trivial ?_
    cases h1 : rec_X11_readPart S v1 with
    | none => rw [h1] at hm; cases hm
    | some q2 =>
      obtain ⟨r3, S4⟩ := q2
      rw [h1] at hm
      dsimp only at hm
      refine ev_callV (N := mX11_readPart) (d' := dd) (bc := 0) (bs := 0) (bc' := 0) (bs' := 0) (as := [.int v1]) (rest := []) (a := 130) (ci := 11) (dcd tokX11_readTerm rfl) okX11_readPart inX11_readPart seX11_readPart lk11_257 rfl (by omega) (Nat.le_of_ble_eq_true rfl) rfl ⟨by decide, rfl⟩ (hrec_X11_readPart S v1 _ _ h1) (fun v h' hq hn => ?_)
      obtain ⟨rfl, rfl⟩ := hq
      refine Ev.steps tokX11_readTerm 1 (P := True) (pc' := 5) (lv' := [some (.ref 130), some (.int v1)]) (st' := []) (h' := mkS x S4) rfl trivial ?_
      exact hk5 S4 v1 _ _ hm
set_option maxHeartbeats 4000000 in
set_option maxRecDepth 20000 in
theorem bpX11_readTerm_130_5 (x : XT) {dd : Nat} (rec_X11_readSum : ST → Int32 → Option (Unit × ST)) (hrec_X11_readSum : ∀ (S : ST) (z0 : Int32) (r : Unit) (S' : ST), rec_X11_readSum S z0 = some (r, S') → Ct mX11_readSum dd 0 0 [.ref 130, .int z0] (mkS x S) (fun v h => v = none ∧ h = mkS x S')) (rec_X11_readTerm : ST → Int32 → Option (Unit × ST)) (hrec_X11_readTerm : ∀ (S : ST) (z0 : Int32) (r : Unit) (S' : ST), rec_X11_readTerm S z0 = some (r, S') → Ct mX11_readTerm dd 0 0 [.ref 130, .int z0] (mkS x S) (fun v h => v = none ∧ h = mkS x S')) (rec_X11_readPart : ST → Int32 → Option (Unit × ST)) (hrec_X11_readPart : ∀ (S : ST) (z0 : Int32) (r : Unit) (S' : ST), rec_X11_readPart S z0 = some (r, S') → Ct mX11_readPart dd 0 0 [.ref 130, .int z0] (mkS x S) (fun v h => v = none ∧ h = mkS x S')) (hB : 3 ≤ dd) (k5 : ST → Int32 → Option (Unit × ST)) (hk5 : ∀ (S : ST) (v1 : Int32) (r : Unit) (S' : ST), k5 S v1 = some (r, S') → Ev mX11_readTerm (dd + 1) 0 0 5 [some (.ref 130), some (.int v1)] [] (mkS x S) (fun v h => v = none ∧ h = mkS x S')) (S : ST) (v1 : Int32) (r : Unit) (S' : ST) (hm : bfX11_readTerm_130_5 x rec_X11_readSum rec_X11_readTerm rec_X11_readPart k5 S v1 = some (r, S')) : Ev mX11_readTerm (dd + 1) 0 0 5 [some (.ref 130), some (.int v1)] [] (mkS x S) (fun v h => v = none ∧ h = mkS x S') := by
    unfold bfX11_readTerm_130_5 at hm
    refine Ev.steps tokX11_readTerm 2 (P := True) (pc' := 8) (lv' := [some (.ref 130), some (.int v1)]) (st' := [.int 42, .ref 130]) (h' := mkS x S) rfl trivial ?_
    cases h1 : gfX11_sign x S 42 with
    | none => rw [h1] at hm; cases hm
    | some q2 =>
      obtain ⟨r3, S4⟩ := q2
      rw [h1] at hm
      dsimp only at hm
      refine ev_callS (N := mX11_sign) (d' := 1) (bc := 0) (bs := 0) (bc' := 0) (bs' := 0) (as := [.int 42]) (rest := [.ref 130]) (dcd tokX11_readTerm rfl) okX11_sign inX11_sign lk11_250 rfl (by omega) (Nat.le_of_ble_eq_true rfl) (gpX11_sign x S 42 _ _ h1) (fun v h' hq hn => ?_)
      obtain ⟨rfl, rfl⟩ := hq
      cases h5 : gfX11_takes0_130 x S4 r3 with
      | none => rw [h5] at hm; cases hm
      | some q6 =>
        obtain ⟨r7, S8⟩ := q6
        rw [h5] at hm
        dsimp only at hm
        refine ev_callV (N := mX11_takes0) (d' := 2) (bc := 0) (bs := 0) (bc' := 0) (bs' := 0) (as := [.int r3]) (rest := []) (a := 130) (ci := 11) (dcd tokX11_readTerm rfl) okX11_takes0 inX11_takes0 seX11_takes0 lk11_208 rfl (by omega) (Nat.le_of_ble_eq_true rfl) rfl ⟨by decide, rfl⟩ (gpX11_takes0_130 x S4 r3 _ _ h5) (fun v h' hq hn => ?_)
        obtain ⟨rfl, rfl⟩ := hq
        refine Ev.steps tokX11_readTerm 1 (P := True) (pc' := if ¬ r7 = 0 then 41 else 17) (lv' := [some (.ref 130), some (.int v1)]) (st' := []) (h' := mkS x S8) rfl trivial ?_
        refine Ev.ite (fun c9 => ?_) (fun c9 => ?_)
        · rw [if_pos c9] at hm
          exact bpX11_readTerm_130_41 x (dd := dd) rec_X11_readSum hrec_X11_readSum rec_X11_readTerm hrec_X11_readTerm rec_X11_readPart hrec_X11_readPart hB k5 hk5 S8 v1 _ _ hm
        · rw [if_neg c9] at hm
          refine Ev.steps tokX11_readTerm 2 (P := True) (pc' := 20) (lv' := [some (.ref 130), some (.int v1)]) (st' := [.int 47, .ref 130]) (h' := mkS x S8) rfl trivial ?_
          cases h10 : gfX11_sign x S8 47 with
          | none => rw [h10] at hm; cases hm
          | some q11 =>
            obtain ⟨r12, S13⟩ := q11
            rw [h10] at hm
            dsimp only at hm
            refine ev_callS (N := mX11_sign) (d' := 1) (bc := 0) (bs := 0) (bc' := 0) (bs' := 0) (as := [.int 47]) (rest := [.ref 130]) (dcd tokX11_readTerm rfl) okX11_sign inX11_sign lk11_250 rfl (by omega) (Nat.le_of_ble_eq_true rfl) (gpX11_sign x S8 47 _ _ h10) (fun v h' hq hn => ?_)
            obtain ⟨rfl, rfl⟩ := hq
            cases h14 : gfX11_takes0_130 x S13 r12 with
            | none => rw [h14] at hm; cases hm
            | some q15 =>
              obtain ⟨r16, S17⟩ := q15
              rw [h14] at hm
              dsimp only at hm
              refine ev_callV (N := mX11_takes0) (d' := 2) (bc := 0) (bs := 0) (bc' := 0) (bs' := 0) (as := [.int r12]) (rest := []) (a := 130) (ci := 11) (dcd tokX11_readTerm rfl) okX11_takes0 inX11_takes0 seX11_takes0 lk11_208 rfl (by omega) (Nat.le_of_ble_eq_true rfl) rfl ⟨by decide, rfl⟩ (gpX11_takes0_130 x S13 r12 _ _ h14) (fun v h' hq hn => ?_)
              obtain ⟨rfl, rfl⟩ := hq
              refine Ev.steps tokX11_readTerm 1 (P := True) (pc' := if ¬ r16 = 0 then 41 else 29) (lv' := [some (.ref 130), some (.int v1)]) (st' := []) (h' := mkS x S17) rfl trivial ?_
              refine Ev.ite (fun c18 => ?_) (fun c18 => ?_)
              · rw [if_pos c18] at hm
                exact bpX11_readTerm_130_41 x (dd := dd) rec_X11_readSum hrec_X11_readSum rec_X11_readTerm hrec_X11_readTerm rec_X11_readPart hrec_X11_readPart hB k5 hk5 S17 v1 _ _ hm
              · rw [if_neg c18] at hm
                refine Ev.steps tokX11_readTerm 2 (P := True) (pc' := 32) (lv' := [some (.ref 130), some (.int v1)]) (st' := [.int 37, .ref 130]) (h' := mkS x S17) rfl trivial ?_
                cases h19 : gfX11_sign x S17 37 with
                | none => rw [h19] at hm; cases hm
                | some q20 =>
                  obtain ⟨r21, S22⟩ := q20
                  rw [h19] at hm
                  dsimp only at hm
                  refine ev_callS (N := mX11_sign) (d' := 1) (bc := 0) (bs := 0) (bc' := 0) (bs' := 0) (as := [.int 37]) (rest := [.ref 130]) (dcd tokX11_readTerm rfl) okX11_sign inX11_sign lk11_250 rfl (by omega) (Nat.le_of_ble_eq_true rfl) (gpX11_sign x S17 37 _ _ h19) (fun v h' hq hn => ?_)
                  obtain ⟨rfl, rfl⟩ := hq
                  cases h23 : gfX11_takes0_130 x S22 r21 with
                  | none => rw [h23] at hm; cases hm
                  | some q24 =>
                    obtain ⟨r25, S26⟩ := q24
                    rw [h23] at hm
                    dsimp only at hm
                    refine ev_callV (N := mX11_takes0) (d' := 2) (bc := 0) (bs := 0) (bc' := 0) (bs' := 0) (as := [.int r21]) (rest := []) (a := 130) (ci := 11) (dcd tokX11_readTerm rfl) okX11_takes0 inX11_takes0 seX11_takes0 lk11_208 rfl (by omega) (Nat.le_of_ble_eq_true rfl) rfl ⟨by decide, rfl⟩ (gpX11_takes0_130 x S22 r21 _ _ h23) (fun v h' hq hn => ?_)
                    obtain ⟨rfl, rfl⟩ := hq
                    refine Ev.steps tokX11_readTerm 1 (P := True) (pc' := if r25 = 0 then 49 else 41) (lv' := [some (.ref 130), some (.int v1)]) (st' := []) (h' := mkS x S26) rfl trivial ?_
                    refine Ev.ite (fun c27 => ?_) (fun c27 => ?_)
                    · rw [if_pos c27] at hm
                      cases hm
                      exact Ev.retv tokX11_readTerm rfl rfl ⟨rfl, rfl⟩
                    · rw [if_neg c27] at hm
                      exact bpX11_readTerm_130_41 x (dd := dd) rec_X11_readSum hrec_X11_readSum rec_X11_readTerm hrec_X11_readTerm rec_X11_readPart hrec_X11_readPart hB k5 hk5 S26 v1 _ _ hm
theorem lpX11_readTerm_130_5 (x : XT) {dd : Nat} (rec_X11_readSum : ST → Int32 → Option (Unit × ST)) (hrec_X11_readSum : ∀ (S : ST) (z0 : Int32) (r : Unit) (S' : ST), rec_X11_readSum S z0 = some (r, S') → Ct mX11_readSum dd 0 0 [.ref 130, .int z0] (mkS x S) (fun v h => v = none ∧ h = mkS x S')) (rec_X11_readTerm : ST → Int32 → Option (Unit × ST)) (hrec_X11_readTerm : ∀ (S : ST) (z0 : Int32) (r : Unit) (S' : ST), rec_X11_readTerm S z0 = some (r, S') → Ct mX11_readTerm dd 0 0 [.ref 130, .int z0] (mkS x S) (fun v h => v = none ∧ h = mkS x S')) (rec_X11_readPart : ST → Int32 → Option (Unit × ST)) (hrec_X11_readPart : ∀ (S : ST) (z0 : Int32) (r : Unit) (S' : ST), rec_X11_readPart S z0 = some (r, S') → Ct mX11_readPart dd 0 0 [.ref 130, .int z0] (mkS x S) (fun v h => v = none ∧ h = mkS x S')) (hB : 3 ≤ dd)  : ∀ (n : Nat) (S : ST) (v1 : Int32) (r : Unit) (S' : ST), lfX11_readTerm_130_5 x rec_X11_readSum rec_X11_readTerm rec_X11_readPart  n S v1 = some (r, S') → Ev mX11_readTerm (dd + 1) 0 0 5 [some (.ref 130), some (.int v1)] [] (mkS x S) (fun v h => v = none ∧ h = mkS x S')
  | 0, _, _, _, _, hm => by cases hm
  | n + 1, S, v1, r, S', hm => bpX11_readTerm_130_5 x (dd := dd) rec_X11_readSum hrec_X11_readSum rec_X11_readTerm hrec_X11_readTerm rec_X11_readPart hrec_X11_readPart hB (lfX11_readTerm_130_5 x rec_X11_readSum rec_X11_readTerm rec_X11_readPart  n) (lpX11_readTerm_130_5 x (dd := dd) rec_X11_readSum hrec_X11_readSum rec_X11_readTerm hrec_X11_readTerm rec_X11_readPart hrec_X11_readPart hB  n) S v1 r S' hm
set_option maxHeartbeats 4000000 in
set_option maxRecDepth 20000 in
theorem bpX11_readTerm_130_0 (x : XT) {dd : Nat} (rec_X11_readSum : ST → Int32 → Option (Unit × ST)) (hrec_X11_readSum : ∀ (S : ST) (z0 : Int32) (r : Unit) (S' : ST), rec_X11_readSum S z0 = some (r, S') → Ct mX11_readSum dd 0 0 [.ref 130, .int z0] (mkS x S) (fun v h => v = none ∧ h = mkS x S')) (rec_X11_readTerm : ST → Int32 → Option (Unit × ST)) (hrec_X11_readTerm : ∀ (S : ST) (z0 : Int32) (r : Unit) (S' : ST), rec_X11_readTerm S z0 = some (r, S') → Ct mX11_readTerm dd 0 0 [.ref 130, .int z0] (mkS x S) (fun v h => v = none ∧ h = mkS x S')) (rec_X11_readPart : ST → Int32 → Option (Unit × ST)) (hrec_X11_readPart : ∀ (S : ST) (z0 : Int32) (r : Unit) (S' : ST), rec_X11_readPart S z0 = some (r, S') → Ct mX11_readPart dd 0 0 [.ref 130, .int z0] (mkS x S) (fun v h => v = none ∧ h = mkS x S')) (hB : 3 ≤ dd)  (S : ST) (p1 : Int32) (r : Unit) (S' : ST) (hm : bfX11_readTerm_130_0 x rec_X11_readSum rec_X11_readTerm rec_X11_readPart  S p1 = some (r, S')) : Ev mX11_readTerm (dd + 1) 0 0 0 [some (.ref 130), some (.int p1)] [] (mkS x S) (fun v h => v = none ∧ h = mkS x S') := by
    unfold bfX11_readTerm_130_0 at hm
    refine Ev.steps tokX11_readTerm 2 (P := True) (pc' := 2) (lv' := [some (.ref 130), some (.int p1)]) (st' := [.int p1, .ref 130]) (h' := mkS x S) rfl trivial ?_
    cases h1 : rec_X11_readPart S p1 with
    | none => rw [h1] at hm; cases hm
    | some q2 =>
      obtain ⟨r3, S4⟩ := q2
      rw [h1] at hm
      dsimp only at hm
      refine ev_callV (N := mX11_readPart) (d' := dd) (bc := 0) (bs := 0) (bc' := 0) (bs' := 0) (as := [.int p1]) (rest := []) (a := 130) (ci := 11) (dcd tokX11_readTerm rfl) okX11_readPart inX11_readPart seX11_readPart lk11_257 rfl (by omega) (Nat.le_of_ble_eq_true rfl) rfl ⟨by decide, rfl⟩ (hrec_X11_readPart S p1 _ _ h1) (fun v h' hq hn => ?_)
      obtain ⟨rfl, rfl⟩ := hq
      exact lpX11_readTerm_130_5 x (dd := dd) rec_X11_readSum hrec_X11_readSum rec_X11_readTerm hrec_X11_readTerm rec_X11_readPart hrec_X11_readPart hB  20000 S4 p1 _ _ hm
theorem grpX11_readTerm_130 (x : XT) {dd : Nat} (rec_X11_readSum : ST → Int32 → Option (Unit × ST)) (hrec_X11_readSum : ∀ (S : ST) (z0 : Int32) (r : Unit) (S' : ST), rec_X11_readSum S z0 = some (r, S') → Ct mX11_readSum dd 0 0 [.ref 130, .int z0] (mkS x S) (fun v h => v = none ∧ h = mkS x S')) (rec_X11_readTerm : ST → Int32 → Option (Unit × ST)) (hrec_X11_readTerm : ∀ (S : ST) (z0 : Int32) (r : Unit) (S' : ST), rec_X11_readTerm S z0 = some (r, S') → Ct mX11_readTerm dd 0 0 [.ref 130, .int z0] (mkS x S) (fun v h => v = none ∧ h = mkS x S')) (rec_X11_readPart : ST → Int32 → Option (Unit × ST)) (hrec_X11_readPart : ∀ (S : ST) (z0 : Int32) (r : Unit) (S' : ST), rec_X11_readPart S z0 = some (r, S') → Ct mX11_readPart dd 0 0 [.ref 130, .int z0] (mkS x S) (fun v h => v = none ∧ h = mkS x S')) (hB : 3 ≤ dd) (S : ST) (p1 : Int32) (r : Unit) (S' : ST) (hm : grfX11_readTerm_130 x rec_X11_readSum rec_X11_readTerm rec_X11_readPart S p1 = some (r, S')) : Ct mX11_readTerm (dd + 1) 0 0 [.ref 130, .int p1] (mkS x S) (fun v h => v = none ∧ h = mkS x S') :=
  Ct.of (lv := [some (.ref 130), some (.int p1)]) rfl rfl rfl (show (_ : Nat) ≤ _ from Nat.le_of_ble_eq_true rfl) (fun G => rfl) (bpX11_readTerm_130_0 x (dd := dd) rec_X11_readSum hrec_X11_readSum rec_X11_readTerm hrec_X11_readTerm rec_X11_readPart hrec_X11_readPart hB S p1 r S' hm)
set_option maxHeartbeats 4000000 in
set_option maxRecDepth 20000 in
theorem bpX11_readPart_130_167 (x : XT) {dd : Nat} (rec_X11_readSum : ST → Int32 → Option (Unit × ST)) (hrec_X11_readSum : ∀ (S : ST) (z0 : Int32) (r : Unit) (S' : ST), rec_X11_readSum S z0 = some (r, S') → Ct mX11_readSum dd 0 0 [.ref 130, .int z0] (mkS x S) (fun v h => v = none ∧ h = mkS x S')) (rec_X11_readTerm : ST → Int32 → Option (Unit × ST)) (hrec_X11_readTerm : ∀ (S : ST) (z0 : Int32) (r : Unit) (S' : ST), rec_X11_readTerm S z0 = some (r, S') → Ct mX11_readTerm dd 0 0 [.ref 130, .int z0] (mkS x S) (fun v h => v = none ∧ h = mkS x S')) (rec_X11_readPart : ST → Int32 → Option (Unit × ST)) (hrec_X11_readPart : ∀ (S : ST) (z0 : Int32) (r : Unit) (S' : ST), rec_X11_readPart S z0 = some (r, S') → Ct mX11_readPart dd 0 0 [.ref 130, .int z0] (mkS x S) (fun v h => v = none ∧ h = mkS x S')) (hB : 3 ≤ dd)  (S : ST)  (r : Unit) (S' : ST) (hm : bfX11_readPart_130_167 x rec_X11_readSum rec_X11_readTerm rec_X11_readPart  S  = some (r, S')) : Ev mX11_readPart (dd + 1) 0 0 167 [none, none, none] [] (mkS x S) (fun v h => v = none ∧ h = mkS x S') := by
    unfold bfX11_readPart_130_167 at hm
    cases hm
    exact Ev.retv tokX11_readPart rfl rfl ⟨rfl, rfl⟩
set_option maxHeartbeats 4000000 in
set_option maxRecDepth 20000 in
theorem bpX11_readPart_130_163 (x : XT) {dd : Nat} (rec_X11_readSum : ST → Int32 → Option (Unit × ST)) (hrec_X11_readSum : ∀ (S : ST) (z0 : Int32) (r : Unit) (S' : ST), rec_X11_readSum S z0 = some (r, S') → Ct mX11_readSum dd 0 0 [.ref 130, .int z0] (mkS x S) (fun v h => v = none ∧ h = mkS x S')) (rec_X11_readTerm : ST → Int32 → Option (Unit × ST)) (hrec_X11_readTerm : ∀ (S : ST) (z0 : Int32) (r : Unit) (S' : ST), rec_X11_readTerm S z0 = some (r, S') → Ct mX11_readTerm dd 0 0 [.ref 130, .int z0] (mkS x S) (fun v h => v = none ∧ h = mkS x S')) (rec_X11_readPart : ST → Int32 → Option (Unit × ST)) (hrec_X11_readPart : ∀ (S : ST) (z0 : Int32) (r : Unit) (S' : ST), rec_X11_readPart S z0 = some (r, S') → Ct mX11_readPart dd 0 0 [.ref 130, .int z0] (mkS x S) (fun v h => v = none ∧ h = mkS x S')) (hB : 3 ≤ dd)  (S : ST)  (r : Unit) (S' : ST) (hm : bfX11_readPart_130_163 x rec_X11_readSum rec_X11_readTerm rec_X11_readPart  S  = some (r, S')) : Ev mX11_readPart (dd + 1) 0 0 163 [some (.ref 130), none, none] [] (mkS x S) (fun v h => v = none ∧ h = mkS x S') := by
    unfold bfX11_readPart_130_163 at hm
    refine Ev.steps tokX11_readPart 1 (P := True) (pc' := 164) (lv' := [some (.ref 130), none, none]) (st' := [.ref 130]) (h' := mkS x S) rfl trivial ?_
    cases h1 : gfX11_faults_130 x S with
    | none => rw [h1] at hm; cases hm
    | some q2 =>
      obtain ⟨r3, S4⟩ := q2
      rw [h1] at hm
      dsimp only at hm
      refine ev_callV (N := mX11_faults) (d' := 2) (bc := 0) (bs := 0) (bc' := 0) (bs' := 0) (as := []) (rest := []) (a := 130) (ci := 11) (dcd tokX11_readPart rfl) okX11_faults inX11_faults seX11_faults lk11_211 rfl (by omega) (Nat.le_of_ble_eq_true rfl) rfl ⟨by decide, rfl⟩ (gpX11_faults_130 x S _ _ h1) (fun v h' hq hn => ?_)
      obtain ⟨rfl, rfl⟩ := hq
      refine Ev.fgt (lv' := [none, none, none]) trivial ?_
      exact bpX11_readPart_130_167 x (dd := dd) rec_X11_readSum hrec_X11_readSum rec_X11_readTerm hrec_X11_readTerm rec_X11_readPart hrec_X11_readPart hB S4 _ _ hm
set_option maxHeartbeats 4000000 in
set_option maxRecDepth 20000 in
theorem bpX11_readPart_130_154 (x : XT) {dd : Nat} (rec_X11_readSum : ST → Int32 → Option (Unit × ST)) (hrec_X11_readSum : ∀ (S : ST) (z0 : Int32) (r : Unit) (S' : ST), rec_X11_readSum S z0 = some (r, S') → Ct mX11_readSum dd 0 0 [.ref 130, .int z0] (mkS x S) (fun v h => v = none ∧ h = mkS x S')) (rec_X11_readTerm : ST → Int32 → Option (Unit × ST)) (hrec_X11_readTerm : ∀ (S : ST) (z0 : Int32) (r : Unit) (S' : ST), rec_X11_readTerm S z0 = some (r, S') → Ct mX11_readTerm dd 0 0 [.ref 130, .int z0] (mkS x S) (fun v h => v = none ∧ h = mkS x S')) (rec_X11_readPart : ST → Int32 → Option (Unit × ST)) (hrec_X11_readPart : ∀ (S : ST) (z0 : Int32) (r : Unit) (S' : ST), rec_X11_readPart S z0 = some (r, S') → Ct mX11_readPart dd 0 0 [.ref 130, .int z0] (mkS x S) (fun v h => v = none ∧ h = mkS x S')) (hB : 3 ≤ dd)  (S : ST)  (r : Unit) (S' : ST) (hm : bfX11_readPart_130_154 x rec_X11_readSum rec_X11_readTerm rec_X11_readPart  S  = some (r, S')) : Ev mX11_readPart (dd + 1) 0 0 154 [some (.ref 130), none, none] [] (mkS x S) (fun v h => v = none ∧ h = mkS x S') := by
    unfold bfX11_readPart_130_154 at hm
    refine Ev.steps tokX11_readPart 3 (P := True) (pc' := 157) (lv' := [some (.ref 130), none, none]) (st' := [.int 4, .int 0, .ref 130]) (h' := mkS x S) rfl trivial ?_
    cases h1 : gfX11_mustNumber_130 x S 0 4 with
    | none => rw [h1] at hm; cases hm
    | some q2 =>
      obtain ⟨r3, S4⟩ := q2
      rw [h1] at hm
      dsimp only at hm
      refine ev_callV (N := mX11_mustNumber) (d' := 3) (bc := 0) (bs := 0) (bc' := 0) (bs' := 0) (as := [.int 0, .int 4]) (rest := []) (a := 130) (ci := 11) (dcd tokX11_readPart rfl) okX11_mustNumber inX11_mustNumber seX11_mustNumber lk11_230 rfl (by omega) (Nat.le_of_ble_eq_true rfl) rfl ⟨by decide, rfl⟩ (gpX11_mustNumber_130 x S 0 4 _ _ h1) (fun v h' hq hn => ?_)
      obtain ⟨rfl, rfl⟩ := hq
      refine Ev.steps tokX11_readPart 1 (P := True) (pc' := 167) (lv' := [some (.ref 130), none, none]) (st' := []) (h' := mkS x S4) rfl trivial ?_
      refine Ev.fgt (lv' := [none, none, none]) trivial ?_
      exact bpX11_readPart_130_167 x (dd := dd) rec_X11_readSum hrec_X11_readSum rec_X11_readTerm hrec_X11_readTerm rec_X11_readPart hrec_X11_readPart hB S4 _ _ hm
set_option maxHeartbeats 4000000 in
set_option maxRecDepth 20000 in
theorem bpX11_readPart_130_135 (x : XT) {dd : Nat} (rec_X11_readSum : ST → Int32 → Option (Unit × ST)) (hrec_X11_readSum : ∀ (S : ST) (z0 : Int32) (r : Unit) (S' : ST), rec_X11_readSum S z0 = some (r, S') → Ct mX11_readSum dd 0 0 [.ref 130, .int z0] (mkS x S) (fun v h => v = none ∧ h = mkS x S')) (rec_X11_readTerm : ST → Int32 → Option (Unit × ST)) (hrec_X11_readTerm : ∀ (S : ST) (z0 : Int32) (r : Unit) (S' : ST), rec_X11_readTerm S z0 = some (r, S') → Ct mX11_readTerm dd 0 0 [.ref 130, .int z0] (mkS x S) (fun v h => v = none ∧ h = mkS x S')) (rec_X11_readPart : ST → Int32 → Option (Unit × ST)) (hrec_X11_readPart : ∀ (S : ST) (z0 : Int32) (r : Unit) (S' : ST), rec_X11_readPart S z0 = some (r, S') → Ct mX11_readPart dd 0 0 [.ref 130, .int z0] (mkS x S) (fun v h => v = none ∧ h = mkS x S')) (hB : 3 ≤ dd)  (S : ST) (v2 : Int32) (r : Unit) (S' : ST) (hm : bfX11_readPart_130_135 x rec_X11_readSum rec_X11_readTerm rec_X11_readPart  S v2 = some (r, S')) : Ev mX11_readPart (dd + 1) 0 0 135 [some (.ref 130), none, some (.int v2)] [] (mkS x S) (fun v h => v = none ∧ h = mkS x S') := by
    unfold bfX11_readPart_130_135 at hm
    refine Ev.steps tokX11_readPart 3 (P := True) (pc' := if (S.1 130 10) = 0 then 167 else 142) (lv' := [some (.ref 130), none, some (.int v2)]) (st' := []) (h' := mkS x S) rfl trivial ?_
    refine Ev.ite (fun c1 => ?_) (fun c1 => ?_)
    · rw [if_pos c1] at hm
      refine Ev.fgt (lv' := [none, none, none]) trivial ?_
      exact bpX11_readPart_130_167 x (dd := dd) rec_X11_readSum hrec_X11_readSum rec_X11_readTerm hrec_X11_readTerm rec_X11_readPart hrec_X11_readPart hB S _ _ hm
    · rw [if_neg c1] at hm
      refine Ev.steps tokX11_readPart 3 (P := True) (pc' := if v2 = 14 then 154 else 148) (lv' := [some (.ref 130), none, some (.int v2)]) (st' := []) (h' := mkS x S) rfl trivial ?_
      refine Ev.ite (fun c2 => ?_) (fun c2 => ?_)
      · rw [if_pos c2] at hm
        refine Ev.fgt (lv' := [some (.ref 130), none, none]) ⟨rfl, trivial⟩ ?_
        exact bpX11_readPart_130_154 x (dd := dd) rec_X11_readSum hrec_X11_readSum rec_X11_readTerm hrec_X11_readTerm rec_X11_readPart hrec_X11_readPart hB S _ _ hm
      · rw [if_neg c2] at hm
        refine Ev.steps tokX11_readPart 3 (P := True) (pc' := if ¬ v2 = 19 then 167 else 154) (lv' := [some (.ref 130), none, some (.int v2)]) (st' := []) (h' := mkS x S) rfl trivial ?_
        refine Ev.ite (fun c3 => ?_) (fun c3 => ?_)
        · rw [if_pos c3] at hm
          refine Ev.fgt (lv' := [none, none, none]) trivial ?_
          exact bpX11_readPart_130_167 x (dd := dd) rec_X11_readSum hrec_X11_readSum rec_X11_readTerm hrec_X11_readTerm rec_X11_readPart hrec_X11_readPart hB S _ _ hm
        · rw [if_neg c3] at hm
          refine Ev.fgt (lv' := [some (.ref 130), none, none]) ⟨rfl, trivial⟩ ?_
          exact bpX11_readPart_130_154 x (dd := dd) rec_X11_readSum hrec_X11_readSum rec_X11_readTerm hrec_X11_readTerm rec_X11_readPart hrec_X11_readPart hB S _ _ hm
set_option maxHeartbeats 4000000 in
set_option maxRecDepth 20000 in
theorem bpX11_readPart_130_111 (x : XT) {dd : Nat} (rec_X11_readSum : ST → Int32 → Option (Unit × ST)) (hrec_X11_readSum : ∀ (S : ST) (z0 : Int32) (r : Unit) (S' : ST), rec_X11_readSum S z0 = some (r, S') → Ct mX11_readSum dd 0 0 [.ref 130, .int z0] (mkS x S) (fun v h => v = none ∧ h = mkS x S')) (rec_X11_readTerm : ST → Int32 → Option (Unit × ST)) (hrec_X11_readTerm : ∀ (S : ST) (z0 : Int32) (r : Unit) (S' : ST), rec_X11_readTerm S z0 = some (r, S') → Ct mX11_readTerm dd 0 0 [.ref 130, .int z0] (mkS x S) (fun v h => v = none ∧ h = mkS x S')) (rec_X11_readPart : ST → Int32 → Option (Unit × ST)) (hrec_X11_readPart : ∀ (S : ST) (z0 : Int32) (r : Unit) (S' : ST), rec_X11_readPart S z0 = some (r, S') → Ct mX11_readPart dd 0 0 [.ref 130, .int z0] (mkS x S) (fun v h => v = none ∧ h = mkS x S')) (hB : 3 ≤ dd)  (S : ST) (v2 : Int32) (r : Unit) (S' : ST) (hm : bfX11_readPart_130_111 x rec_X11_readSum rec_X11_readTerm rec_X11_readPart  S v2 = some (r, S')) : Ev mX11_readPart (dd + 1) 0 0 111 [some (.ref 130), none, some (.int v2)] [] (mkS x S) (fun v h => v = none ∧ h = mkS x S') := by
    unfold bfX11_readPart_130_111 at hm
    refine Ev.steps tokX11_readPart 1 (P := True) (pc' := 112) (lv' := [some (.ref 130), none, some (.int v2)]) (st' := [.ref 130]) (h' := mkS x S) rfl trivial ?_
    cases h1 : gfX11_leaf_130 x S with
    | none => rw [h1] at hm; cases hm
    | some q2 =>
      obtain ⟨r3, S4⟩ := q2
      rw [h1] at hm
      dsimp only at hm
      refine ev_callV (N := mX11_leaf) (d' := 3) (bc := 0) (bs := 0) (bc' := 0) (bs' := 0) (as := []) (rest := []) (a := 130) (ci := 11) (dcd tokX11_readPart rfl) okX11_leaf inX11_leaf seX11_leaf lk11_266 rfl (by omega) (Nat.le_of_ble_eq_true rfl) rfl ⟨by decide, rfl⟩ (gpX11_leaf_130 x S _ _ h1) (fun v h' hq hn => ?_)
      obtain ⟨rfl, rfl⟩ := hq
      refine Ev.steps tokX11_readPart 3 (P := True) (pc' := if (S4.1 130 10) = 0 then 135 else 122) (lv' := [some (.ref 130), none, some (.int v2)]) (st' := []) (h' := mkS x S4) rfl trivial ?_
      refine Ev.ite (fun c5 => ?_) (fun c5 => ?_)
      · rw [if_pos c5] at hm
        exact bpX11_readPart_130_135 x (dd := dd) rec_X11_readSum hrec_X11_readSum rec_X11_readTerm hrec_X11_readTerm rec_X11_readPart hrec_X11_readPart hB S4 v2 _ _ hm
      · rw [if_neg c5] at hm
        refine Ev.steps tokX11_readPart 3 (P := True) (pc' := if ¬ v2 = 13 then 135 else 128) (lv' := [some (.ref 130), none, some (.int v2)]) (st' := []) (h' := mkS x S4) rfl trivial ?_
        refine Ev.ite (fun c6 => ?_) (fun c6 => ?_)
        · rw [if_pos c6] at hm
          exact bpX11_readPart_130_135 x (dd := dd) rec_X11_readSum hrec_X11_readSum rec_X11_readTerm hrec_X11_readTerm rec_X11_readPart hrec_X11_readPart hB S4 v2 _ _ hm
        · rw [if_neg c6] at hm
          refine Ev.steps tokX11_readPart 3 (P := True) (pc' := 132) (lv' := [some (.ref 130), none, some (.int v2)]) (st' := [.int 9, .int 0, .ref 130]) (h' := mkS x S4) rfl trivial ?_
          cases h7 : gfX11_mustNumber_130 x S4 0 9 with
          | none => rw [h7] at hm; cases hm
          | some q8 =>
            obtain ⟨r9, S10⟩ := q8
            rw [h7] at hm
            dsimp only at hm
            refine ev_callV (N := mX11_mustNumber) (d' := 3) (bc := 0) (bs := 0) (bc' := 0) (bs' := 0) (as := [.int 0, .int 9]) (rest := []) (a := 130) (ci := 11) (dcd tokX11_readPart rfl) okX11_mustNumber inX11_mustNumber seX11_mustNumber lk11_230 rfl (by omega) (Nat.le_of_ble_eq_true rfl) rfl ⟨by decide, rfl⟩ (gpX11_mustNumber_130 x S4 0 9 _ _ h7) (fun v h' hq hn => ?_)
            obtain ⟨rfl, rfl⟩ := hq
            exact bpX11_readPart_130_135 x (dd := dd) rec_X11_readSum hrec_X11_readSum rec_X11_readTerm hrec_X11_readTerm rec_X11_readPart hrec_X11_readPart hB S10 v2 _ _ hm
set_option maxHeartbeats 4000000 in
set_option maxRecDepth 20000 in
theorem bpX11_readPart_130_95 (x : XT) {dd : Nat} (rec_X11_readSum : ST → Int32 → Option (Unit × ST)) (hrec_X11_readSum : ∀ (S : ST) (z0 : Int32) (r : Unit) (S' : ST), rec_X11_readSum S z0 = some (r, S') → Ct mX11_readSum dd 0 0 [.ref 130, .int z0] (mkS x S) (fun v h => v = none ∧ h = mkS x S')) (rec_X11_readTerm : ST → Int32 → Option (Unit × ST)) (hrec_X11_readTerm : ∀ (S : ST) (z0 : Int32) (r : Unit) (S' : ST), rec_X11_readTerm S z0 = some (r, S') → Ct mX11_readTerm dd 0 0 [.ref 130, .int z0] (mkS x S) (fun v h => v = none ∧ h = mkS x S')) (rec_X11_readPart : ST → Int32 → Option (Unit × ST)) (hrec_X11_readPart : ∀ (S : ST) (z0 : Int32) (r : Unit) (S' : ST), rec_X11_readPart S z0 = some (r, S') → Ct mX11_readPart dd 0 0 [.ref 130, .int z0] (mkS x S) (fun v h => v = none ∧ h = mkS x S')) (hB : 3 ≤ dd)  (S : ST) (v2 : Int32) (r : Unit) (S' : ST) (hm : bfX11_readPart_130_95 x rec_X11_readSum rec_X11_readTerm rec_X11_readPart  S v2 = some (r, S')) : Ev mX11_readPart (dd + 1) 0 0 95 [some (.ref 130), none, some (.int v2)] [] (mkS x S) (fun v h => v = none ∧ h = mkS x S') := by
    unfold bfX11_readPart_130_95 at hm
    refine Ev.steps tokX11_readPart 4 (P := True) (pc' := if v2 < (S.1 130 8) then 163 else 103) (lv' := [some (.ref 130), none, some (.int v2)]) (st' := []) (h' := mkS x S) rfl trivial ?_
    refine Ev.ite (fun c1 => ?_) (fun c1 => ?_)
    · rw [if_pos c1] at hm
      refine Ev.fgt (lv' := [some (.ref 130), none, none]) ⟨rfl, trivial⟩ ?_
      exact bpX11_readPart_130_163 x (dd := dd) rec_X11_readSum hrec_X11_readSum rec_X11_readTerm hrec_X11_readTerm rec_X11_readPart hrec_X11_readPart hB S _ _ hm
    · rw [if_neg c1] at hm
      refine Ev.steps tokX11_readPart 4 (P := True) (pc' := if (S.1 130 9) < v2 then 163 else 111) (lv' := [some (.ref 130), none, some (.int v2)]) (st' := []) (h' := mkS x S) rfl trivial ?_
      refine Ev.ite (fun c2 => ?_) (fun c2 => ?_)
      · rw [if_pos c2] at hm
        refine Ev.fgt (lv' := [some (.ref 130), none, none]) ⟨rfl, trivial⟩ ?_
        exact bpX11_readPart_130_163 x (dd := dd) rec_X11_readSum hrec_X11_readSum rec_X11_readTerm hrec_X11_readTerm rec_X11_readPart hrec_X11_readPart hB S _ _ hm
      · rw [if_neg c2] at hm
        exact bpX11_readPart_130_111 x (dd := dd) rec_X11_readSum hrec_X11_readSum rec_X11_readTerm hrec_X11_readTerm rec_X11_readPart hrec_X11_readPart hB S v2 _ _ hm
set_option maxHeartbeats 4000000 in
set_option maxRecDepth 20000 in
theorem bpX11_readPart_130_37 (x : XT) {dd : Nat} (rec_X11_readSum : ST → Int32 → Option (Unit × ST)) (hrec_X11_readSum : ∀ (S : ST) (z0 : Int32) (r : Unit) (S' : ST), rec_X11_readSum S z0 = some (r, S') → Ct mX11_readSum dd 0 0 [.ref 130, .int z0] (mkS x S) (fun v h => v = none ∧ h = mkS x S')) (rec_X11_readTerm : ST → Int32 → Option (Unit × ST)) (hrec_X11_readTerm : ∀ (S : ST) (z0 : Int32) (r : Unit) (S' : ST), rec_X11_readTerm S z0 = some (r, S') → Ct mX11_readTerm dd 0 0 [.ref 130, .int z0] (mkS x S) (fun v h => v = none ∧ h = mkS x S')) (rec_X11_readPart : ST → Int32 → Option (Unit × ST)) (hrec_X11_readPart : ∀ (S : ST) (z0 : Int32) (r : Unit) (S' : ST), rec_X11_readPart S z0 = some (r, S') → Ct mX11_readPart dd 0 0 [.ref 130, .int z0] (mkS x S) (fun v h => v = none ∧ h = mkS x S')) (hB : 3 ≤ dd)  (S : ST) (v1 : Int32) (r : Unit) (S' : ST) (hm : bfX11_readPart_130_37 x rec_X11_readSum rec_X11_readTerm rec_X11_readPart  S v1 = some (r, S')) : Ev mX11_readPart (dd + 1) 0 0 37 [some (.ref 130), some (.int v1), none] [] (mkS x S) (fun v h => v = none ∧ h = mkS x S') := by
    unfold bfX11_readPart_130_37 at hm
    refine Ev.steps tokX11_readPart 1 (P := True) (pc' := 38) (lv' := [some (.ref 130), some (.int v1), none]) (st' := [.ref 130]) (h' := mkS x S) rfl trivial ?_
    cases h1 : gfX11_fine_130 x S with
    | none => rw [h1] at hm; cases hm
    | some q2 =>
      obtain ⟨r3, S4⟩ := q2
      rw [h1] at hm
      dsimp only at hm
      refine ev_callV (N := mX11_fine) (d' := 1) (bc := 0) (bs := 0) (bc' := 0) (bs' := 0) (as := []) (rest := []) (a := 130) (ci := 11) (dcd tokX11_readPart rfl) okX11_fine inX11_fine seX11_fine lk11_202 rfl (by omega) (Nat.le_of_ble_eq_true rfl) rfl ⟨by decide, rfl⟩ (gpX11_fine_130 x S _ _ h1) (fun v h' hq hn => ?_)
      obtain ⟨rfl, rfl⟩ := hq
      refine Ev.steps tokX11_readPart 1 (P := True) (pc' := if ¬ r3 = 0 then 45 else 44) (lv' := [some (.ref 130), some (.int v1), none]) (st' := []) (h' := mkS x S4) rfl trivial ?_
      refine Ev.ite (fun c5 => ?_) (fun c5 => ?_)
      · rw [if_pos c5] at hm
        refine Ev.steps tokX11_readPart 10 (P := True) (pc' := 59) (lv' := [some (.ref 130), some (.int v1), none]) (st' := [.int (v1 + 1), .ref 130]) (h' := mkS x ((u2 S4.1 130 19 ((S4.1 130 19) + 1)), S4.2.1, S4.2.2.1, S4.2.2.2)) rfl trivial ?_
        cases h6 : rec_X11_readSum ((u2 S4.1 130 19 ((S4.1 130 19) + 1)), S4.2.1, S4.2.2.1, S4.2.2.2) (v1 + 1) with
        | none => rw [h6] at hm; cases hm
        | some q7 =>
          obtain ⟨r8, S9⟩ := q7
          rw [h6] at hm
          dsimp only at hm
          refine ev_callV (N := mX11_readSum) (d' := dd) (bc := 0) (bs := 0) (bc' := 0) (bs' := 0) (as := [.int (v1 + 1)]) (rest := []) (a := 130) (ci := 11) (dcd tokX11_readPart rfl) okX11_readSum inX11_readSum seX11_readSum lk11_217 rfl (by omega) (Nat.le_of_ble_eq_true rfl) rfl ⟨by decide, rfl⟩ (hrec_X11_readSum ((u2 S4.1 130 19 ((S4.1 130 19) + 1)), S4.2.1, S4.2.2.1, S4.2.2.2) (v1 + 1) _ _ h6) (fun v h' hq hn => ?_)
          obtain ⟨rfl, rfl⟩ := hq
          refine Ev.steps tokX11_readPart 2 (P := True) (pc' := 65) (lv' := [some (.ref 130), some (.int v1), none]) (st' := [.int 93, .ref 130]) (h' := mkS x S9) rfl trivial ?_
          cases h10 : gfX11_sign x S9 93 with
          | none => rw [h10] at hm; cases hm
          | some q11 =>
            obtain ⟨r12, S13⟩ := q11
            rw [h10] at hm
            dsimp only at hm
            refine ev_callS (N := mX11_sign) (d' := 1) (bc := 0) (bs := 0) (bc' := 0) (bs' := 0) (as := [.int 93]) (rest := [.ref 130]) (dcd tokX11_readPart rfl) okX11_sign inX11_sign lk11_250 rfl (by omega) (Nat.le_of_ble_eq_true rfl) (gpX11_sign x S9 93 _ _ h10) (fun v h' hq hn => ?_)
            obtain ⟨rfl, rfl⟩ := hq
            cases h14 : gfX11_must_130 x S13 r12 with
            | none => rw [h14] at hm; cases hm
            | some q15 =>
              obtain ⟨r16, S17⟩ := q15
              rw [h14] at hm
              dsimp only at hm
              refine ev_callV (N := mX11_must) (d' := 3) (bc := 0) (bs := 0) (bc' := 0) (bs' := 0) (as := [.int r12]) (rest := []) (a := 130) (ci := 11) (dcd tokX11_readPart rfl) okX11_must inX11_must seX11_must lk11_221 rfl (by omega) (Nat.le_of_ble_eq_true rfl) rfl ⟨by decide, rfl⟩ (gpX11_must_130 x S13 r12 _ _ h14) (fun v h' hq hn => ?_)
              obtain ⟨rfl, rfl⟩ := hq
              refine Ev.steps tokX11_readPart 1 (P := True) (pc' := 167) (lv' := [some (.ref 130), some (.int v1), none]) (st' := []) (h' := mkS x S17) rfl trivial ?_
              refine Ev.fgt (lv' := [none, none, none]) trivial ?_
              exact bpX11_readPart_130_167 x (dd := dd) rec_X11_readSum hrec_X11_readSum rec_X11_readTerm hrec_X11_readTerm rec_X11_readPart hrec_X11_readPart hB S17 _ _ hm
      · rw [if_neg c5] at hm
        cases hm
        exact Ev.retv tokX11_readPart rfl rfl ⟨rfl, rfl⟩
set_option maxHeartbeats 4000000 in
set_option maxRecDepth 20000 in
theorem bpX11_readPart_130_0 (x : XT) {dd : Nat} (rec_X11_readSum : ST → Int32 → Option (Unit × ST)) (hrec_X11_readSum : ∀ (S : ST) (z0 : Int32) (r : Unit) (S' : ST), rec_X11_readSum S z0 = some (r, S') → Ct mX11_readSum dd 0 0 [.ref 130, .int z0] (mkS x S) (fun v h => v = none ∧ h = mkS x S')) (rec_X11_readTerm : ST → Int32 → Option (Unit × ST)) (hrec_X11_readTerm : ∀ (S : ST) (z0 : Int32) (r : Unit) (S' : ST), rec_X11_readTerm S z0 = some (r, S') → Ct mX11_readTerm dd 0 0 [.ref 130, .int z0] (mkS x S) (fun v h => v = none ∧ h = mkS x S')) (rec_X11_readPart : ST → Int32 → Option (Unit × ST)) (hrec_X11_readPart : ∀ (S : ST) (z0 : Int32) (r : Unit) (S' : ST), rec_X11_readPart S z0 = some (r, S') → Ct mX11_readPart dd 0 0 [.ref 130, .int z0] (mkS x S) (fun v h => v = none ∧ h = mkS x S')) (hB : 3 ≤ dd)  (S : ST) (p1 : Int32) (r : Unit) (S' : ST) (hm : bfX11_readPart_130_0 x rec_X11_readSum rec_X11_readTerm rec_X11_readPart  S p1 = some (r, S')) : Ev mX11_readPart (dd + 1) 0 0 0 [some (.ref 130), some (.int p1), none] [] (mkS x S) (fun v h => v = none ∧ h = mkS x S') := by
    unfold bfX11_readPart_130_0 at hm
    refine Ev.steps tokX11_readPart 1 (P := True) (pc' := 1) (lv' := [some (.ref 130), some (.int p1), none]) (st' := [.ref 130]) (h' := mkS x S) rfl trivial ?_
    cases h1 : gfX11_fine_130 x S with
    | none => rw [h1] at hm; cases hm
    | some q2 =>
      obtain ⟨r3, S4⟩ := q2
      rw [h1] at hm
      dsimp only at hm
      refine ev_callV (N := mX11_fine) (d' := 1) (bc := 0) (bs := 0) (bc' := 0) (bs' := 0) (as := []) (rest := []) (a := 130) (ci := 11) (dcd tokX11_readPart rfl) okX11_fine inX11_fine seX11_fine lk11_202 rfl (by omega) (Nat.le_of_ble_eq_true rfl) rfl ⟨by decide, rfl⟩ (gpX11_fine_130 x S _ _ h1) (fun v h' hq hn => ?_)
      obtain ⟨rfl, rfl⟩ := hq
      refine Ev.steps tokX11_readPart 1 (P := True) (pc' := if ¬ r3 = 0 then 8 else 7) (lv' := [some (.ref 130), some (.int p1), none]) (st' := []) (h' := mkS x S4) rfl trivial ?_
      refine Ev.ite (fun c5 => ?_) (fun c5 => ?_)
      · rw [if_pos c5] at hm
        obtain ⟨o6, hm⟩ := oblk hm
        refine Ev.steps tokX11_readPart 8 (P := vp_in (S4.1 130 19) 401 ∧ True) (pc' := 21) (lv' := [some (.ref 130), some (.int p1), some (.int (S4.2.1 139 ((S4.1 130 19).toNatClampNeg)))]) (st' := [.int 91, .int (S4.2.1 139 ((S4.1 130 19).toNatClampNeg))]) (h' := mkS x S4) rfl ⟨inb_ok o6, trivial⟩ ?_
        cases h7 : gfX11_sign x S4 91 with
        | none => rw [h7] at hm; cases hm
        | some q8 =>
          obtain ⟨r9, S10⟩ := q8
          rw [h7] at hm
          dsimp only at hm
          refine ev_callS (N := mX11_sign) (d' := 1) (bc := 0) (bs := 0) (bc' := 0) (bs' := 0) (as := [.int 91]) (rest := [.int (S4.2.1 139 ((S4.1 130 19).toNatClampNeg))]) (dcd tokX11_readPart rfl) okX11_sign inX11_sign lk11_250 rfl (by omega) (Nat.le_of_ble_eq_true rfl) (gpX11_sign x S4 91 _ _ h7) (fun v h' hq hn => ?_)
          obtain ⟨rfl, rfl⟩ := hq
          refine Ev.steps tokX11_readPart 1 (P := True) (pc' := if ¬ (S4.2.1 139 ((S4.1 130 19).toNatClampNeg)) = r9 then 74 else 27) (lv' := [some (.ref 130), some (.int p1), some (.int (S4.2.1 139 ((S4.1 130 19).toNatClampNeg)))]) (st' := []) (h' := mkS x S10) rfl trivial ?_
          refine Ev.ite (fun c11 => ?_) (fun c11 => ?_)
          · rw [if_pos c11] at hm
            refine Ev.steps tokX11_readPart 3 (P := True) (pc' := if ¬ (S4.2.1 139 ((S4.1 130 19).toNatClampNeg)) = 50 then 95 else 80) (lv' := [some (.ref 130), some (.int p1), some (.int (S4.2.1 139 ((S4.1 130 19).toNatClampNeg)))]) (st' := []) (h' := mkS x S10) rfl trivial ?_
            refine Ev.ite (fun c12 => ?_) (fun c12 => ?_)
            · rw [if_pos c12] at hm
              refine Ev.fgt (lv' := [some (.ref 130), none, some (.int (S4.2.1 139 ((S4.1 130 19).toNatClampNeg)))]) ⟨rfl, rfl, trivial⟩ ?_
              exact bpX11_readPart_130_95 x (dd := dd) rec_X11_readSum hrec_X11_readSum rec_X11_readTerm hrec_X11_readTerm rec_X11_readPart hrec_X11_readPart hB S10 (S4.2.1 139 ((S4.1 130 19).toNatClampNeg)) _ _ hm
            · rw [if_neg c12] at hm
              obtain ⟨o13, hm⟩ := oblk hm
              refine Ev.steps tokX11_readPart 7 (P := vp_in (S10.1 130 19) 401 ∧ True) (pc' := if (S10.2.1 140 ((S10.1 130 19).toNatClampNeg)) ≤ 1000 then 111 else 95) (lv' := [some (.ref 130), some (.int p1), some (.int (S4.2.1 139 ((S4.1 130 19).toNatClampNeg)))]) (st' := []) (h' := mkS x S10) rfl ⟨inb_ok o13, trivial⟩ ?_
              refine Ev.ite (fun c14 => ?_) (fun c14 => ?_)
              · rw [if_pos c14] at hm
                refine Ev.fgt (lv' := [some (.ref 130), none, some (.int (S4.2.1 139 ((S4.1 130 19).toNatClampNeg)))]) ⟨rfl, rfl, trivial⟩ ?_
                exact bpX11_readPart_130_111 x (dd := dd) rec_X11_readSum hrec_X11_readSum rec_X11_readTerm hrec_X11_readTerm rec_X11_readPart hrec_X11_readPart hB S10 (S4.2.1 139 ((S4.1 130 19).toNatClampNeg)) _ _ hm
              · rw [if_neg c14] at hm
                refine Ev.fgt (lv' := [some (.ref 130), none, some (.int (S4.2.1 139 ((S4.1 130 19).toNatClampNeg)))]) ⟨rfl, rfl, trivial⟩ ?_
                exact bpX11_readPart_130_95 x (dd := dd) rec_X11_readSum hrec_X11_readSum rec_X11_readTerm hrec_X11_readTerm rec_X11_readPart hrec_X11_readPart hB S10 (S4.2.1 139 ((S4.1 130 19).toNatClampNeg)) _ _ hm
          · rw [if_neg c11] at hm
            refine Ev.steps tokX11_readPart 3 (P := True) (pc' := if ¬ p1 = 8 then 37 else 33) (lv' := [some (.ref 130), some (.int p1), some (.int (S4.2.1 139 ((S4.1 130 19).toNatClampNeg)))]) (st' := []) (h' := mkS x S10) rfl trivial ?_
            refine Ev.ite (fun c15 => ?_) (fun c15 => ?_)
            · rw [if_pos c15] at hm
              refine Ev.fgt (lv' := [some (.ref 130), some (.int p1), none]) ⟨rfl, rfl, trivial⟩ ?_
              exact bpX11_readPart_130_37 x (dd := dd) rec_X11_readSum hrec_X11_readSum rec_X11_readTerm hrec_X11_readTerm rec_X11_readPart hrec_X11_readPart hB S10 p1 _ _ hm
            · rw [if_neg c15] at hm
              refine Ev.steps tokX11_readPart 1 (P := True) (pc' := 34) (lv' := [some (.ref 130), some (.int p1), some (.int (S4.2.1 139 ((S4.1 130 19).toNatClampNeg)))]) (st' := [.ref 130]) (h' := mkS x S10) rfl trivial ?_
              cases h16 : gfX11_faults_130 x S10 with
              | none => rw [h16] at hm; cases hm
              | some q17 =>
                obtain ⟨r18, S19⟩ := q17
                rw [h16] at hm
                dsimp only at hm
                refine ev_callV (N := mX11_faults) (d' := 2) (bc := 0) (bs := 0) (bc' := 0) (bs' := 0) (as := []) (rest := []) (a := 130) (ci := 11) (dcd tokX11_readPart rfl) okX11_faults inX11_faults seX11_faults lk11_211 rfl (by omega) (Nat.le_of_ble_eq_true rfl) rfl ⟨by decide, rfl⟩ (gpX11_faults_130 x S10 _ _ h16) (fun v h' hq hn => ?_)
                obtain ⟨rfl, rfl⟩ := hq
                refine Ev.fgt (lv' := [some (.ref 130), some (.int p1), none]) ⟨rfl, rfl, trivial⟩ ?_
                exact bpX11_readPart_130_37 x (dd := dd) rec_X11_readSum hrec_X11_readSum rec_X11_readTerm hrec_X11_readTerm rec_X11_readPart hrec_X11_readPart hB S19 p1 _ _ hm
      · rw [if_neg c5] at hm
        cases hm
        exact Ev.retv tokX11_readPart rfl rfl ⟨rfl, rfl⟩
theorem grpX11_readPart_130 (x : XT) {dd : Nat} (rec_X11_readSum : ST → Int32 → Option (Unit × ST)) (hrec_X11_readSum : ∀ (S : ST) (z0 : Int32) (r : Unit) (S' : ST), rec_X11_readSum S z0 = some (r, S') → Ct mX11_readSum dd 0 0 [.ref 130, .int z0] (mkS x S) (fun v h => v = none ∧ h = mkS x S')) (rec_X11_readTerm : ST → Int32 → Option (Unit × ST)) (hrec_X11_readTerm : ∀ (S : ST) (z0 : Int32) (r : Unit) (S' : ST), rec_X11_readTerm S z0 = some (r, S') → Ct mX11_readTerm dd 0 0 [.ref 130, .int z0] (mkS x S) (fun v h => v = none ∧ h = mkS x S')) (rec_X11_readPart : ST → Int32 → Option (Unit × ST)) (hrec_X11_readPart : ∀ (S : ST) (z0 : Int32) (r : Unit) (S' : ST), rec_X11_readPart S z0 = some (r, S') → Ct mX11_readPart dd 0 0 [.ref 130, .int z0] (mkS x S) (fun v h => v = none ∧ h = mkS x S')) (hB : 3 ≤ dd) (S : ST) (p1 : Int32) (r : Unit) (S' : ST) (hm : grfX11_readPart_130 x rec_X11_readSum rec_X11_readTerm rec_X11_readPart S p1 = some (r, S')) : Ct mX11_readPart (dd + 1) 0 0 [.ref 130, .int p1] (mkS x S) (fun v h => v = none ∧ h = mkS x S') :=
  Ct.of (lv := [some (.ref 130), some (.int p1), none]) rfl rfl rfl (show (_ : Nat) ≤ _ from Nat.le_of_ble_eq_true rfl) (fun G => rfl) (bpX11_readPart_130_0 x (dd := dd) rec_X11_readSum hrec_X11_readSum rec_X11_readTerm hrec_X11_readTerm rec_X11_readPart hrec_X11_readPart hB S p1 r S' hm)
theorem gqpX11_readSum_130 (x : XT) (n : Nat) : (∀ (S : ST) (a b : Int32) (r : Unit) (S' : ST), gqX11_readSum_130 x n 0 S a b = some (r, S') → Ct mX11_readSum (3 + n) 0 0 [.ref 130, .int a] (mkS x S) (fun v h => v = none ∧ h = mkS x S')) ∧ (∀ (S : ST) (a b : Int32) (r : Unit) (S' : ST), gqX11_readSum_130 x n 1 S a b = some (r, S') → Ct mX11_readTerm (3 + n) 0 0 [.ref 130, .int a] (mkS x S) (fun v h => v = none ∧ h = mkS x S')) ∧ (∀ (S : ST) (a b : Int32) (r : Unit) (S' : ST), gqX11_readSum_130 x n 2 S a b = some (r, S') → Ct mX11_readPart (3 + n) 0 0 [.ref 130, .int a] (mkS x S) (fun v h => v = none ∧ h = mkS x S')) := by
  induction n with
  | zero => exact ⟨(fun _ _ _ _ _ hm => (by cases hm)), (fun _ _ _ _ _ hm => (by cases hm)), (fun _ _ _ _ _ hm => (by cases hm))⟩
  | succ n ih =>
    refine ⟨?_, ?_, ?_⟩
    · intro S a b r S' hm
      rw [gqX11_readSum_130] at hm
      rw [show Nat.beq 0 0 = true from rfl, cond_true] at hm
      exact grpX11_readSum_130 x (dd := 3 + n) (fun S z0 => gqX11_readSum_130 x n 0 S z0 0) (fun S z0 r S' h => ih.1 S z0 0 r S' h) (fun S z0 => gqX11_readSum_130 x n 1 S z0 0) (fun S z0 r S' h => ih.2.1 S z0 0 r S' h) (fun S z0 => gqX11_readSum_130 x n 2 S z0 0) (fun S z0 r S' h => ih.2.2 S z0 0 r S' h) (by omega) S a r S' hm
    · intro S a b r S' hm
      rw [gqX11_readSum_130] at hm
      rw [show Nat.beq 1 0 = false from rfl, cond_false, show Nat.beq 1 1 = true from rfl, cond_true] at hm
      exact grpX11_readTerm_130 x (dd := 3 + n) (fun S z0 => gqX11_readSum_130 x n 0 S z0 0) (fun S z0 r S' h => ih.1 S z0 0 r S' h) (fun S z0 => gqX11_readSum_130 x n 1 S z0 0) (fun S z0 r S' h => ih.2.1 S z0 0 r S' h) (fun S z0 => gqX11_readSum_130 x n 2 S z0 0) (fun S z0 r S' h => ih.2.2 S z0 0 r S' h) (by omega) S a r S' hm
    · intro S a b r S' hm
      rw [gqX11_readSum_130] at hm
      rw [show Nat.beq 2 0 = false from rfl, cond_false, show Nat.beq 2 1 = false from rfl, cond_false, show Nat.beq 2 2 = true from rfl, cond_true] at hm
      exact grpX11_readPart_130 x (dd := 3 + n) (fun S z0 => gqX11_readSum_130 x n 0 S z0 0) (fun S z0 r S' h => ih.1 S z0 0 r S' h) (fun S z0 => gqX11_readSum_130 x n 1 S z0 0) (fun S z0 r S' h => ih.2.1 S z0 0 r S' h) (fun S z0 => gqX11_readSum_130 x n 2 S z0 0) (fun S z0 r S' h => ih.2.2 S z0 0 r S' h) (by omega) S a r S' hm
theorem gpX11_readSum_130 (x : XT) (S : ST) (p1 : Int32) (r : Unit) (S' : ST) (hm : gfX11_readSum_130 x S p1 = some (r, S')) : Ct mX11_readSum 63 0 0 [.ref 130, .int p1] (mkS x S) (fun v h => v = none ∧ h = mkS x S') :=
  (gqpX11_readSum_130 x 60).1 S p1 0 r S' hm
theorem gpX11_readTerm_130 (x : XT) (S : ST) (p1 : Int32) (r : Unit) (S' : ST) (hm : gfX11_readTerm_130 x S p1 = some (r, S')) : Ct mX11_readTerm 63 0 0 [.ref 130, .int p1] (mkS x S) (fun v h => v = none ∧ h = mkS x S') :=
  (gqpX11_readSum_130 x 60).2.1 S p1 0 r S' hm
theorem gpX11_readPart_130 (x : XT) (S : ST) (p1 : Int32) (r : Unit) (S' : ST) (hm : gfX11_readPart_130 x S p1 = some (r, S')) : Ct mX11_readPart 63 0 0 [.ref 130, .int p1] (mkS x S) (fun v h => v = none ∧ h = mkS x S') :=
  (gqpX11_readSum_130 x 60).2.2 S p1 0 r S' hm
end MIR
