section MIR
set_option maxHeartbeats 4000000 in
set_option maxRecDepth 20000 in
theorem bpX5_run_51_25_22 (x : XT) (k12 : ST → Int32 → Option (Int32 × ST)) (hk12 : ∀ (S : ST) (v2 : Int32) (r : Int32) (S' : ST), k12 S v2 = some (r, S') → Ev mX5_run 7 0 0 12 [some (.ref 51), some (.ref 25), some (.int v2), none] [] (mkS x S) (fun v h => v = some (.int r) ∧ h = mkS x S')) (k22 : ST → Int32 → Int32 → Option (Int32 × ST)) (hk22 : ∀ (S : ST) (v2 : Int32) (v3 : Int32) (r : Int32) (S' : ST), k22 S v2 v3 = some (r, S') → Ev mX5_run 7 0 0 22 [some (.ref 51), some (.ref 25), some (.int v2), some (.int v3)] [] (mkS x S) (fun v h => v = some (.int r) ∧ h = mkS x S')) (S : ST) (v2 : Int32) (v3 : Int32) (r : Int32) (S' : ST) (hm : bfX5_run_51_25_22 x k12 k22 S v2 v3 = some (r, S')) : Ev mX5_run 7 0 0 22 [some (.ref 51), some (.ref 25), some (.int v2), some (.int v3)] [] (mkS x S) (fun v h => v = some (.int r) ∧ h = mkS x S') := by
    unfold bfX5_run_51_25_22 at hm
    obtain ⟨o1, hm⟩ := oblk hm
    refine Ev.steps tokX5_run 6 (P := vp_in v2 12 ∧ True) (pc' := if (S.2.1 27 v2.toNatClampNeg) ≤ v3 then 49 else 32) (lv' := [some (.ref 51), some (.ref 25), some (.int v2), some (.int v3)]) (st' := []) (h' := mkS x S) rfl ⟨inb_ok o1, trivial⟩ ?_
    refine Ev.ite (fun c2 => ?_) (fun c2 => ?_)
    · rw [if_pos c2] at hm
      refine Ev.steps tokX5_run 2 (P := True) (pc' := 12) (lv' := [some (.ref 51), some (.ref 25), some (.int (v2 + 1)), some (.int v3)]) (st' := []) (h' := mkS x S) rfl trivial ?_
      refine Ev.fgt (lv' := [some (.ref 51), some (.ref 25), some (.int (v2 + 1)), none]) ⟨rfl, rfl, rfl, trivial⟩ ?_
      exact hk12 S (v2 + 1) _ _ hm
    · rw [if_neg c2] at hm
      refine Ev.steps tokX5_run 3 (P := True) (pc' := 35) (lv' := [some (.ref 51), some (.ref 25), some (.int v2), some (.int v3)]) (st' := [.int v2, .ref 25, .ref 51]) (h' := mkS x S) rfl trivial ?_
      cases h3 : gfX5_runOnce_51_25 x S v2 with
      | none => rw [h3] at hm; cases hm
      | some q4 =>
        obtain ⟨r5, S6⟩ := q4
        rw [h3] at hm
        dsimp only at hm
        refine ev_callV (N := mX5_runOnce) (d' := 6) (bc := 0) (bs := 0) (bc' := 0) (bs' := 0) (as := [.ref 25, .int v2]) (rest := []) (a := 51) (ci := 5) (dcd tokX5_run rfl) okX5_runOnce inX5_runOnce seX5_runOnce lk5_41 rfl (by decide) (Nat.le_of_ble_eq_true rfl) rfl ⟨by decide, rfl⟩ (gpX5_runOnce_51_25 x S v2 _ _ h3) (fun v h' hq hn => ?_)
        obtain ⟨rfl, rfl⟩ := hq
        refine Ev.steps tokX5_run 1 (P := True) (pc' := if ¬ r5 = 0 then 43 else 41) (lv' := [some (.ref 51), some (.ref 25), some (.int v2), some (.int v3)]) (st' := []) (h' := mkS x S6) rfl trivial ?_
        refine Ev.ite (fun c7 => ?_) (fun c7 => ?_)
        · rw [if_pos c7] at hm
          refine Ev.steps tokX5_run 2 (P := True) (pc' := 22) (lv' := [some (.ref 51), some (.ref 25), some (.int v2), some (.int (v3 + 1))]) (st' := []) (h' := mkS x S6) rfl trivial ?_
          exact hk22 S6 v2 (v3 + 1) _ _ hm
        · rw [if_neg c7] at hm
          refine Ev.steps tokX5_run 1 (P := True) (pc' := 42) (lv' := [some (.ref 51), some (.ref 25), some (.int v2), some (.int v3)]) (st' := [.int v2]) (h' := mkS x S6) rfl trivial ?_
          cases hm
          exact Ev.reti tokX5_run rfl rfl ⟨rfl, rfl⟩
theorem lpX5_run_51_25_22 (x : XT) (k12 : ST → Int32 → Option (Int32 × ST)) (hk12 : ∀ (S : ST) (v2 : Int32) (r : Int32) (S' : ST), k12 S v2 = some (r, S') → Ev mX5_run 7 0 0 12 [some (.ref 51), some (.ref 25), some (.int v2), none] [] (mkS x S) (fun v h => v = some (.int r) ∧ h = mkS x S')) : ∀ (n : Nat) (S : ST) (v2 : Int32) (v3 : Int32) (r : Int32) (S' : ST), lfX5_run_51_25_22 x k12 n S v2 v3 = some (r, S') → Ev mX5_run 7 0 0 22 [some (.ref 51), some (.ref 25), some (.int v2), some (.int v3)] [] (mkS x S) (fun v h => v = some (.int r) ∧ h = mkS x S')
  | 0, _, _, _, _, _, hm => by cases hm
  | n + 1, S, v2, v3, r, S', hm => bpX5_run_51_25_22 x k12 hk12 (lfX5_run_51_25_22 x k12 n) (lpX5_run_51_25_22 x k12 hk12 n) S v2 v3 r S' hm
set_option maxHeartbeats 4000000 in
set_option maxRecDepth 20000 in
theorem bpX5_run_51_25_12 (x : XT) (k12 : ST → Int32 → Option (Int32 × ST)) (hk12 : ∀ (S : ST) (v2 : Int32) (r : Int32) (S' : ST), k12 S v2 = some (r, S') → Ev mX5_run 7 0 0 12 [some (.ref 51), some (.ref 25), some (.int v2), none] [] (mkS x S) (fun v h => v = some (.int r) ∧ h = mkS x S')) (S : ST) (v2 : Int32) (r : Int32) (S' : ST) (hm : bfX5_run_51_25_12 x k12 S v2 = some (r, S')) : Ev mX5_run 7 0 0 12 [some (.ref 51), some (.ref 25), some (.int v2), none] [] (mkS x S) (fun v h => v = some (.int r) ∧ h = mkS x S') := by
    unfold bfX5_run_51_25_12 at hm
    refine Ev.steps tokX5_run 4 (P := True) (pc' := if (S.1 25 0) ≤ v2 then 55 else 20) (lv' := [some (.ref 51), some (.ref 25), some (.int v2), none]) (st' := []) (h' := mkS x S) rfl trivial ?_
    refine Ev.ite (fun c1 => ?_) (fun c1 => ?_)
    · rw [if_pos c1] at hm
      refine Ev.steps tokX5_run 1 (P := True) (pc' := 56) (lv' := [some (.ref 51), some (.ref 25), some (.int v2), none]) (st' := [.int (-1)]) (h' := mkS x S) rfl trivial ?_
      cases hm
      exact Ev.reti tokX5_run rfl rfl ⟨rfl, rfl⟩
    · rw [if_neg c1] at hm
      refine Ev.steps tokX5_run 2 (P := True) (pc' := 22) (lv' := [some (.ref 51), some (.ref 25), some (.int v2), some (.int 0)]) (st' := []) (h' := mkS x S) rfl trivial ?_
      exact lpX5_run_51_25_22 x k12 hk12 20000 S v2 0 _ _ hm
theorem lpX5_run_51_25_12 (x : XT)  : ∀ (n : Nat) (S : ST) (v2 : Int32) (r : Int32) (S' : ST), lfX5_run_51_25_12 x  n S v2 = some (r, S') → Ev mX5_run 7 0 0 12 [some (.ref 51), some (.ref 25), some (.int v2), none] [] (mkS x S) (fun v h => v = some (.int r) ∧ h = mkS x S')
  | 0, _, _, _, _, hm => by cases hm
  | n + 1, S, v2, r, S', hm => bpX5_run_51_25_12 x (lfX5_run_51_25_12 x  n) (lpX5_run_51_25_12 x  n) S v2 r S' hm
set_option maxHeartbeats 4000000 in
set_option maxRecDepth 20000 in
theorem bpX5_run_51_25_0 (x : XT)  (S : ST)  (r : Int32) (S' : ST) (hm : bfX5_run_51_25_0 x  S  = some (r, S')) : Ev mX5_run 7 0 0 0 [some (.ref 51), some (.ref 25), none, none] [] (mkS x S) (fun v h => v = some (.int r) ∧ h = mkS x S') := by
    unfold bfX5_run_51_25_0 at hm
    refine Ev.steps tokX5_run 8 (P := True) (pc' := 12) (lv' := [some (.ref 51), some (.ref 25), some (.int 0), none]) (st' := []) (h' := mkS x ((u2 (u2 S.1 51 0 0) 51 1 (-1)), S.2.1, S.2.2.1, S.2.2.2)) rfl trivial ?_
    exact lpX5_run_51_25_12 x  20000 ((u2 (u2 S.1 51 0 0) 51 1 (-1)), S.2.1, S.2.2.1, S.2.2.2) 0 _ _ hm
theorem gpX5_run_51_25 (x : XT) (S : ST)  (r : Int32) (S' : ST) (hm : gfX5_run_51_25 x S  = some (r, S')) : Ct mX5_run 7 0 0 [.ref 51, .ref 25] (mkS x S) (fun v h => v = some (.int r) ∧ h = mkS x S') :=
  Ct.of (lv := [some (.ref 51), some (.ref 25), none, none]) rfl rfl rfl (show (_ : Nat) ≤ _ from Nat.le_of_ble_eq_true rfl) (fun G => rfl) (bpX5_run_51_25_0 x S  r S' hm)
set_option maxHeartbeats 4000000 in
set_option maxRecDepth 20000 in
theorem bpX7_copyFrom_1_35_252 (x : XT) (k252 : ST → Int32 → Option (Unit × ST)) (hk252 : ∀ (S : ST) (v2 : Int32) (r : Unit) (S' : ST), k252 S v2 = some (r, S') → Ev mX7_copyFrom 1 0 0 252 [some (.ref 1), some (.ref 35), some (.int v2)] [] (mkS x S) (fun v h => v = none ∧ h = mkS x S')) (S : ST) (v2 : Int32) (r : Unit) (S' : ST) (hm : bfX7_copyFrom_1_35_252 x k252 S v2 = some (r, S')) : Ev mX7_copyFrom 1 0 0 252 [some (.ref 1), some (.ref 35), some (.int v2)] [] (mkS x S) (fun v h => v = none ∧ h = mkS x S') := by
    unfold bfX7_copyFrom_1_35_252 at hm
    refine Ev.steps tokX7_copyFrom 3 (P := True) (pc' := if 6 ≤ v2 then 276 else 258) (lv' := [some (.ref 1), some (.ref 35), some (.int v2)]) (st' := []) (h' := mkS x S) rfl trivial ?_
    refine Ev.ite (fun c1 => ?_) (fun c1 => ?_)
    · rw [if_pos c1] at hm
      cases hm
      exact Ev.retv tokX7_copyFrom rfl rfl ⟨rfl, rfl⟩
    · rw [if_neg c1] at hm
      obtain ⟨o2, hm⟩ := oblk hm
      refine Ev.steps tokX7_copyFrom 7 (P := vp_in v2 6 ∧ True) (pc' := 269) (lv' := [some (.ref 1), some (.ref 35), some (.int v2)]) (st' := [va_rf (S.2.2.2 49 v2.toNatClampNeg), .int v2, .ref 15]) (h' := mkS x S) rfl ⟨inb_ok o2, trivial⟩ ?_
      obtain ⟨o3, hm⟩ := oblk hm
      obtain ⟨o4, hm⟩ := oblk hm
      refine ev_aast (kd := 17) (ci := 9) (r := (S.2.2.2 49 v2.toNatClampNeg)) (dcd tokX7_copyFrom rfl) rfl (Or.inr ⟨rfl, rfl⟩) (inb_ok o3) (qk_ok o4) ?_
      refine Ev.steps tokX7_copyFrom 2 (P := True) (pc' := 252) (lv' := [some (.ref 1), some (.ref 35), some (.int (v2 + 1))]) (st' := []) (h' := mkS x (S.1, S.2.1, S.2.2.1, (u2 S.2.2.2 15 v2.toNatClampNeg (S.2.2.2 49 v2.toNatClampNeg)))) rfl trivial ?_
      exact hk252 (S.1, S.2.1, S.2.2.1, (u2 S.2.2.2 15 v2.toNatClampNeg (S.2.2.2 49 v2.toNatClampNeg))) (v2 + 1) _ _ hm
theorem lpX7_copyFrom_1_35_252 (x : XT)  : ∀ (n : Nat) (S : ST) (v2 : Int32) (r : Unit) (S' : ST), lfX7_copyFrom_1_35_252 x  n S v2 = some (r, S') → Ev mX7_copyFrom 1 0 0 252 [some (.ref 1), some (.ref 35), some (.int v2)] [] (mkS x S) (fun v h => v = none ∧ h = mkS x S')
  | 0, _, _, _, _, hm => by cases hm
  | n + 1, S, v2, r, S', hm => bpX7_copyFrom_1_35_252 x (lfX7_copyFrom_1_35_252 x  n) (lpX7_copyFrom_1_35_252 x  n) S v2 r S' hm
set_option maxHeartbeats 4000000 in
set_option maxRecDepth 20000 in
theorem bpX7_copyFrom_1_35_227 (x : XT) (k227 : ST → Int32 → Option (Unit × ST)) (hk227 : ∀ (S : ST) (v2 : Int32) (r : Unit) (S' : ST), k227 S v2 = some (r, S') → Ev mX7_copyFrom 1 0 0 227 [some (.ref 1), some (.ref 35), some (.int v2)] [] (mkS x S) (fun v h => v = none ∧ h = mkS x S')) (S : ST) (v2 : Int32) (r : Unit) (S' : ST) (hm : bfX7_copyFrom_1_35_227 x k227 S v2 = some (r, S')) : Ev mX7_copyFrom 1 0 0 227 [some (.ref 1), some (.ref 35), some (.int v2)] [] (mkS x S) (fun v h => v = none ∧ h = mkS x S') := by
    unfold bfX7_copyFrom_1_35_227 at hm
    refine Ev.steps tokX7_copyFrom 3 (P := True) (pc' := if 3 ≤ v2 then 250 else 232) (lv' := [some (.ref 1), some (.ref 35), some (.int v2)]) (st' := []) (h' := mkS x S) rfl trivial ?_
    refine Ev.ite (fun c1 => ?_) (fun c1 => ?_)
    · rw [if_pos c1] at hm
      refine Ev.steps tokX7_copyFrom 2 (P := True) (pc' := 252) (lv' := [some (.ref 1), some (.ref 35), some (.int 0)]) (st' := []) (h' := mkS x S) rfl trivial ?_
      exact lpX7_copyFrom_1_35_252 x  20000 S 0 _ _ hm
    · rw [if_neg c1] at hm
      obtain ⟨o2, hm⟩ := oblk hm
      obtain ⟨o3, hm⟩ := oblk hm
      refine Ev.steps tokX7_copyFrom 10 (P := vp_in v2 3 ∧ vp_in v2 3 ∧ True) (pc' := 227) (lv' := [some (.ref 1), some (.ref 35), some (.int (v2 + 1))]) (st' := []) (h' := mkS x (S.1, (u2 S.2.1 14 v2.toNatClampNeg (S.2.1 48 v2.toNatClampNeg)), S.2.2.1, S.2.2.2)) rfl ⟨inb_ok o2, inb_ok o3, trivial⟩ ?_
      exact hk227 (S.1, (u2 S.2.1 14 v2.toNatClampNeg (S.2.1 48 v2.toNatClampNeg)), S.2.2.1, S.2.2.2) (v2 + 1) _ _ hm
theorem lpX7_copyFrom_1_35_227 (x : XT)  : ∀ (n : Nat) (S : ST) (v2 : Int32) (r : Unit) (S' : ST), lfX7_copyFrom_1_35_227 x  n S v2 = some (r, S') → Ev mX7_copyFrom 1 0 0 227 [some (.ref 1), some (.ref 35), some (.int v2)] [] (mkS x S) (fun v h => v = none ∧ h = mkS x S')
  | 0, _, _, _, _, hm => by cases hm
  | n + 1, S, v2, r, S', hm => bpX7_copyFrom_1_35_227 x (lfX7_copyFrom_1_35_227 x  n) (lpX7_copyFrom_1_35_227 x  n) S v2 r S' hm
set_option maxHeartbeats 4000000 in
set_option maxRecDepth 20000 in
theorem bpX7_copyFrom_1_35_177 (x : XT) (k177 : ST → Int32 → Option (Unit × ST)) (hk177 : ∀ (S : ST) (v2 : Int32) (r : Unit) (S' : ST), k177 S v2 = some (r, S') → Ev mX7_copyFrom 1 0 0 177 [some (.ref 1), some (.ref 35), some (.int v2)] [] (mkS x S) (fun v h => v = none ∧ h = mkS x S')) (S : ST) (v2 : Int32) (r : Unit) (S' : ST) (hm : bfX7_copyFrom_1_35_177 x k177 S v2 = some (r, S')) : Ev mX7_copyFrom 1 0 0 177 [some (.ref 1), some (.ref 35), some (.int v2)] [] (mkS x S) (fun v h => v = none ∧ h = mkS x S') := by
    unfold bfX7_copyFrom_1_35_177 at hm
    refine Ev.steps tokX7_copyFrom 3 (P := True) (pc' := if 6 ≤ v2 then 225 else 183) (lv' := [some (.ref 1), some (.ref 35), some (.int v2)]) (st' := []) (h' := mkS x S) rfl trivial ?_
    refine Ev.ite (fun c1 => ?_) (fun c1 => ?_)
    · rw [if_pos c1] at hm
      refine Ev.steps tokX7_copyFrom 2 (P := True) (pc' := 227) (lv' := [some (.ref 1), some (.ref 35), some (.int 0)]) (st' := []) (h' := mkS x S) rfl trivial ?_
      exact lpX7_copyFrom_1_35_227 x  20000 S 0 _ _ hm
    · rw [if_neg c1] at hm
      obtain ⟨o2, hm⟩ := oblk hm
      obtain ⟨o3, hm⟩ := oblk hm
      obtain ⟨o4, hm⟩ := oblk hm
      obtain ⟨o5, hm⟩ := oblk hm
      obtain ⟨o6, hm⟩ := oblk hm
      obtain ⟨o7, hm⟩ := oblk hm
      refine Ev.steps tokX7_copyFrom 26 (P := vp_in v2 6 ∧ vp_in v2 6 ∧ vp_in v2 6 ∧ vp_in v2 6 ∧ vp_in v2 6 ∧ vp_in v2 6 ∧ True) (pc' := 177) (lv' := [some (.ref 1), some (.ref 35), some (.int (v2 + 1))]) (st' := []) (h' := mkS x (S.1, (u2 (u2 (u2 S.2.1 11 v2.toNatClampNeg (S.2.1 45 v2.toNatClampNeg)) 12 v2.toNatClampNeg (S.2.1 46 v2.toNatClampNeg)) 13 v2.toNatClampNeg (S.2.1 47 v2.toNatClampNeg)), S.2.2.1, S.2.2.2)) rfl ⟨inb_ok o2, inb_ok o3, inb_ok o4, inb_ok o5, inb_ok o6, inb_ok o7, trivial⟩ ?_
      exact hk177 (S.1, (u2 (u2 (u2 S.2.1 11 v2.toNatClampNeg (S.2.1 45 v2.toNatClampNeg)) 12 v2.toNatClampNeg (S.2.1 46 v2.toNatClampNeg)) 13 v2.toNatClampNeg (S.2.1 47 v2.toNatClampNeg)), S.2.2.1, S.2.2.2) (v2 + 1) _ _ hm
theorem lpX7_copyFrom_1_35_177 (x : XT)  : ∀ (n : Nat) (S : ST) (v2 : Int32) (r : Unit) (S' : ST), lfX7_copyFrom_1_35_177 x  n S v2 = some (r, S') → Ev mX7_copyFrom 1 0 0 177 [some (.ref 1), some (.ref 35), some (.int v2)] [] (mkS x S) (fun v h => v = none ∧ h = mkS x S')
  | 0, _, _, _, _, hm => by cases hm
  | n + 1, S, v2, r, S', hm => bpX7_copyFrom_1_35_177 x (lfX7_copyFrom_1_35_177 x  n) (lpX7_copyFrom_1_35_177 x  n) S v2 r S' hm
set_option maxHeartbeats 4000000 in
set_option maxRecDepth 20000 in
theorem bpX7_copyFrom_1_35_116 (x : XT) (k116 : ST → Int32 → Option (Unit × ST)) (hk116 : ∀ (S : ST) (v2 : Int32) (r : Unit) (S' : ST), k116 S v2 = some (r, S') → Ev mX7_copyFrom 1 0 0 116 [some (.ref 1), some (.ref 35), some (.int v2)] [] (mkS x S) (fun v h => v = none ∧ h = mkS x S')) (S : ST) (v2 : Int32) (r : Unit) (S' : ST) (hm : bfX7_copyFrom_1_35_116 x k116 S v2 = some (r, S')) : Ev mX7_copyFrom 1 0 0 116 [some (.ref 1), some (.ref 35), some (.int v2)] [] (mkS x S) (fun v h => v = none ∧ h = mkS x S') := by
    unfold bfX7_copyFrom_1_35_116 at hm
    refine Ev.steps tokX7_copyFrom 3 (P := True) (pc' := if 5 ≤ v2 then 175 else 121) (lv' := [some (.ref 1), some (.ref 35), some (.int v2)]) (st' := []) (h' := mkS x S) rfl trivial ?_
    refine Ev.ite (fun c1 => ?_) (fun c1 => ?_)
    · rw [if_pos c1] at hm
      refine Ev.steps tokX7_copyFrom 2 (P := True) (pc' := 177) (lv' := [some (.ref 1), some (.ref 35), some (.int 0)]) (st' := []) (h' := mkS x S) rfl trivial ?_
      exact lpX7_copyFrom_1_35_177 x  20000 S 0 _ _ hm
    · rw [if_neg c1] at hm
      obtain ⟨o2, hm⟩ := oblk hm
      obtain ⟨o3, hm⟩ := oblk hm
      obtain ⟨o4, hm⟩ := oblk hm
      obtain ⟨o5, hm⟩ := oblk hm
      obtain ⟨o6, hm⟩ := oblk hm
      obtain ⟨o7, hm⟩ := oblk hm
      obtain ⟨o8, hm⟩ := oblk hm
      obtain ⟨o9, hm⟩ := oblk hm
      refine Ev.steps tokX7_copyFrom 34 (P := vp_in v2 5 ∧ vp_in v2 5 ∧ vp_in v2 5 ∧ vp_in v2 5 ∧ vp_in v2 5 ∧ vp_in v2 5 ∧ vp_in v2 5 ∧ vp_in v2 5 ∧ True) (pc' := 116) (lv' := [some (.ref 1), some (.ref 35), some (.int (v2 + 1))]) (st' := []) (h' := mkS x (S.1, (u2 (u2 (u2 (u2 S.2.1 7 v2.toNatClampNeg (S.2.1 41 v2.toNatClampNeg)) 8 v2.toNatClampNeg (S.2.1 42 v2.toNatClampNeg)) 9 v2.toNatClampNeg (S.2.1 43 v2.toNatClampNeg)) 10 v2.toNatClampNeg (S.2.1 44 v2.toNatClampNeg)), S.2.2.1, S.2.2.2)) rfl ⟨inb_ok o2, inb_ok o3, inb_ok o4, inb_ok o5, inb_ok o6, inb_ok o7, inb_ok o8, inb_ok o9, trivial⟩ ?_
      exact hk116 (S.1, (u2 (u2 (u2 (u2 S.2.1 7 v2.toNatClampNeg (S.2.1 41 v2.toNatClampNeg)) 8 v2.toNatClampNeg (S.2.1 42 v2.toNatClampNeg)) 9 v2.toNatClampNeg (S.2.1 43 v2.toNatClampNeg)) 10 v2.toNatClampNeg (S.2.1 44 v2.toNatClampNeg)), S.2.2.1, S.2.2.2) (v2 + 1) _ _ hm
theorem lpX7_copyFrom_1_35_116 (x : XT)  : ∀ (n : Nat) (S : ST) (v2 : Int32) (r : Unit) (S' : ST), lfX7_copyFrom_1_35_116 x  n S v2 = some (r, S') → Ev mX7_copyFrom 1 0 0 116 [some (.ref 1), some (.ref 35), some (.int v2)] [] (mkS x S) (fun v h => v = none ∧ h = mkS x S')
  | 0, _, _, _, _, hm => by cases hm
  | n + 1, S, v2, r, S', hm => bpX7_copyFrom_1_35_116 x (lfX7_copyFrom_1_35_116 x  n) (lpX7_copyFrom_1_35_116 x  n) S v2 r S' hm
set_option maxHeartbeats 4000000 in
set_option maxRecDepth 20000 in
theorem bpX7_copyFrom_1_35_42 (x : XT) (k42 : ST → Int32 → Option (Unit × ST)) (hk42 : ∀ (S : ST) (v2 : Int32) (r : Unit) (S' : ST), k42 S v2 = some (r, S') → Ev mX7_copyFrom 1 0 0 42 [some (.ref 1), some (.ref 35), some (.int v2)] [] (mkS x S) (fun v h => v = none ∧ h = mkS x S')) (S : ST) (v2 : Int32) (r : Unit) (S' : ST) (hm : bfX7_copyFrom_1_35_42 x k42 S v2 = some (r, S')) : Ev mX7_copyFrom 1 0 0 42 [some (.ref 1), some (.ref 35), some (.int v2)] [] (mkS x S) (fun v h => v = none ∧ h = mkS x S') := by
    unfold bfX7_copyFrom_1_35_42 at hm
    refine Ev.steps tokX7_copyFrom 3 (P := True) (pc' := if 10 ≤ v2 then 114 else 48) (lv' := [some (.ref 1), some (.ref 35), some (.int v2)]) (st' := []) (h' := mkS x S) rfl trivial ?_
    refine Ev.ite (fun c1 => ?_) (fun c1 => ?_)
    · rw [if_pos c1] at hm
      refine Ev.steps tokX7_copyFrom 2 (P := True) (pc' := 116) (lv' := [some (.ref 1), some (.ref 35), some (.int 0)]) (st' := []) (h' := mkS x S) rfl trivial ?_
      exact lpX7_copyFrom_1_35_116 x  20000 S 0 _ _ hm
    · rw [if_neg c1] at hm
      obtain ⟨o2, hm⟩ := oblk hm
      obtain ⟨o3, hm⟩ := oblk hm
      obtain ⟨o4, hm⟩ := oblk hm
      obtain ⟨o5, hm⟩ := oblk hm
      obtain ⟨o6, hm⟩ := oblk hm
      obtain ⟨o7, hm⟩ := oblk hm
      obtain ⟨o8, hm⟩ := oblk hm
      obtain ⟨o9, hm⟩ := oblk hm
      obtain ⟨o10, hm⟩ := oblk hm
      obtain ⟨o11, hm⟩ := oblk hm
      refine Ev.steps tokX7_copyFrom 42 (P := vp_in v2 10 ∧ vp_in v2 10 ∧ vp_in v2 10 ∧ vp_in v2 10 ∧ vp_in v2 10 ∧ vp_in v2 10 ∧ vp_in v2 10 ∧ vp_in v2 10 ∧ vp_in v2 10 ∧ vp_in v2 10 ∧ True) (pc' := 42) (lv' := [some (.ref 1), some (.ref 35), some (.int (v2 + 1))]) (st' := []) (h' := mkS x (S.1, (u2 (u2 (u2 (u2 (u2 S.2.1 2 v2.toNatClampNeg (S.2.1 36 v2.toNatClampNeg)) 3 v2.toNatClampNeg (S.2.1 37 v2.toNatClampNeg)) 4 v2.toNatClampNeg (S.2.1 38 v2.toNatClampNeg)) 5 v2.toNatClampNeg (S.2.1 39 v2.toNatClampNeg)) 6 v2.toNatClampNeg (vp_nar .boolean (S.2.1 40 v2.toNatClampNeg))), S.2.2.1, S.2.2.2)) rfl ⟨inb_ok o2, inb_ok o3, inb_ok o4, inb_ok o5, inb_ok o6, inb_ok o7, inb_ok o8, inb_ok o9, inb_ok o10, inb_ok o11, trivial⟩ ?_
      exact hk42 (S.1, (u2 (u2 (u2 (u2 (u2 S.2.1 2 v2.toNatClampNeg (S.2.1 36 v2.toNatClampNeg)) 3 v2.toNatClampNeg (S.2.1 37 v2.toNatClampNeg)) 4 v2.toNatClampNeg (S.2.1 38 v2.toNatClampNeg)) 5 v2.toNatClampNeg (S.2.1 39 v2.toNatClampNeg)) 6 v2.toNatClampNeg (vp_nar .boolean (S.2.1 40 v2.toNatClampNeg))), S.2.2.1, S.2.2.2) (v2 + 1) _ _ hm
theorem lpX7_copyFrom_1_35_42 (x : XT)  : ∀ (n : Nat) (S : ST) (v2 : Int32) (r : Unit) (S' : ST), lfX7_copyFrom_1_35_42 x  n S v2 = some (r, S') → Ev mX7_copyFrom 1 0 0 42 [some (.ref 1), some (.ref 35), some (.int v2)] [] (mkS x S) (fun v h => v = none ∧ h = mkS x S')
  | 0, _, _, _, _, hm => by cases hm
  | n + 1, S, v2, r, S', hm => bpX7_copyFrom_1_35_42 x (lfX7_copyFrom_1_35_42 x  n) (lpX7_copyFrom_1_35_42 x  n) S v2 r S' hm
set_option maxHeartbeats 4000000 in
set_option maxRecDepth 20000 in
theorem bpX7_copyFrom_1_35_0 (x : XT)  (S : ST)  (r : Unit) (S' : ST) (hm : bfX7_copyFrom_1_35_0 x  S  = some (r, S')) : Ev mX7_copyFrom 1 0 0 0 [some (.ref 1), some (.ref 35), none] [] (mkS x S) (fun v h => v = none ∧ h = mkS x S') := by
    unfold bfX7_copyFrom_1_35_0 at hm
    refine Ev.steps tokX7_copyFrom 22 (P := True) (pc' := 42) (lv' := [some (.ref 1), some (.ref 35), some (.int 0)]) (st' := []) (h' := mkS x ((u2 (u2 (u2 (u2 (u2 S.1 1 0 (S.1 35 0)) 1 6 (S.1 35 6)) 1 11 (S.1 35 11)) 1 16 (S.1 35 16)) 1 18 (S.1 35 18)), S.2.1, S.2.2.1, S.2.2.2)) rfl trivial ?_
    exact lpX7_copyFrom_1_35_42 x  20000 ((u2 (u2 (u2 (u2 (u2 S.1 1 0 (S.1 35 0)) 1 6 (S.1 35 6)) 1 11 (S.1 35 11)) 1 16 (S.1 35 16)) 1 18 (S.1 35 18)), S.2.1, S.2.2.1, S.2.2.2) 0 _ _ hm
theorem gpX7_copyFrom_1_35 (x : XT) (S : ST)  (r : Unit) (S' : ST) (hm : gfX7_copyFrom_1_35 x S  = some (r, S')) : Ct mX7_copyFrom 1 0 0 [.ref 1, .ref 35] (mkS x S) (fun v h => v = none ∧ h = mkS x S') :=
  Ct.of (lv := [some (.ref 1), some (.ref 35), none]) rfl rfl rfl (show (_ : Nat) ≤ _ from Nat.le_of_ble_eq_true rfl) (fun G => rfl) (bpX7_copyFrom_1_35_0 x S  r S' hm)
set_option maxHeartbeats 4000000 in
set_option maxRecDepth 20000 in
theorem bpX1_restoreAhead_33_0 (x : XT)  (S : ST)  (r : Unit) (S' : ST) (hm : bfX1_restoreAhead_33_0 x  S  = some (r, S')) : Ev mX1_restoreAhead 2 0 0 0 [some (.ref 33)] [] (mkS x S) (fun v h => v = none ∧ h = mkS x S') := by
    unfold bfX1_restoreAhead_33_0 at hm
    refine Ev.steps tokX1_restoreAhead 4 (P := True) (pc' := 8) (lv' := [some (.ref 33)]) (st' := [.ref 35, .ref 1]) (h' := mkS x S) rfl trivial ?_
    cases h1 : gfX7_copyFrom_1_35 x S with
    | none => rw [h1] at hm; cases hm
    | some q2 =>
      obtain ⟨r3, S4⟩ := q2
      rw [h1] at hm
      dsimp only at hm
      refine ev_callV (N := mX7_copyFrom) (d' := 1) (bc := 0) (bs := 0) (bc' := 0) (bs' := 0) (as := [.ref 35]) (rest := []) (a := 1) (ci := 7) (dcd tokX1_restoreAhead rfl) okX7_copyFrom inX7_copyFrom seX7_copyFrom lk1_89 rfl (by decide) (Nat.le_of_ble_eq_true rfl) rfl ⟨by decide, rfl⟩ (gpX7_copyFrom_1_35 x S _ _ h1) (fun v h' hq hn => ?_)
      obtain ⟨rfl, rfl⟩ := hq
      refine Ev.steps tokX1_restoreAhead 9 (P := True) (pc' := 26) (lv' := [some (.ref 33)]) (st' := [.int 80, .int 0, .ref 34, .int 0, .ref 50]) (h' := mkS x S4) rfl trivial ?_
      refine ev_copyi (sp' := 0) (dp' := 0) (n' := 80) (dcd tokX1_restoreAhead rfl) lk1_83 mt_ac.2 mt_ac.1 mt_in.2 (by decide) (Nat.le_of_ble_eq_true rfl) rfl rfl (by decide) (by decide) (by decide) (by decide) (by decide) (by decide) (Nat.le_of_ble_eq_true rfl) (Nat.le_of_ble_eq_true rfl) ?_
      refine Ev.steps tokX1_restoreAhead 4 (P := True) (pc' := 37) (lv' := [some (.ref 33)]) (st' := []) (h' := mkS x ((u2 S4.1 33 0 (S4.1 33 6)), (u1 S4.2.1 34 (va_cpy (S4.2.1 50) (S4.2.1 34) 0 0 80)), S4.2.2.1, S4.2.2.2)) rfl trivial ?_
      cases hm
      exact Ev.retv tokX1_restoreAhead rfl rfl ⟨rfl, rfl⟩
theorem gpX1_restoreAhead_33 (x : XT) (S : ST)  (r : Unit) (S' : ST) (hm : gfX1_restoreAhead_33 x S  = some (r, S')) : Ct mX1_restoreAhead 2 0 0 [.ref 33] (mkS x S) (fun v h => v = none ∧ h = mkS x S') :=
  Ct.of (lv := [some (.ref 33)]) rfl rfl rfl (show (_ : Nat) ≤ _ from Nat.le_of_ble_eq_true rfl) (fun G => rfl) (bpX1_restoreAhead_33_0 x S  r S' hm)
set_option maxHeartbeats 4000000 in
set_option maxRecDepth 20000 in
theorem bpX10_orders_0_0 (x : XT)  (S : ST)  (r : Int32) (S' : ST) (hm : bfX10_orders_0_0 x  S  = some (r, S')) : Ev mX10_orders 67 0 0 0 [some (.ref 0)] [] (mkS x S) (fun v h => v = some (.int r) ∧ h = mkS x S') := by
    unfold bfX10_orders_0_0 at hm
    refine Ev.steps tokX10_orders 5 (P := True) (pc' := 7) (lv' := [some (.ref 0)]) (st' := [.int 1, .ref 0]) (h' := mkS x ((u2 S.1 0 14 (-1)), S.2.1, S.2.2.1, S.2.2.2)) rfl trivial ?_
    cases h1 : gfX10_readTape_0 x ((u2 S.1 0 14 (-1)), S.2.1, S.2.2.1, S.2.2.2) 1 with
    | none => rw [h1] at hm; cases hm
    | some q2 =>
      obtain ⟨r3, S4⟩ := q2
      rw [h1] at hm
      dsimp only at hm
      refine ev_callV (N := mX10_readTape) (d' := 66) (bc := 0) (bs := 0) (bc' := 0) (bs' := 0) (as := [.int 1]) (rest := []) (a := 0) (ci := 10) (dcd tokX10_orders rfl) okX10_readTape inX10_readTape seX10_readTape lk10_189 rfl (by decide) (Nat.le_of_ble_eq_true rfl) rfl ⟨by decide, rfl⟩ (gpX10_readTape_0 x ((u2 S.1 0 14 (-1)), S.2.1, S.2.2.1, S.2.2.2) 1 _ _ h1) (fun v h' hq hn => ?_)
      obtain ⟨rfl, rfl⟩ := hq
      refine Ev.steps tokX10_orders 1 (P := True) (pc' := if ¬ r3 = 0 then 20 else 13) (lv' := [some (.ref 0)]) (st' := []) (h' := mkS x S4) rfl trivial ?_
      refine Ev.ite (fun c5 => ?_) (fun c5 => ?_)
      · rw [if_pos c5] at hm
        refine Ev.steps tokX10_orders 2 (P := True) (pc' := 24) (lv' := [some (.ref 0)]) (st' := [.ref 33]) (h' := mkS x S4) rfl trivial ?_
        cases h6 : gfX1_keepAhead_33 x S4 with
        | none => rw [h6] at hm; cases hm
        | some q7 =>
          obtain ⟨r8, S9⟩ := q7
          rw [h6] at hm
          dsimp only at hm
          refine ev_callV (N := mX1_keepAhead) (d' := 2) (bc := 0) (bs := 0) (bc' := 0) (bs' := 0) (as := []) (rest := []) (a := 33) (ci := 1) (dcd tokX10_orders rfl) okX1_keepAhead inX1_keepAhead seX1_keepAhead lk10_207 rfl (by decide) (Nat.le_of_ble_eq_true rfl) rfl ⟨by decide, rfl⟩ (gpX1_keepAhead_33 x S4 _ _ h6) (fun v h' hq hn => ?_)
          obtain ⟨rfl, rfl⟩ := hq
          refine Ev.steps tokX10_orders 6 (P := True) (pc' := 39) (lv' := [some (.ref 0)]) (st' := [.ref 25, .ref 51, .ref 0]) (h' := mkS x S9) rfl trivial ?_
          cases h10 : gfX5_run_51_25 x S9 with
          | none => rw [h10] at hm; cases hm
          | some q11 =>
            obtain ⟨r12, S13⟩ := q11
            rw [h10] at hm
            dsimp only at hm
            refine ev_callV (N := mX5_run) (d' := 7) (bc := 0) (bs := 0) (bc' := 0) (bs' := 0) (as := [.ref 25]) (rest := [.ref 0]) (a := 51) (ci := 5) (dcd tokX10_orders rfl) okX5_run inX5_run seX5_run lk10_210 rfl (by decide) (Nat.le_of_ble_eq_true rfl) rfl ⟨by decide, rfl⟩ (gpX5_run_51_25 x S9 _ _ h10) (fun v h' hq hn => ?_)
            obtain ⟨rfl, rfl⟩ := hq
            refine Ev.steps tokX10_orders 5 (P := True) (pc' := if r12 = (-1) then 67 else 53) (lv' := [some (.ref 0)]) (st' := []) (h' := mkS x ((u2 S13.1 0 14 r12), S13.2.1, S13.2.2.1, S13.2.2.2)) rfl trivial ?_
            refine Ev.ite (fun c14 => ?_) (fun c14 => ?_)
            · rw [if_pos c14] at hm
              refine Ev.steps tokX10_orders 4 (P := True) (pc' := 75) (lv' := [some (.ref 0)]) (st' := [.int (S13.1 51 0), .ref 0]) (h' := mkS x ((u2 S13.1 0 14 r12), S13.2.1, S13.2.2.1, S13.2.2.2)) rfl trivial ?_
              cases h15 : gfX10_told_0 x ((u2 S13.1 0 14 r12), S13.2.1, S13.2.2.1, S13.2.2.2) (S13.1 51 0) with
              | none => rw [h15] at hm; cases hm
              | some q16 =>
                obtain ⟨r17, S18⟩ := q16
                rw [h15] at hm
                dsimp only at hm
                refine ev_callV (N := mX10_told) (d' := 1) (bc := 0) (bs := 0) (bc' := 0) (bs' := 0) (as := [.int (S13.1 51 0)]) (rest := []) (a := 0) (ci := 10) (dcd tokX10_orders rfl) okX10_told inX10_told seX10_told lk10_178 rfl (by decide) (Nat.le_of_ble_eq_true rfl) rfl ⟨by decide, rfl⟩ (gpX10_told_0 x ((u2 S13.1 0 14 r12), S13.2.1, S13.2.2.1, S13.2.2.2) (S13.1 51 0) _ _ h15) (fun v h' hq hn => ?_)
                obtain ⟨rfl, rfl⟩ := hq
                cases hm
                exact Ev.reti tokX10_orders rfl rfl ⟨rfl, rfl⟩
            · rw [if_neg c14] at hm
              refine Ev.steps tokX10_orders 2 (P := True) (pc' := 57) (lv' := [some (.ref 0)]) (st' := [.ref 33]) (h' := mkS x ((u2 S13.1 0 14 r12), S13.2.1, S13.2.2.1, S13.2.2.2)) rfl trivial ?_
              cases h19 : gfX1_restoreAhead_33 x ((u2 S13.1 0 14 r12), S13.2.1, S13.2.2.1, S13.2.2.2) with
              | none => rw [h19] at hm; cases hm
              | some q20 =>
                obtain ⟨r21, S22⟩ := q20
                rw [h19] at hm
                dsimp only at hm
                refine ev_callV (N := mX1_restoreAhead) (d' := 2) (bc := 0) (bs := 0) (bc' := 0) (bs' := 0) (as := []) (rest := []) (a := 33) (ci := 1) (dcd tokX10_orders rfl) okX1_restoreAhead inX1_restoreAhead seX1_restoreAhead lk10_213 rfl (by decide) (Nat.le_of_ble_eq_true rfl) rfl ⟨by decide, rfl⟩ (gpX1_restoreAhead_33 x ((u2 S13.1 0 14 r12), S13.2.1, S13.2.2.1, S13.2.2.2) _ _ h19) (fun v h' hq hn => ?_)
                obtain ⟨rfl, rfl⟩ := hq
                refine Ev.steps tokX10_orders 2 (P := True) (pc' := 63) (lv' := [some (.ref 0)]) (st' := [.int (-3), .ref 0]) (h' := mkS x S22) rfl trivial ?_
                cases h23 : gfX10_told_0 x S22 (-3) with
                | none => rw [h23] at hm; cases hm
                | some q24 =>
                  obtain ⟨r25, S26⟩ := q24
                  rw [h23] at hm
                  dsimp only at hm
                  refine ev_callV (N := mX10_told) (d' := 1) (bc := 0) (bs := 0) (bc' := 0) (bs' := 0) (as := [.int (-3)]) (rest := []) (a := 0) (ci := 10) (dcd tokX10_orders rfl) okX10_told inX10_told seX10_told lk10_178 rfl (by decide) (Nat.le_of_ble_eq_true rfl) rfl ⟨by decide, rfl⟩ (gpX10_told_0 x S22 (-3) _ _ h23) (fun v h' hq hn => ?_)
                  obtain ⟨rfl, rfl⟩ := hq
                  cases hm
                  exact Ev.reti tokX10_orders rfl rfl ⟨rfl, rfl⟩
      · rw [if_neg c5] at hm
        refine Ev.steps tokX10_orders 2 (P := True) (pc' := 16) (lv' := [some (.ref 0)]) (st' := [.int (-6), .ref 0]) (h' := mkS x S4) rfl trivial ?_
        cases h27 : gfX10_told_0 x S4 (-6) with
        | none => rw [h27] at hm; cases hm
        | some q28 =>
          obtain ⟨r29, S30⟩ := q28
          rw [h27] at hm
          dsimp only at hm
          refine ev_callV (N := mX10_told) (d' := 1) (bc := 0) (bs := 0) (bc' := 0) (bs' := 0) (as := [.int (-6)]) (rest := []) (a := 0) (ci := 10) (dcd tokX10_orders rfl) okX10_told inX10_told seX10_told lk10_178 rfl (by decide) (Nat.le_of_ble_eq_true rfl) rfl ⟨by decide, rfl⟩ (gpX10_told_0 x S4 (-6) _ _ h27) (fun v h' hq hn => ?_)
          obtain ⟨rfl, rfl⟩ := hq
          cases hm
          exact Ev.reti tokX10_orders rfl rfl ⟨rfl, rfl⟩
theorem gpX10_orders_0 (x : XT) (S : ST)  (r : Int32) (S' : ST) (hm : gfX10_orders_0 x S  = some (r, S')) : Ct mX10_orders 67 0 0 [.ref 0] (mkS x S) (fun v h => v = some (.int r) ∧ h = mkS x S') :=
  Ct.of (lv := [some (.ref 0)]) rfl rfl rfl (show (_ : Nat) ≤ _ from Nat.le_of_ble_eq_true rfl) (fun G => rfl) (bpX10_orders_0_0 x S  r S' hm)
set_option maxHeartbeats 4000000 in
set_option maxRecDepth 20000 in
theorem bpX10_fault_0_0 (x : XT)  (S : ST)  (r : Int32) (S' : ST) (hm : bfX10_fault_0_0 x  S  = some (r, S')) : Ev mX10_fault 1 0 0 0 [some (.ref 0)] [] (mkS x S) (fun v h => v = some (.int r) ∧ h = mkS x S') := by
    unfold bfX10_fault_0_0 at hm
    refine Ev.steps tokX10_fault 2 (P := True) (pc' := 4) (lv' := [some (.ref 0)]) (st' := [.int (S.1 0 13)]) (h' := mkS x S) rfl trivial ?_
    cases hm
    exact Ev.reti tokX10_fault rfl rfl ⟨rfl, rfl⟩
theorem gpX10_fault_0 (x : XT) (S : ST)  (r : Int32) (S' : ST) (hm : gfX10_fault_0 x S  = some (r, S')) : Ct mX10_fault 1 0 0 [.ref 0] (mkS x S) (fun v h => v = some (.int r) ∧ h = mkS x S') :=
  Ct.of (lv := [some (.ref 0)]) rfl rfl rfl (show (_ : Nat) ≤ _ from Nat.le_of_ble_eq_true rfl) (fun G => rfl) (bpX10_fault_0_0 x S  r S' hm)
set_option maxHeartbeats 4000000 in
set_option maxRecDepth 20000 in
theorem bpX10_stopped_0_0 (x : XT)  (S : ST)  (r : Int32) (S' : ST) (hm : bfX10_stopped_0_0 x  S  = some (r, S')) : Ev mX10_stopped 1 0 0 0 [some (.ref 0)] [] (mkS x S) (fun v h => v = some (.int r) ∧ h = mkS x S') := by
    unfold bfX10_stopped_0_0 at hm
    refine Ev.steps tokX10_stopped 2 (P := True) (pc' := 4) (lv' := [some (.ref 0)]) (st' := [.int (S.1 0 14)]) (h' := mkS x S) rfl trivial ?_
    cases hm
    exact Ev.reti tokX10_stopped rfl rfl ⟨rfl, rfl⟩
theorem gpX10_stopped_0 (x : XT) (S : ST)  (r : Int32) (S' : ST) (hm : gfX10_stopped_0 x S  = some (r, S')) : Ct mX10_stopped 1 0 0 [.ref 0] (mkS x S) (fun v h => v = some (.int r) ∧ h = mkS x S') :=
  Ct.of (lv := [some (.ref 0)]) rfl rfl rfl (show (_ : Nat) ≤ _ from Nat.le_of_ble_eq_true rfl) (fun G => rfl) (bpX10_stopped_0_0 x S  r S' hm)
set_option maxHeartbeats 4000000 in
set_option maxRecDepth 20000 in
theorem bpX10_force_0_23 (x : XT)  (S : ST) (v1 : Int32) (r : Int32) (S' : ST) (hm : bfX10_force_0_23 x  S v1 = some (r, S')) : Ev mX10_force 2 0 0 23 [some (.ref 0), some (.int v1), none] [] (mkS x S) (fun v h => v = some (.int r) ∧ h = mkS x S') := by
    unfold bfX10_force_0_23 at hm
    refine Ev.steps tokX10_force 2 (P := True) (pc' := 25) (lv' := [some (.ref 0), some (.int v1), none]) (st' := [.int 0, .ref 0]) (h' := mkS x S) rfl trivial ?_
    cases h1 : gfX10_told_0 x S 0 with
    | none => rw [h1] at hm; cases hm
    | some q2 =>
      obtain ⟨r3, S4⟩ := q2
      rw [h1] at hm
      dsimp only at hm
      refine ev_callV (N := mX10_told) (d' := 1) (bc := 0) (bs := 0) (bc' := 0) (bs' := 0) (as := [.int 0]) (rest := []) (a := 0) (ci := 10) (dcd tokX10_force rfl) okX10_told inX10_told seX10_told lk10_178 rfl (by decide) (Nat.le_of_ble_eq_true rfl) rfl ⟨by decide, rfl⟩ (gpX10_told_0 x S 0 _ _ h1) (fun v h' hq hn => ?_)
      obtain ⟨rfl, rfl⟩ := hq
      refine Ev.steps tokX10_force 10 (P := True) (pc' := 46) (lv' := [some (.ref 0), some (.int v1), some (.int (S4.1 1 18))]) (st' := [.int (S4.1 1 18)]) (h' := mkS x ((u2 S4.1 1 18 v1), S4.2.1, S4.2.2.1, S4.2.2.2)) rfl trivial ?_
      cases hm
      exact Ev.reti tokX10_force rfl rfl ⟨rfl, rfl⟩
set_option maxHeartbeats 4000000 in
set_option maxRecDepth 20000 in
theorem bpX10_force_0_0 (x : XT)  (S : ST) (p1 : Int32) (r : Int32) (S' : ST) (hm : bfX10_force_0_0 x  S p1 = some (r, S')) : Ev mX10_force 2 0 0 0 [some (.ref 0), some (.int p1), none] [] (mkS x S) (fun v h => v = some (.int r) ∧ h = mkS x S') := by
    unfold bfX10_force_0_0 at hm
    refine Ev.steps tokX10_force 3 (P := True) (pc' := if p1 = (-1) then 23 else 5) (lv' := [some (.ref 0), some (.int p1), none]) (st' := []) (h' := mkS x S) rfl trivial ?_
    refine Ev.ite (fun c1 => ?_) (fun c1 => ?_)
    · rw [if_pos c1] at hm
      exact bpX10_force_0_23 x S p1 _ _ hm
    · rw [if_neg c1] at hm
      refine Ev.steps tokX10_force 3 (P := True) (pc' := 10) (lv' := [some (.ref 0), some (.int p1), none]) (st' := [.int p1, .ref 1]) (h' := mkS x S) rfl trivial ?_
      cases h2 : gfX7_hasLaw_1 x S p1 with
      | none => rw [h2] at hm; cases hm
      | some q3 =>
        obtain ⟨r4, S5⟩ := q3
        rw [h2] at hm
        dsimp only at hm
        refine ev_callV (N := mX7_hasLaw) (d' := 1) (bc := 0) (bs := 0) (bc' := 0) (bs' := 0) (as := [.int p1]) (rest := []) (a := 1) (ci := 7) (dcd tokX10_force rfl) okX7_hasLaw inX7_hasLaw seX7_hasLaw lk10_219 rfl (by decide) (Nat.le_of_ble_eq_true rfl) rfl ⟨by decide, rfl⟩ (gpX7_hasLaw_1 x S p1 _ _ h2) (fun v h' hq hn => ?_)
        obtain ⟨rfl, rfl⟩ := hq
        refine Ev.steps tokX10_force 1 (P := True) (pc' := if ¬ r4 = 0 then 23 else 16) (lv' := [some (.ref 0), some (.int p1), none]) (st' := []) (h' := mkS x S5) rfl trivial ?_
        refine Ev.ite (fun c6 => ?_) (fun c6 => ?_)
        · rw [if_pos c6] at hm
          exact bpX10_force_0_23 x S5 p1 _ _ hm
        · rw [if_neg c6] at hm
          refine Ev.steps tokX10_force 2 (P := True) (pc' := 19) (lv' := [some (.ref 0), some (.int p1), none]) (st' := [.int (-2), .ref 0]) (h' := mkS x S5) rfl trivial ?_
          cases h7 : gfX10_told_0 x S5 (-2) with
          | none => rw [h7] at hm; cases hm
          | some q8 =>
            obtain ⟨r9, S10⟩ := q8
            rw [h7] at hm
            dsimp only at hm
            refine ev_callV (N := mX10_told) (d' := 1) (bc := 0) (bs := 0) (bc' := 0) (bs' := 0) (as := [.int (-2)]) (rest := []) (a := 0) (ci := 10) (dcd tokX10_force rfl) okX10_told inX10_told seX10_told lk10_178 rfl (by decide) (Nat.le_of_ble_eq_true rfl) rfl ⟨by decide, rfl⟩ (gpX10_told_0 x S5 (-2) _ _ h7) (fun v h' hq hn => ?_)
            obtain ⟨rfl, rfl⟩ := hq
            cases hm
            exact Ev.reti tokX10_force rfl rfl ⟨rfl, rfl⟩
theorem gpX10_force_0 (x : XT) (S : ST) (p1 : Int32) (r : Int32) (S' : ST) (hm : gfX10_force_0 x S p1 = some (r, S')) : Ct mX10_force 2 0 0 [.ref 0, .int p1] (mkS x S) (fun v h => v = some (.int r) ∧ h = mkS x S') :=
  Ct.of (lv := [some (.ref 0), some (.int p1), none]) rfl rfl rfl (show (_ : Nat) ≤ _ from Nat.le_of_ble_eq_true rfl) (fun G => rfl) (bpX10_force_0_0 x S p1 r S' hm)
set_option maxHeartbeats 4000000 in
set_option maxRecDepth 20000 in
theorem bpX10_go_0_0 (x : XT)  (S : ST) (p1 : Int32) (p2 : Int32) (r : Int32) (S' : ST) (hm : bfX10_go_0_0 x  S p1 p2 = some (r, S')) : Ev mX10_go 6 0 0 0 [some (.ref 0), some (.int p1), some (.int p2)] [] (mkS x S) (fun v h => v = some (.int r) ∧ h = mkS x S') := by
    unfold bfX10_go_0_0 at hm
    refine Ev.steps tokX10_go 5 (P := True) (pc' := 7) (lv' := [some (.ref 0), some (.int p1), some (.int p2)]) (st' := [.int p2, .int p1, .ref 33, .ref 0]) (h' := mkS x S) rfl trivial ?_
    cases h1 : gfX1_sendThrough_33 x S p1 p2 with
    | none => rw [h1] at hm; cases hm
    | some q2 =>
      obtain ⟨r3, S4⟩ := q2
      rw [h1] at hm
      dsimp only at hm
      refine ev_callV (N := mX1_sendThrough) (d' := 5) (bc := 0) (bs := 0) (bc' := 0) (bs' := 0) (as := [.int p1, .int p2]) (rest := [.ref 0]) (a := 33) (ci := 1) (dcd tokX10_go rfl) okX1_sendThrough inX1_sendThrough seX1_sendThrough lk10_225 rfl (by decide) (Nat.le_of_ble_eq_true rfl) rfl ⟨by decide, rfl⟩ (gpX1_sendThrough_33 x S p1 p2 _ _ h1) (fun v h' hq hn => ?_)
      obtain ⟨rfl, rfl⟩ := hq
      cases h5 : gfX10_told_0 x S4 r3 with
      | none => rw [h5] at hm; cases hm
      | some q6 =>
        obtain ⟨r7, S8⟩ := q6
        rw [h5] at hm
        dsimp only at hm
        refine ev_callV (N := mX10_told) (d' := 1) (bc := 0) (bs := 0) (bc' := 0) (bs' := 0) (as := [.int r3]) (rest := []) (a := 0) (ci := 10) (dcd tokX10_go rfl) okX10_told inX10_told seX10_told lk10_178 rfl (by decide) (Nat.le_of_ble_eq_true rfl) rfl ⟨by decide, rfl⟩ (gpX10_told_0 x S4 r3 _ _ h5) (fun v h' hq hn => ?_)
        obtain ⟨rfl, rfl⟩ := hq
        cases hm
        exact Ev.reti tokX10_go rfl rfl ⟨rfl, rfl⟩
theorem gpX10_go_0 (x : XT) (S : ST) (p1 : Int32) (p2 : Int32) (r : Int32) (S' : ST) (hm : gfX10_go_0 x S p1 p2 = some (r, S')) : Ct mX10_go 6 0 0 [.ref 0, .int p1, .int p2] (mkS x S) (fun v h => v = some (.int r) ∧ h = mkS x S') :=
  Ct.of (lv := [some (.ref 0), some (.int p1), some (.int p2)]) rfl rfl rfl (show (_ : Nat) ≤ _ from Nat.le_of_ble_eq_true rfl) (fun G => rfl) (bpX10_go_0_0 x S p1 p2 r S' hm)
set_option maxHeartbeats 4000000 in
set_option maxRecDepth 20000 in
theorem bpX10_latch_0_0 (x : XT)  (S : ST) (p1 : Int32) (r : Int32) (S' : ST) (hm : bfX10_latch_0_0 x  S p1 = some (r, S')) : Ev mX10_latch 3 0 0 0 [some (.ref 0), some (.int p1)] [] (mkS x S) (fun v h => v = some (.int r) ∧ h = mkS x S') := by
    unfold bfX10_latch_0_0 at hm
    refine Ev.steps tokX10_latch 4 (P := True) (pc' := 6) (lv' := [some (.ref 0), some (.int p1)]) (st' := [.int p1, .ref 33, .ref 0]) (h' := mkS x S) rfl trivial ?_
    cases h1 : gfX1_flip_33 x S p1 with
    | none => rw [h1] at hm; cases hm
    | some q2 =>
      obtain ⟨r3, S4⟩ := q2
      rw [h1] at hm
      dsimp only at hm
      refine ev_callV (N := mX1_flip) (d' := 2) (bc := 0) (bs := 0) (bc' := 0) (bs' := 0) (as := [.int p1]) (rest := [.ref 0]) (a := 33) (ci := 1) (dcd tokX10_latch rfl) okX1_flip inX1_flip seX1_flip lk10_228 rfl (by decide) (Nat.le_of_ble_eq_true rfl) rfl ⟨by decide, rfl⟩ (gpX1_flip_33 x S p1 _ _ h1) (fun v h' hq hn => ?_)
      obtain ⟨rfl, rfl⟩ := hq
      cases h5 : gfX10_told_0 x S4 r3 with
      | none => rw [h5] at hm; cases hm
      | some q6 =>
        obtain ⟨r7, S8⟩ := q6
        rw [h5] at hm
        dsimp only at hm
        refine ev_callV (N := mX10_told) (d' := 1) (bc := 0) (bs := 0) (bc' := 0) (bs' := 0) (as := [.int r3]) (rest := []) (a := 0) (ci := 10) (dcd tokX10_latch rfl) okX10_told inX10_told seX10_told lk10_178 rfl (by decide) (Nat.le_of_ble_eq_true rfl) rfl ⟨by decide, rfl⟩ (gpX10_told_0 x S4 r3 _ _ h5) (fun v h' hq hn => ?_)
        obtain ⟨rfl, rfl⟩ := hq
        cases hm
        exact Ev.reti tokX10_latch rfl rfl ⟨rfl, rfl⟩
theorem gpX10_latch_0 (x : XT) (S : ST) (p1 : Int32) (r : Int32) (S' : ST) (hm : gfX10_latch_0 x S p1 = some (r, S')) : Ct mX10_latch 3 0 0 [.ref 0, .int p1] (mkS x S) (fun v h => v = some (.int r) ∧ h = mkS x S') :=
  Ct.of (lv := [some (.ref 0), some (.int p1)]) rfl rfl rfl (show (_ : Nat) ≤ _ from Nat.le_of_ble_eq_true rfl) (fun G => rfl) (bpX10_latch_0_0 x S p1 r S' hm)
set_option maxHeartbeats 4000000 in
set_option maxRecDepth 20000 in
theorem bpX10_set_0_0 (x : XT)  (S : ST) (p1 : Int32) (p2 : Int32) (r : Int32) (S' : ST) (hm : bfX10_set_0_0 x  S p1 p2 = some (r, S')) : Ev mX10_set 3 0 0 0 [some (.ref 0), some (.int p1), some (.int p2)] [] (mkS x S) (fun v h => v = some (.int r) ∧ h = mkS x S') := by
    unfold bfX10_set_0_0 at hm
    refine Ev.steps tokX10_set 5 (P := True) (pc' := 7) (lv' := [some (.ref 0), some (.int p1), some (.int p2)]) (st' := [.int p2, .int p1, .ref 33, .ref 0]) (h' := mkS x S) rfl trivial ?_
    cases h1 : gfX1_changeArm_33 x S p1 p2 with
    | none => rw [h1] at hm; cases hm
    | some q2 =>
      obtain ⟨r3, S4⟩ := q2
      rw [h1] at hm
      dsimp only at hm
      refine ev_callV (N := mX1_changeArm) (d' := 2) (bc := 0) (bs := 0) (bc' := 0) (bs' := 0) (as := [.int p1, .int p2]) (rest := [.ref 0]) (a := 33) (ci := 1) (dcd tokX10_set rfl) okX1_changeArm inX1_changeArm seX1_changeArm lk10_231 rfl (by decide) (Nat.le_of_ble_eq_true rfl) rfl ⟨by decide, rfl⟩ (gpX1_changeArm_33 x S p1 p2 _ _ h1) (fun v h' hq hn => ?_)
      obtain ⟨rfl, rfl⟩ := hq
      cases h5 : gfX10_told_0 x S4 r3 with
      | none => rw [h5] at hm; cases hm
      | some q6 =>
        obtain ⟨r7, S8⟩ := q6
        rw [h5] at hm
        dsimp only at hm
        refine ev_callV (N := mX10_told) (d' := 1) (bc := 0) (bs := 0) (bc' := 0) (bs' := 0) (as := [.int r3]) (rest := []) (a := 0) (ci := 10) (dcd tokX10_set rfl) okX10_told inX10_told seX10_told lk10_178 rfl (by decide) (Nat.le_of_ble_eq_true rfl) rfl ⟨by decide, rfl⟩ (gpX10_told_0 x S4 r3 _ _ h5) (fun v h' hq hn => ?_)
        obtain ⟨rfl, rfl⟩ := hq
        cases hm
        exact Ev.reti tokX10_set rfl rfl ⟨rfl, rfl⟩
theorem gpX10_set_0 (x : XT) (S : ST) (p1 : Int32) (p2 : Int32) (r : Int32) (S' : ST) (hm : gfX10_set_0 x S p1 p2 = some (r, S')) : Ct mX10_set 3 0 0 [.ref 0, .int p1, .int p2] (mkS x S) (fun v h => v = some (.int r) ∧ h = mkS x S') :=
  Ct.of (lv := [some (.ref 0), some (.int p1), some (.int p2)]) rfl rfl rfl (show (_ : Nat) ≤ _ from Nat.le_of_ble_eq_true rfl) (fun G => rfl) (bpX10_set_0_0 x S p1 p2 r S' hm)
set_option maxHeartbeats 4000000 in
set_option maxRecDepth 20000 in
theorem bpX10_pass_0_0 (x : XT)  (S : ST)  (r : Int32) (S' : ST) (hm : bfX10_pass_0_0 x  S  = some (r, S')) : Ev mX10_pass 3 0 0 0 [some (.ref 0)] [] (mkS x S) (fun v h => v = some (.int r) ∧ h = mkS x S') := by
    unfold bfX10_pass_0_0 at hm
    refine Ev.steps tokX10_pass 3 (P := True) (pc' := 5) (lv' := [some (.ref 0)]) (st' := [.ref 33, .ref 0]) (h' := mkS x S) rfl trivial ?_
    cases h1 : gfX1_nextDay_33 x S with
    | none => rw [h1] at hm; cases hm
    | some q2 =>
      obtain ⟨r3, S4⟩ := q2
      rw [h1] at hm
      dsimp only at hm
      refine ev_callV (N := mX1_nextDay) (d' := 2) (bc := 0) (bs := 0) (bc' := 0) (bs' := 0) (as := []) (rest := [.ref 0]) (a := 33) (ci := 1) (dcd tokX10_pass rfl) okX1_nextDay inX1_nextDay seX1_nextDay lk10_234 rfl (by decide) (Nat.le_of_ble_eq_true rfl) rfl ⟨by decide, rfl⟩ (gpX1_nextDay_33 x S _ _ h1) (fun v h' hq hn => ?_)
      obtain ⟨rfl, rfl⟩ := hq
      cases h5 : gfX10_told_0 x S4 r3 with
      | none => rw [h5] at hm; cases hm
      | some q6 =>
        obtain ⟨r7, S8⟩ := q6
        rw [h5] at hm
        dsimp only at hm
        refine ev_callV (N := mX10_told) (d' := 1) (bc := 0) (bs := 0) (bc' := 0) (bs' := 0) (as := [.int r3]) (rest := []) (a := 0) (ci := 10) (dcd tokX10_pass rfl) okX10_told inX10_told seX10_told lk10_178 rfl (by decide) (Nat.le_of_ble_eq_true rfl) rfl ⟨by decide, rfl⟩ (gpX10_told_0 x S4 r3 _ _ h5) (fun v h' hq hn => ?_)
        obtain ⟨rfl, rfl⟩ := hq
        cases hm
        exact Ev.reti tokX10_pass rfl rfl ⟨rfl, rfl⟩
theorem gpX10_pass_0 (x : XT) (S : ST)  (r : Int32) (S' : ST) (hm : gfX10_pass_0 x S  = some (r, S')) : Ct mX10_pass 3 0 0 [.ref 0] (mkS x S) (fun v h => v = some (.int r) ∧ h = mkS x S') :=
  Ct.of (lv := [some (.ref 0)]) rfl rfl rfl (show (_ : Nat) ≤ _ from Nat.le_of_ble_eq_true rfl) (fun G => rfl) (bpX10_pass_0_0 x S  r S' hm)
set_option maxHeartbeats 4000000 in
set_option maxRecDepth 20000 in
theorem bpX1_takeBack_33_233 (x : XT)  (S : ST) (v1 : Int32) (r : Int32) (S' : ST) (hm : bfX1_takeBack_33_233 x  S v1 = some (r, S')) : Ev mX1_takeBack 2 0 0 233 [some (.ref 33), some (.int v1), none] [] (mkS x S) (fun v h => v = some (.int r) ∧ h = mkS x S') := by
    unfold bfX1_takeBack_33_233 at hm
    obtain ⟨o1, hm⟩ := oblk hm
    refine Ev.steps tokX1_takeBack 6 (P := vp_in v1 80 ∧ True) (pc' := 243) (lv' := [some (.ref 33), some (.int v1), none]) (st' := [.int ((S.2.1 34 v1.toNatClampNeg) - 263)]) (h' := mkS x S) rfl ⟨inb_ok o1, trivial⟩ ?_
    cases hm
    exact Ev.reti tokX1_takeBack rfl rfl ⟨rfl, rfl⟩
set_option maxHeartbeats 4000000 in
set_option maxRecDepth 20000 in
theorem bpX1_takeBack_33_208 (x : XT)  (S : ST) (v1 : Int32) (r : Int32) (S' : ST) (hm : bfX1_takeBack_33_208 x  S v1 = some (r, S')) : Ev mX1_takeBack 2 0 0 208 [some (.ref 33), some (.int v1), none] [] (mkS x S) (fun v h => v = some (.int r) ∧ h = mkS x S') := by
    unfold bfX1_takeBack_33_208 at hm
    obtain ⟨o1, hm⟩ := oblk hm
    refine Ev.steps tokX1_takeBack 6 (P := vp_in v1 80 ∧ True) (pc' := if ¬ (S.2.1 34 v1.toNatClampNeg) = 266 then 233 else 220) (lv' := [some (.ref 33), some (.int v1), none]) (st' := []) (h' := mkS x S) rfl ⟨inb_ok o1, trivial⟩ ?_
    refine Ev.ite (fun c2 => ?_) (fun c2 => ?_)
    · rw [if_pos c2] at hm
      exact bpX1_takeBack_33_233 x S v1 _ _ hm
    · rw [if_neg c2] at hm
      refine Ev.steps tokX1_takeBack 9 (P := vp_in 0 3 ∧ vp_in 0 3 ∧ True) (pc' := 233) (lv' := [some (.ref 33), some (.int v1), none]) (st' := []) (h' := mkS x (S.1, (u2 S.2.1 14 0 ((S.2.1 14 0) - 1)), S.2.2.1, S.2.2.2)) rfl ⟨(by unfold vp_in; decide), (by unfold vp_in; decide), trivial⟩ ?_
      exact bpX1_takeBack_33_233 x (S.1, (u2 S.2.1 14 0 ((S.2.1 14 0) - 1)), S.2.2.1, S.2.2.2) v1 _ _ hm
set_option maxHeartbeats 4000000 in
set_option maxRecDepth 20000 in
theorem bpX1_takeBack_33_165 (x : XT)  (S : ST) (v1 : Int32) (v2 : Int32) (r : Int32) (S' : ST) (hm : bfX1_takeBack_33_165 x  S v1 v2 = some (r, S')) : Ev mX1_takeBack 2 0 0 165 [some (.ref 33), some (.int v1), some (.int v2)] [] (mkS x S) (fun v h => v = some (.int r) ∧ h = mkS x S') := by
    unfold bfX1_takeBack_33_165 at hm
    obtain ⟨o1, hm⟩ := oblk hm
    refine Ev.steps tokX1_takeBack 6 (P := vp_in v1 80 ∧ True) (pc' := if ¬ (S.2.1 34 v1.toNatClampNeg) = 265 then 208 else 177) (lv' := [some (.ref 33), some (.int v1), some (.int v2)]) (st' := []) (h' := mkS x S) rfl ⟨inb_ok o1, trivial⟩ ?_
    refine Ev.ite (fun c2 => ?_) (fun c2 => ?_)
    · rw [if_pos c2] at hm
      refine Ev.fgt (lv' := [some (.ref 33), some (.int v1), none]) ⟨rfl, rfl, trivial⟩ ?_
      exact bpX1_takeBack_33_208 x S v1 _ _ hm
    · rw [if_neg c2] at hm
      refine Ev.steps tokX1_takeBack 3 (P := True) (pc' := 182) (lv' := [some (.ref 33), some (.int v1), some (.int v2)]) (st' := [.int v2, .ref 1]) (h' := mkS x S) rfl trivial ?_
      cases h3 : gfX7_hasGate_1 x S v2 with
      | none => rw [h3] at hm; cases hm
      | some q4 =>
        obtain ⟨r5, S6⟩ := q4
        rw [h3] at hm
        dsimp only at hm
        refine ev_callV (N := mX7_hasGate) (d' := 1) (bc := 0) (bs := 0) (bc' := 0) (bs' := 0) (as := [.int v2]) (rest := []) (a := 1) (ci := 7) (dcd tokX1_takeBack rfl) okX7_hasGate inX7_hasGate seX7_hasGate lk1_43 rfl (by decide) (Nat.le_of_ble_eq_true rfl) rfl ⟨by decide, rfl⟩ (gpX7_hasGate_1 x S v2 _ _ h3) (fun v h' hq hn => ?_)
        obtain ⟨rfl, rfl⟩ := hq
        refine Ev.steps tokX1_takeBack 1 (P := True) (pc' := if r5 = 0 then 208 else 188) (lv' := [some (.ref 33), some (.int v1), some (.int v2)]) (st' := []) (h' := mkS x S6) rfl trivial ?_
        refine Ev.ite (fun c7 => ?_) (fun c7 => ?_)
        · rw [if_pos c7] at hm
          refine Ev.fgt (lv' := [some (.ref 33), some (.int v1), none]) ⟨rfl, rfl, trivial⟩ ?_
          exact bpX1_takeBack_33_208 x S6 v1 _ _ hm
        · rw [if_neg c7] at hm
          obtain ⟨o8, hm⟩ := oblk hm
          obtain ⟨o9, hm⟩ := oblk hm
          refine Ev.steps tokX1_takeBack 12 (P := vp_in (v1 + 2) 80 ∧ vp_in v2 10 ∧ True) (pc' := 233) (lv' := [some (.ref 33), some (.int v1), some (.int v2)]) (st' := []) (h' := mkS x (S6.1, (u2 S6.2.1 5 v2.toNatClampNeg (S6.2.1 34 ((v1 + 2).toNatClampNeg))), S6.2.2.1, S6.2.2.2)) rfl ⟨inb_ok o8, inb_ok o9, trivial⟩ ?_
          refine Ev.fgt (lv' := [some (.ref 33), some (.int v1), none]) ⟨rfl, rfl, trivial⟩ ?_
          exact bpX1_takeBack_33_233 x (S6.1, (u2 S6.2.1 5 v2.toNatClampNeg (S6.2.1 34 ((v1 + 2).toNatClampNeg))), S6.2.2.1, S6.2.2.2) v1 _ _ hm
set_option maxHeartbeats 4000000 in
set_option maxRecDepth 20000 in
theorem bpX1_takeBack_33_161 (x : XT)  (S : ST) (v1 : Int32) (t1 : Int32) (t2 : Int32) (r : Int32) (S' : ST) (hm : bfX1_takeBack_33_161 x  S v1 t1 t2 = some (r, S')) : Ev mX1_takeBack 2 0 0 161 [some (.ref 33), some (.int v1), none] [.int t2, .int t1, .ref 6] (mkS x S) (fun v h => v = some (.int r) ∧ h = mkS x S') := by
    unfold bfX1_takeBack_33_161 at hm
    obtain ⟨o1, hm⟩ := oblk hm
    refine Ev.steps tokX1_takeBack 2 (P := vp_in t1 10 ∧ True) (pc' := 233) (lv' := [some (.ref 33), some (.int v1), none]) (st' := []) (h' := mkS x (S.1, (u2 S.2.1 6 t1.toNatClampNeg (vp_nar .boolean t2)), S.2.2.1, S.2.2.2)) rfl ⟨inb_ok o1, trivial⟩ ?_
    exact bpX1_takeBack_33_233 x (S.1, (u2 S.2.1 6 t1.toNatClampNeg (vp_nar .boolean t2)), S.2.2.1, S.2.2.2) v1 _ _ hm
set_option maxHeartbeats 4000000 in
set_option maxRecDepth 20000 in
theorem bpX1_takeBack_33_113 (x : XT)  (S : ST) (v1 : Int32) (v2 : Int32) (r : Int32) (S' : ST) (hm : bfX1_takeBack_33_113 x  S v1 v2 = some (r, S')) : Ev mX1_takeBack 2 0 0 113 [some (.ref 33), some (.int v1), some (.int v2)] [] (mkS x S) (fun v h => v = some (.int r) ∧ h = mkS x S') := by
    unfold bfX1_takeBack_33_113 at hm
    obtain ⟨o1, hm⟩ := oblk hm
    refine Ev.steps tokX1_takeBack 6 (P := vp_in v1 80 ∧ True) (pc' := if ¬ (S.2.1 34 v1.toNatClampNeg) = 264 then 165 else 125) (lv' := [some (.ref 33), some (.int v1), some (.int v2)]) (st' := []) (h' := mkS x S) rfl ⟨inb_ok o1, trivial⟩ ?_
    refine Ev.ite (fun c2 => ?_) (fun c2 => ?_)
    · rw [if_pos c2] at hm
      exact bpX1_takeBack_33_165 x S v1 v2 _ _ hm
    · rw [if_neg c2] at hm
      refine Ev.steps tokX1_takeBack 3 (P := True) (pc' := 130) (lv' := [some (.ref 33), some (.int v1), some (.int v2)]) (st' := [.int v2, .ref 1]) (h' := mkS x S) rfl trivial ?_
      cases h3 : gfX7_hasGate_1 x S v2 with
      | none => rw [h3] at hm; cases hm
      | some q4 =>
        obtain ⟨r5, S6⟩ := q4
        rw [h3] at hm
        dsimp only at hm
        refine ev_callV (N := mX7_hasGate) (d' := 1) (bc := 0) (bs := 0) (bc' := 0) (bs' := 0) (as := [.int v2]) (rest := []) (a := 1) (ci := 7) (dcd tokX1_takeBack rfl) okX7_hasGate inX7_hasGate seX7_hasGate lk1_43 rfl (by decide) (Nat.le_of_ble_eq_true rfl) rfl ⟨by decide, rfl⟩ (gpX7_hasGate_1 x S v2 _ _ h3) (fun v h' hq hn => ?_)
        obtain ⟨rfl, rfl⟩ := hq
        refine Ev.steps tokX1_takeBack 1 (P := True) (pc' := if r5 = 0 then 165 else 136) (lv' := [some (.ref 33), some (.int v1), some (.int v2)]) (st' := []) (h' := mkS x S6) rfl trivial ?_
        refine Ev.ite (fun c7 => ?_) (fun c7 => ?_)
        · rw [if_pos c7] at hm
          exact bpX1_takeBack_33_165 x S6 v1 v2 _ _ hm
        · rw [if_neg c7] at hm
          obtain ⟨o8, hm⟩ := oblk hm
          refine Ev.steps tokX1_takeBack 10 (P := vp_in v2 10 ∧ True) (pc' := if ¬ (S6.2.1 6 v2.toNatClampNeg) = 0 then 160 else 156) (lv' := [some (.ref 33), some (.int v1), some (.int v2)]) (st' := [.int v2, .ref 6]) (h' := mkS x S6) rfl ⟨inb_ok o8, trivial⟩ ?_
          refine Ev.ite (fun c9 => ?_) (fun c9 => ?_)
          · rw [if_pos c9] at hm
            refine Ev.steps tokX1_takeBack 1 (P := True) (pc' := 161) (lv' := [some (.ref 33), some (.int v1), some (.int v2)]) (st' := [.int 0, .int v2, .ref 6]) (h' := mkS x S6) rfl trivial ?_
            refine Ev.fgt (lv' := [some (.ref 33), some (.int v1), none]) ⟨rfl, rfl, trivial⟩ ?_
            exact bpX1_takeBack_33_161 x S6 v1 v2 0 _ _ hm
          · rw [if_neg c9] at hm
            refine Ev.steps tokX1_takeBack 2 (P := True) (pc' := 161) (lv' := [some (.ref 33), some (.int v1), some (.int v2)]) (st' := [.int 1, .int v2, .ref 6]) (h' := mkS x S6) rfl trivial ?_
            refine Ev.fgt (lv' := [some (.ref 33), some (.int v1), none]) ⟨rfl, rfl, trivial⟩ ?_
            exact bpX1_takeBack_33_161 x S6 v1 v2 1 _ _ hm
set_option maxHeartbeats 4000000 in
set_option maxRecDepth 20000 in
theorem bpX1_takeBack_33_0 (x : XT)  (S : ST)  (r : Int32) (S' : ST) (hm : bfX1_takeBack_33_0 x  S  = some (r, S')) : Ev mX1_takeBack 2 0 0 0 [some (.ref 33), none, none] [] (mkS x S) (fun v h => v = some (.int r) ∧ h = mkS x S') := by
    unfold bfX1_takeBack_33_0 at hm
    refine Ev.steps tokX1_takeBack 3 (P := True) (pc' := if 0 < (S.1 33 0) then 10 else 7) (lv' := [some (.ref 33), none, none]) (st' := []) (h' := mkS x S) rfl trivial ?_
    refine Ev.ite (fun c1 => ?_) (fun c1 => ?_)
    · rw [if_pos c1] at hm
      obtain ⟨o2, hm⟩ := oblk hm
      obtain ⟨o3, hm⟩ := oblk hm
      refine Ev.steps tokX1_takeBack 24 (P := vp_in ((((S.1 33 0) - 1) * 5) + 1) 80 ∧ vp_in (((S.1 33 0) - 1) * 5) 80 ∧ True) (pc' := if ¬ (S.2.1 34 ((((S.1 33 0) - 1) * 5).toNatClampNeg)) = 263 then 113 else 48) (lv' := [some (.ref 33), some (.int (((S.1 33 0) - 1) * 5)), some (.int (S.2.1 34 (((((S.1 33 0) - 1) * 5) + 1).toNatClampNeg)))]) (st' := []) (h' := mkS x ((u2 S.1 33 0 ((S.1 33 0) - 1)), S.2.1, S.2.2.1, S.2.2.2)) rfl ⟨inb_ok o2, inb_ok o3, trivial⟩ ?_
      refine Ev.ite (fun c4 => ?_) (fun c4 => ?_)
      · rw [if_pos c4] at hm
        exact bpX1_takeBack_33_113 x ((u2 S.1 33 0 ((S.1 33 0) - 1)), S.2.1, S.2.2.1, S.2.2.2) (((S.1 33 0) - 1) * 5) (S.2.1 34 (((((S.1 33 0) - 1) * 5) + 1).toNatClampNeg)) _ _ hm
      · rw [if_neg c4] at hm
        refine Ev.steps tokX1_takeBack 3 (P := True) (pc' := 53) (lv' := [some (.ref 33), some (.int (((S.1 33 0) - 1) * 5)), some (.int (S.2.1 34 (((((S.1 33 0) - 1) * 5) + 1).toNatClampNeg)))]) (st' := [.int (S.2.1 34 (((((S.1 33 0) - 1) * 5) + 1).toNatClampNeg)), .ref 1]) (h' := mkS x ((u2 S.1 33 0 ((S.1 33 0) - 1)), S.2.1, S.2.2.1, S.2.2.2)) rfl trivial ?_
        cases h5 : gfX7_hasGoer_1 x ((u2 S.1 33 0 ((S.1 33 0) - 1)), S.2.1, S.2.2.1, S.2.2.2) (S.2.1 34 (((((S.1 33 0) - 1) * 5) + 1).toNatClampNeg)) with
        | none => rw [h5] at hm; cases hm
        | some q6 =>
          obtain ⟨r7, S8⟩ := q6
          rw [h5] at hm
          dsimp only at hm
          refine ev_callV (N := mX7_hasGoer) (d' := 1) (bc := 0) (bs := 0) (bc' := 0) (bs' := 0) (as := [.int (S.2.1 34 (((((S.1 33 0) - 1) * 5) + 1).toNatClampNeg))]) (rest := []) (a := 1) (ci := 7) (dcd tokX1_takeBack rfl) okX7_hasGoer inX7_hasGoer seX7_hasGoer lk1_39 rfl (by decide) (Nat.le_of_ble_eq_true rfl) rfl ⟨by decide, rfl⟩ (gpX7_hasGoer_1 x ((u2 S.1 33 0 ((S.1 33 0) - 1)), S.2.1, S.2.2.1, S.2.2.2) (S.2.1 34 (((((S.1 33 0) - 1) * 5) + 1).toNatClampNeg)) _ _ h5) (fun v h' hq hn => ?_)
          obtain ⟨rfl, rfl⟩ := hq
          refine Ev.steps tokX1_takeBack 1 (P := True) (pc' := if r7 = 0 then 113 else 59) (lv' := [some (.ref 33), some (.int (((S.1 33 0) - 1) * 5)), some (.int (S.2.1 34 (((((S.1 33 0) - 1) * 5) + 1).toNatClampNeg)))]) (st' := []) (h' := mkS x S8) rfl trivial ?_
          refine Ev.ite (fun c9 => ?_) (fun c9 => ?_)
          · rw [if_pos c9] at hm
            exact bpX1_takeBack_33_113 x S8 (((S.1 33 0) - 1) * 5) (S.2.1 34 (((((S.1 33 0) - 1) * 5) + 1).toNatClampNeg)) _ _ hm
          · rw [if_neg c9] at hm
            obtain ⟨o10, hm⟩ := oblk hm
            obtain ⟨o11, hm⟩ := oblk hm
            obtain ⟨o12, hm⟩ := oblk hm
            obtain ⟨o13, hm⟩ := oblk hm
            obtain ⟨o14, hm⟩ := oblk hm
            obtain ⟨o15, hm⟩ := oblk hm
            refine Ev.steps tokX1_takeBack 34 (P := vp_in ((((S.1 33 0) - 1) * 5) + 2) 80 ∧ vp_in (S.2.1 34 (((((S.1 33 0) - 1) * 5) + 1).toNatClampNeg)) 5 ∧ vp_in ((((S.1 33 0) - 1) * 5) + 3) 80 ∧ vp_in (S.2.1 34 (((((S.1 33 0) - 1) * 5) + 1).toNatClampNeg)) 5 ∧ vp_in ((((S.1 33 0) - 1) * 5) + 4) 80 ∧ vp_in (S.2.1 34 (((((S.1 33 0) - 1) * 5) + 1).toNatClampNeg)) 5 ∧ True) (pc' := 233) (lv' := [some (.ref 33), some (.int (((S.1 33 0) - 1) * 5)), some (.int (S.2.1 34 (((((S.1 33 0) - 1) * 5) + 1).toNatClampNeg)))]) (st' := []) (h' := mkS x (S8.1, (u2 (u2 (u2 S8.2.1 7 ((S.2.1 34 (((((S.1 33 0) - 1) * 5) + 1).toNatClampNeg)).toNatClampNeg) (S8.2.1 34 (((((S.1 33 0) - 1) * 5) + 2).toNatClampNeg))) 8 ((S.2.1 34 (((((S.1 33 0) - 1) * 5) + 1).toNatClampNeg)).toNatClampNeg) (S8.2.1 34 (((((S.1 33 0) - 1) * 5) + 3).toNatClampNeg))) 10 ((S.2.1 34 (((((S.1 33 0) - 1) * 5) + 1).toNatClampNeg)).toNatClampNeg) (S8.2.1 34 (((((S.1 33 0) - 1) * 5) + 4).toNatClampNeg))), S8.2.2.1, S8.2.2.2)) rfl ⟨inb_ok o10, inb_ok o11, inb_ok o12, inb_ok o13, inb_ok o14, inb_ok o15, trivial⟩ ?_
            refine Ev.fgt (lv' := [some (.ref 33), some (.int (((S.1 33 0) - 1) * 5)), none]) ⟨rfl, rfl, trivial⟩ ?_
            exact bpX1_takeBack_33_233 x (S8.1, (u2 (u2 (u2 S8.2.1 7 ((S.2.1 34 (((((S.1 33 0) - 1) * 5) + 1).toNatClampNeg)).toNatClampNeg) (S8.2.1 34 (((((S.1 33 0) - 1) * 5) + 2).toNatClampNeg))) 8 ((S.2.1 34 (((((S.1 33 0) - 1) * 5) + 1).toNatClampNeg)).toNatClampNeg) (S8.2.1 34 (((((S.1 33 0) - 1) * 5) + 3).toNatClampNeg))) 10 ((S.2.1 34 (((((S.1 33 0) - 1) * 5) + 1).toNatClampNeg)).toNatClampNeg) (S8.2.1 34 (((((S.1 33 0) - 1) * 5) + 4).toNatClampNeg))), S8.2.2.1, S8.2.2.2) (((S.1 33 0) - 1) * 5) _ _ hm
    · rw [if_neg c1] at hm
      refine Ev.steps tokX1_takeBack 1 (P := True) (pc' := 9) (lv' := [some (.ref 33), none, none]) (st' := [.int (-3)]) (h' := mkS x S) rfl trivial ?_
      cases hm
      exact Ev.reti tokX1_takeBack rfl rfl ⟨rfl, rfl⟩
theorem gpX1_takeBack_33 (x : XT) (S : ST)  (r : Int32) (S' : ST) (hm : gfX1_takeBack_33 x S  = some (r, S')) : Ct mX1_takeBack 2 0 0 [.ref 33] (mkS x S) (fun v h => v = some (.int r) ∧ h = mkS x S') :=
  Ct.of (lv := [some (.ref 33), none, none]) rfl rfl rfl (show (_ : Nat) ≤ _ from Nat.le_of_ble_eq_true rfl) (fun G => rfl) (bpX1_takeBack_33_0 x S  r S' hm)
end MIR
