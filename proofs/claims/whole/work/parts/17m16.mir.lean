section MIR
set_option maxHeartbeats 4000000 in
set_option maxRecDepth 20000 in
theorem bpX7_copyFrom_115_1_252 (x : XT) (k252 : ST → Int32 → Option (Unit × ST)) (hk252 : ∀ (S : ST) (v2 : Int32) (r : Unit) (S' : ST), k252 S v2 = some (r, S') → Ev mX7_copyFrom 1 0 0 252 [some (.ref 115), some (.ref 1), some (.int v2)] [] (mkS x S) (fun v h => v = none ∧ h = mkS x S')) (S : ST) (v2 : Int32) (r : Unit) (S' : ST) (hm : bfX7_copyFrom_115_1_252 x k252 S v2 = some (r, S')) : Ev mX7_copyFrom 1 0 0 252 [some (.ref 115), some (.ref 1), some (.int v2)] [] (mkS x S) (fun v h => v = none ∧ h = mkS x S') := by
    unfold bfX7_copyFrom_115_1_252 at hm
    refine Ev.steps tokX7_copyFrom 3 (P := True) (pc' := if 6 ≤ v2 then 276 else 258) (lv' := [some (.ref 115), some (.ref 1), some (.int v2)]) (st' := []) (h' := mkS x S) rfl trivial ?_
    refine Ev.ite (fun c1 => ?_) (fun c1 => ?_)
    · rw [if_pos c1] at hm
      cases hm
      exact Ev.retv tokX7_copyFrom rfl rfl ⟨rfl, rfl⟩
    · rw [if_neg c1] at hm
      obtain ⟨o2, hm⟩ := oblk hm
      refine Ev.steps tokX7_copyFrom 7 (P := vp_in v2 6 ∧ True) (pc' := 269) (lv' := [some (.ref 115), some (.ref 1), some (.int v2)]) (st' := [va_rf (S.2.2.2 15 v2.toNatClampNeg), .int v2, .ref 129]) (h' := mkS x S) rfl ⟨inb_ok o2, trivial⟩ ?_
      obtain ⟨o3, hm⟩ := oblk hm
      obtain ⟨o4, hm⟩ := oblk hm
      refine ev_aast (kd := 17) (ci := 9) (r := (S.2.2.2 15 v2.toNatClampNeg)) (dcd tokX7_copyFrom rfl) rfl (Or.inr ⟨rfl, rfl⟩) (inb_ok o3) (qk_ok o4) ?_
      refine Ev.steps tokX7_copyFrom 2 (P := True) (pc' := 252) (lv' := [some (.ref 115), some (.ref 1), some (.int (v2 + 1))]) (st' := []) (h' := mkS x (S.1, S.2.1, S.2.2.1, (u2 S.2.2.2 129 v2.toNatClampNeg (S.2.2.2 15 v2.toNatClampNeg)))) rfl trivial ?_
      exact hk252 (S.1, S.2.1, S.2.2.1, (u2 S.2.2.2 129 v2.toNatClampNeg (S.2.2.2 15 v2.toNatClampNeg))) (v2 + 1) _ _ hm
theorem lpX7_copyFrom_115_1_252 (x : XT)  : ∀ (n : Nat) (S : ST) (v2 : Int32) (r : Unit) (S' : ST), lfX7_copyFrom_115_1_252 x  n S v2 = some (r, S') → Ev mX7_copyFrom 1 0 0 252 [some (.ref 115), some (.ref 1), some (.int v2)] [] (mkS x S) (fun v h => v = none ∧ h = mkS x S')
  | 0, _, _, _, _, hm => by cases hm
  | n + 1, S, v2, r, S', hm => bpX7_copyFrom_115_1_252 x (lfX7_copyFrom_115_1_252 x  n) (lpX7_copyFrom_115_1_252 x  n) S v2 r S' hm
set_option maxHeartbeats 4000000 in
set_option maxRecDepth 20000 in
theorem bpX7_copyFrom_115_1_227 (x : XT) (k227 : ST → Int32 → Option (Unit × ST)) (hk227 : ∀ (S : ST) (v2 : Int32) (r : Unit) (S' : ST), k227 S v2 = some (r, S') → Ev mX7_copyFrom 1 0 0 227 [some (.ref 115), some (.ref 1), some (.int v2)] [] (mkS x S) (fun v h => v = none ∧ h = mkS x S')) (S : ST) (v2 : Int32) (r : Unit) (S' : ST) (hm : bfX7_copyFrom_115_1_227 x k227 S v2 = some (r, S')) : Ev mX7_copyFrom 1 0 0 227 [some (.ref 115), some (.ref 1), some (.int v2)] [] (mkS x S) (fun v h => v = none ∧ h = mkS x S') := by
    unfold bfX7_copyFrom_115_1_227 at hm
    refine Ev.steps tokX7_copyFrom 3 (P := True) (pc' := if 3 ≤ v2 then 250 else 232) (lv' := [some (.ref 115), some (.ref 1), some (.int v2)]) (st' := []) (h' := mkS x S) rfl trivial ?_
    refine Ev.ite (fun c1 => ?_) (fun c1 => ?_)
    · rw [if_pos c1] at hm
      refine Ev.steps tokX7_copyFrom 2 (P := True) (pc' := 252) (lv' := [some (.ref 115), some (.ref 1), some (.int 0)]) (st' := []) (h' := mkS x S) rfl trivial ?_
      exact lpX7_copyFrom_115_1_252 x  20000 S 0 _ _ hm
    · rw [if_neg c1] at hm
      obtain ⟨o2, hm⟩ := oblk hm
      obtain ⟨o3, hm⟩ := oblk hm
      refine Ev.steps tokX7_copyFrom 10 (P := vp_in v2 3 ∧ vp_in v2 3 ∧ True) (pc' := 227) (lv' := [some (.ref 115), some (.ref 1), some (.int (v2 + 1))]) (st' := []) (h' := mkS x (S.1, (u2 S.2.1 128 v2.toNatClampNeg (S.2.1 14 v2.toNatClampNeg)), S.2.2.1, S.2.2.2)) rfl ⟨inb_ok o2, inb_ok o3, trivial⟩ ?_
      exact hk227 (S.1, (u2 S.2.1 128 v2.toNatClampNeg (S.2.1 14 v2.toNatClampNeg)), S.2.2.1, S.2.2.2) (v2 + 1) _ _ hm
theorem lpX7_copyFrom_115_1_227 (x : XT)  : ∀ (n : Nat) (S : ST) (v2 : Int32) (r : Unit) (S' : ST), lfX7_copyFrom_115_1_227 x  n S v2 = some (r, S') → Ev mX7_copyFrom 1 0 0 227 [some (.ref 115), some (.ref 1), some (.int v2)] [] (mkS x S) (fun v h => v = none ∧ h = mkS x S')
  | 0, _, _, _, _, hm => by cases hm
  | n + 1, S, v2, r, S', hm => bpX7_copyFrom_115_1_227 x (lfX7_copyFrom_115_1_227 x  n) (lpX7_copyFrom_115_1_227 x  n) S v2 r S' hm
set_option maxHeartbeats 4000000 in
set_option maxRecDepth 20000 in
theorem bpX7_copyFrom_115_1_177 (x : XT) (k177 : ST → Int32 → Option (Unit × ST)) (hk177 : ∀ (S : ST) (v2 : Int32) (r : Unit) (S' : ST), k177 S v2 = some (r, S') → Ev mX7_copyFrom 1 0 0 177 [some (.ref 115), some (.ref 1), some (.int v2)] [] (mkS x S) (fun v h => v = none ∧ h = mkS x S')) (S : ST) (v2 : Int32) (r : Unit) (S' : ST) (hm : bfX7_copyFrom_115_1_177 x k177 S v2 = some (r, S')) : Ev mX7_copyFrom 1 0 0 177 [some (.ref 115), some (.ref 1), some (.int v2)] [] (mkS x S) (fun v h => v = none ∧ h = mkS x S') := by
    unfold bfX7_copyFrom_115_1_177 at hm
    refine Ev.steps tokX7_copyFrom 3 (P := True) (pc' := if 6 ≤ v2 then 225 else 183) (lv' := [some (.ref 115), some (.ref 1), some (.int v2)]) (st' := []) (h' := mkS x S) rfl trivial ?_
    refine Ev.ite (fun c1 => ?_) (fun c1 => ?_)
    · rw [if_pos c1] at hm
      refine Ev.steps tokX7_copyFrom 2 (P := True) (pc' := 227) (lv' := [some (.ref 115), some (.ref 1), some (.int 0)]) (st' := []) (h' := mkS x S) rfl trivial ?_
      exact lpX7_copyFrom_115_1_227 x  20000 S 0 _ _ hm
    · rw [if_neg c1] at hm
      obtain ⟨o2, hm⟩ := oblk hm
      obtain ⟨o3, hm⟩ := oblk hm
      obtain ⟨o4, hm⟩ := oblk hm
      obtain ⟨o5, hm⟩ := oblk hm
      obtain ⟨o6, hm⟩ := oblk hm
      obtain ⟨o7, hm⟩ := oblk hm
      refine Ev.steps tokX7_copyFrom 26 (P := vp_in v2 6 ∧ vp_in v2 6 ∧ vp_in v2 6 ∧ vp_in v2 6 ∧ vp_in v2 6 ∧ vp_in v2 6 ∧ True) (pc' := 177) (lv' := [some (.ref 115), some (.ref 1), some (.int (v2 + 1))]) (st' := []) (h' := mkS x (S.1, (u2 (u2 (u2 S.2.1 125 v2.toNatClampNeg (S.2.1 11 v2.toNatClampNeg)) 126 v2.toNatClampNeg (S.2.1 12 v2.toNatClampNeg)) 127 v2.toNatClampNeg (S.2.1 13 v2.toNatClampNeg)), S.2.2.1, S.2.2.2)) rfl ⟨inb_ok o2, inb_ok o3, inb_ok o4, inb_ok o5, inb_ok o6, inb_ok o7, trivial⟩ ?_
      exact hk177 (S.1, (u2 (u2 (u2 S.2.1 125 v2.toNatClampNeg (S.2.1 11 v2.toNatClampNeg)) 126 v2.toNatClampNeg (S.2.1 12 v2.toNatClampNeg)) 127 v2.toNatClampNeg (S.2.1 13 v2.toNatClampNeg)), S.2.2.1, S.2.2.2) (v2 + 1) _ _ hm
theorem lpX7_copyFrom_115_1_177 (x : XT)  : ∀ (n : Nat) (S : ST) (v2 : Int32) (r : Unit) (S' : ST), lfX7_copyFrom_115_1_177 x  n S v2 = some (r, S') → Ev mX7_copyFrom 1 0 0 177 [some (.ref 115), some (.ref 1), some (.int v2)] [] (mkS x S) (fun v h => v = none ∧ h = mkS x S')
  | 0, _, _, _, _, hm => by cases hm
  | n + 1, S, v2, r, S', hm => bpX7_copyFrom_115_1_177 x (lfX7_copyFrom_115_1_177 x  n) (lpX7_copyFrom_115_1_177 x  n) S v2 r S' hm
set_option maxHeartbeats 4000000 in
set_option maxRecDepth 20000 in
theorem bpX7_copyFrom_115_1_116 (x : XT) (k116 : ST → Int32 → Option (Unit × ST)) (hk116 : ∀ (S : ST) (v2 : Int32) (r : Unit) (S' : ST), k116 S v2 = some (r, S') → Ev mX7_copyFrom 1 0 0 116 [some (.ref 115), some (.ref 1), some (.int v2)] [] (mkS x S) (fun v h => v = none ∧ h = mkS x S')) (S : ST) (v2 : Int32) (r : Unit) (S' : ST) (hm : bfX7_copyFrom_115_1_116 x k116 S v2 = some (r, S')) : Ev mX7_copyFrom 1 0 0 116 [some (.ref 115), some (.ref 1), some (.int v2)] [] (mkS x S) (fun v h => v = none ∧ h = mkS x S') := by
    unfold bfX7_copyFrom_115_1_116 at hm
    refine Ev.steps tokX7_copyFrom 3 (P := True) (pc' := if 5 ≤ v2 then 175 else 121) (lv' := [some (.ref 115), some (.ref 1), some (.int v2)]) (st' := []) (h' := mkS x S) rfl trivial ?_
    refine Ev.ite (fun c1 => ?_) (fun c1 => ?_)
    · rw [if_pos c1] at hm
      refine Ev.steps tokX7_copyFrom 2 (P := True) (pc' := 177) (lv' := [some (.ref 115), some (.ref 1), some (.int 0)]) (st' := []) (h' := mkS x S) rfl trivial ?_
      exact lpX7_copyFrom_115_1_177 x  20000 S 0 _ _ hm
    · rw [if_neg c1] at hm
      obtain ⟨o2, hm⟩ := oblk hm
      obtain ⟨o3, hm⟩ := oblk hm
      obtain ⟨o4, hm⟩ := oblk hm
      obtain ⟨o5, hm⟩ := oblk hm
      obtain ⟨o6, hm⟩ := oblk hm
      obtain ⟨o7, hm⟩ := oblk hm
      obtain ⟨o8, hm⟩ := oblk hm
      obtain ⟨o9, hm⟩ := oblk hm
      refine Ev.steps tokX7_copyFrom 34 (P := vp_in v2 5 ∧ vp_in v2 5 ∧ vp_in v2 5 ∧ vp_in v2 5 ∧ vp_in v2 5 ∧ vp_in v2 5 ∧ vp_in v2 5 ∧ vp_in v2 5 ∧ True) (pc' := 116) (lv' := [some (.ref 115), some (.ref 1), some (.int (v2 + 1))]) (st' := []) (h' := mkS x (S.1, (u2 (u2 (u2 (u2 S.2.1 121 v2.toNatClampNeg (S.2.1 7 v2.toNatClampNeg)) 122 v2.toNatClampNeg (S.2.1 8 v2.toNatClampNeg)) 123 v2.toNatClampNeg (S.2.1 9 v2.toNatClampNeg)) 124 v2.toNatClampNeg (S.2.1 10 v2.toNatClampNeg)), S.2.2.1, S.2.2.2)) rfl ⟨inb_ok o2, inb_ok o3, inb_ok o4, inb_ok o5, inb_ok o6, inb_ok o7, inb_ok o8, inb_ok o9, trivial⟩ ?_
      exact hk116 (S.1, (u2 (u2 (u2 (u2 S.2.1 121 v2.toNatClampNeg (S.2.1 7 v2.toNatClampNeg)) 122 v2.toNatClampNeg (S.2.1 8 v2.toNatClampNeg)) 123 v2.toNatClampNeg (S.2.1 9 v2.toNatClampNeg)) 124 v2.toNatClampNeg (S.2.1 10 v2.toNatClampNeg)), S.2.2.1, S.2.2.2) (v2 + 1) _ _ hm
theorem lpX7_copyFrom_115_1_116 (x : XT)  : ∀ (n : Nat) (S : ST) (v2 : Int32) (r : Unit) (S' : ST), lfX7_copyFrom_115_1_116 x  n S v2 = some (r, S') → Ev mX7_copyFrom 1 0 0 116 [some (.ref 115), some (.ref 1), some (.int v2)] [] (mkS x S) (fun v h => v = none ∧ h = mkS x S')
  | 0, _, _, _, _, hm => by cases hm
  | n + 1, S, v2, r, S', hm => bpX7_copyFrom_115_1_116 x (lfX7_copyFrom_115_1_116 x  n) (lpX7_copyFrom_115_1_116 x  n) S v2 r S' hm
set_option maxHeartbeats 4000000 in
set_option maxRecDepth 20000 in
theorem bpX7_copyFrom_115_1_42 (x : XT) (k42 : ST → Int32 → Option (Unit × ST)) (hk42 : ∀ (S : ST) (v2 : Int32) (r : Unit) (S' : ST), k42 S v2 = some (r, S') → Ev mX7_copyFrom 1 0 0 42 [some (.ref 115), some (.ref 1), some (.int v2)] [] (mkS x S) (fun v h => v = none ∧ h = mkS x S')) (S : ST) (v2 : Int32) (r : Unit) (S' : ST) (hm : bfX7_copyFrom_115_1_42 x k42 S v2 = some (r, S')) : Ev mX7_copyFrom 1 0 0 42 [some (.ref 115), some (.ref 1), some (.int v2)] [] (mkS x S) (fun v h => v = none ∧ h = mkS x S') := by
    unfold bfX7_copyFrom_115_1_42 at hm
    refine Ev.steps tokX7_copyFrom 3 (P := True) (pc' := if 10 ≤ v2 then 114 else 48) (lv' := [some (.ref 115), some (.ref 1), some (.int v2)]) (st' := []) (h' := mkS x S) rfl trivial ?_
    refine Ev.ite (fun c1 => ?_) (fun c1 => ?_)
    · rw [if_pos c1] at hm
      refine Ev.steps tokX7_copyFrom 2 (P := True) (pc' := 116) (lv' := [some (.ref 115), some (.ref 1), some (.int 0)]) (st' := []) (h' := mkS x S) rfl trivial ?_
      exact lpX7_copyFrom_115_1_116 x  20000 S 0 _ _ hm
    · rw [if_neg c1] at hm
      obtain ⟨o2, hm⟩ := oblk hm
      obtain ⟨o3, hm⟩ := oblk hm
      obtain ⟨o4, hm⟩ := oblk hm
      obtain ⟨o5, hm⟩ := oblk hm
      obtain ⟨o6, hm⟩ := oblk hm
      obtain ⟨o7, hm⟩ := oblk hm
      obtain ⟨o8, hm⟩ := oblk hm
      obtain ⟨o9, hm⟩ := oblk hm
      obtain ⟨o10, hm⟩ := oblk hm
      obtain ⟨o11, hm⟩ := oblk hm
      refine Ev.steps tokX7_copyFrom 42 (P := vp_in v2 10 ∧ vp_in v2 10 ∧ vp_in v2 10 ∧ vp_in v2 10 ∧ vp_in v2 10 ∧ vp_in v2 10 ∧ vp_in v2 10 ∧ vp_in v2 10 ∧ vp_in v2 10 ∧ vp_in v2 10 ∧ True) (pc' := 42) (lv' := [some (.ref 115), some (.ref 1), some (.int (v2 + 1))]) (st' := []) (h' := mkS x (S.1, (u2 (u2 (u2 (u2 (u2 S.2.1 116 v2.toNatClampNeg (S.2.1 2 v2.toNatClampNeg)) 117 v2.toNatClampNeg (S.2.1 3 v2.toNatClampNeg)) 118 v2.toNatClampNeg (S.2.1 4 v2.toNatClampNeg)) 119 v2.toNatClampNeg (S.2.1 5 v2.toNatClampNeg)) 120 v2.toNatClampNeg (vp_nar .boolean (S.2.1 6 v2.toNatClampNeg))), S.2.2.1, S.2.2.2)) rfl ⟨inb_ok o2, inb_ok o3, inb_ok o4, inb_ok o5, inb_ok o6, inb_ok o7, inb_ok o8, inb_ok o9, inb_ok o10, inb_ok o11, trivial⟩ ?_
      exact hk42 (S.1, (u2 (u2 (u2 (u2 (u2 S.2.1 116 v2.toNatClampNeg (S.2.1 2 v2.toNatClampNeg)) 117 v2.toNatClampNeg (S.2.1 3 v2.toNatClampNeg)) 118 v2.toNatClampNeg (S.2.1 4 v2.toNatClampNeg)) 119 v2.toNatClampNeg (S.2.1 5 v2.toNatClampNeg)) 120 v2.toNatClampNeg (vp_nar .boolean (S.2.1 6 v2.toNatClampNeg))), S.2.2.1, S.2.2.2) (v2 + 1) _ _ hm
theorem lpX7_copyFrom_115_1_42 (x : XT)  : ∀ (n : Nat) (S : ST) (v2 : Int32) (r : Unit) (S' : ST), lfX7_copyFrom_115_1_42 x  n S v2 = some (r, S') → Ev mX7_copyFrom 1 0 0 42 [some (.ref 115), some (.ref 1), some (.int v2)] [] (mkS x S) (fun v h => v = none ∧ h = mkS x S')
  | 0, _, _, _, _, hm => by cases hm
  | n + 1, S, v2, r, S', hm => bpX7_copyFrom_115_1_42 x (lfX7_copyFrom_115_1_42 x  n) (lpX7_copyFrom_115_1_42 x  n) S v2 r S' hm
set_option maxHeartbeats 4000000 in
set_option maxRecDepth 20000 in
theorem bpX7_copyFrom_115_1_0 (x : XT)  (S : ST)  (r : Unit) (S' : ST) (hm : bfX7_copyFrom_115_1_0 x  S  = some (r, S')) : Ev mX7_copyFrom 1 0 0 0 [some (.ref 115), some (.ref 1), none] [] (mkS x S) (fun v h => v = none ∧ h = mkS x S') := by
    unfold bfX7_copyFrom_115_1_0 at hm
    refine Ev.steps tokX7_copyFrom 22 (P := True) (pc' := 42) (lv' := [some (.ref 115), some (.ref 1), some (.int 0)]) (st' := []) (h' := mkS x ((u2 (u2 (u2 (u2 (u2 S.1 115 0 (S.1 1 0)) 115 6 (S.1 1 6)) 115 11 (S.1 1 11)) 115 16 (S.1 1 16)) 115 18 (S.1 1 18)), S.2.1, S.2.2.1, S.2.2.2)) rfl trivial ?_
    exact lpX7_copyFrom_115_1_42 x  20000 ((u2 (u2 (u2 (u2 (u2 S.1 115 0 (S.1 1 0)) 115 6 (S.1 1 6)) 115 11 (S.1 1 11)) 115 16 (S.1 1 16)) 115 18 (S.1 1 18)), S.2.1, S.2.2.1, S.2.2.2) 0 _ _ hm
theorem gpX7_copyFrom_115_1 (x : XT) (S : ST)  (r : Unit) (S' : ST) (hm : gfX7_copyFrom_115_1 x S  = some (r, S')) : Ct mX7_copyFrom 1 0 0 [.ref 115, .ref 1] (mkS x S) (fun v h => v = none ∧ h = mkS x S') :=
  Ct.of (lv := [some (.ref 115), some (.ref 1), none]) rfl rfl rfl (show (_ : Nat) ≤ _ from Nat.le_of_ble_eq_true rfl) (fun G => rfl) (bpX7_copyFrom_115_1_0 x S  r S' hm)
set_option maxHeartbeats 4000000 in
set_option maxRecDepth 20000 in
theorem bpX10_image_0_0 (x : XT)  (S : ST) (p1 : Int32) (r : Int32) (S' : ST) (hm : bfX10_image_0_0 x  S p1 = some (r, S')) : Ev mX10_image 2 0 0 0 [some (.ref 0), some (.int p1)] [] (mkS x S) (fun v h => v = some (.int r) ∧ h = mkS x S') := by
    unfold bfX10_image_0_0 at hm
    refine Ev.steps tokX10_image 2 (P := True) (pc' := 2) (lv' := [some (.ref 0), some (.int p1)]) (st' := [.int 2, .int p1]) (h' := mkS x S) rfl trivial ?_
    cases h1 : gfX10_within x S p1 2 with
    | none => rw [h1] at hm; cases hm
    | some q2 =>
      obtain ⟨r3, S4⟩ := q2
      rw [h1] at hm
      dsimp only at hm
      refine ev_callS (N := mX10_within) (d' := 1) (bc := 0) (bs := 0) (bc' := 0) (bs' := 0) (as := [.int p1, .int 2]) (rest := []) (dcd tokX10_image rfl) okX10_within inX10_within lk10_153 rfl (by decide) (Nat.le_of_ble_eq_true rfl) (gpX10_within x S p1 2 _ _ h1) (fun v h' hq hn => ?_)
      obtain ⟨rfl, rfl⟩ := hq
      refine Ev.steps tokX10_image 1 (P := True) (pc' := if ¬ r3 = 0 then 14 else 8) (lv' := [some (.ref 0), some (.int p1)]) (st' := []) (h' := mkS x S4) rfl trivial ?_
      refine Ev.ite (fun c5 => ?_) (fun c5 => ?_)
      · rw [if_pos c5] at hm
        obtain ⟨o6, hm⟩ := oblk hm
        refine Ev.steps tokX10_image 4 (P := vp_in p1 2 ∧ True) (pc' := 20) (lv' := [some (.ref 0), some (.int p1)]) (st' := [va_rf (S4.2.2.2 16 p1.toNatClampNeg)]) (h' := mkS x S4) rfl ⟨inb_ok o6, trivial⟩ ?_
        by_cases c7 : (S4.2.2.2 16 p1.toNatClampNeg) = some 100
        · rw [if_pos c7] at hm
          rw [c7]
          refine Ev.steps tokX10_image 2 (P := True) (pc' := 24) (lv' := [some (.ref 0), some (.int p1)]) (st' := [.ref 1, .ref 100]) (h' := mkS x S4) rfl trivial ?_
          cases h8 : gfX7_copyFrom_100_1 x S4 with
          | none => rw [h8] at hm; cases hm
          | some q9 =>
            obtain ⟨r10, S11⟩ := q9
            rw [h8] at hm
            dsimp only at hm
            refine ev_callV (N := mX7_copyFrom) (d' := 1) (bc := 0) (bs := 0) (bc' := 0) (bs' := 0) (as := [.ref 1]) (rest := []) (a := 100) (ci := 7) (dcd tokX10_image rfl) okX7_copyFrom inX7_copyFrom seX7_copyFrom lk10_338 rfl (by decide) (Nat.le_of_ble_eq_true rfl) rfl ⟨by decide, rfl⟩ (gpX7_copyFrom_100_1 x S4 _ _ h8) (fun v h' hq hn => ?_)
            obtain ⟨rfl, rfl⟩ := hq
            obtain ⟨o12, hm⟩ := oblk hm
            refine Ev.steps tokX10_image 7 (P := vp_in p1 2 ∧ True) (pc' := 36) (lv' := [some (.ref 0), some (.int p1)]) (st' := [.int 0, .ref 0]) (h' := mkS x (S11.1, (u2 S11.2.1 17 p1.toNatClampNeg (vp_nar .boolean 1)), S11.2.2.1, S11.2.2.2)) rfl ⟨inb_ok o12, trivial⟩ ?_
            cases h13 : gfX10_told_0 x (S11.1, (u2 S11.2.1 17 p1.toNatClampNeg (vp_nar .boolean 1)), S11.2.2.1, S11.2.2.2) 0 with
            | none => rw [h13] at hm; cases hm
            | some q14 =>
              obtain ⟨r15, S16⟩ := q14
              rw [h13] at hm
              dsimp only at hm
              refine ev_callV (N := mX10_told) (d' := 1) (bc := 0) (bs := 0) (bc' := 0) (bs' := 0) (as := [.int 0]) (rest := []) (a := 0) (ci := 10) (dcd tokX10_image rfl) okX10_told inX10_told seX10_told lk10_178 rfl (by decide) (Nat.le_of_ble_eq_true rfl) rfl ⟨by decide, rfl⟩ (gpX10_told_0 x (S11.1, (u2 S11.2.1 17 p1.toNatClampNeg (vp_nar .boolean 1)), S11.2.2.1, S11.2.2.2) 0 _ _ h13) (fun v h' hq hn => ?_)
              obtain ⟨rfl, rfl⟩ := hq
              cases hm
              exact Ev.reti tokX10_image rfl rfl ⟨rfl, rfl⟩
        rw [if_neg c7] at hm
        by_cases c17 : (S4.2.2.2 16 p1.toNatClampNeg) = some 115
        · rw [if_pos c17] at hm
          rw [c17]
          refine Ev.steps tokX10_image 2 (P := True) (pc' := 24) (lv' := [some (.ref 0), some (.int p1)]) (st' := [.ref 1, .ref 115]) (h' := mkS x S4) rfl trivial ?_
          cases h18 : gfX7_copyFrom_115_1 x S4 with
          | none => rw [h18] at hm; cases hm
          | some q19 =>
            obtain ⟨r20, S21⟩ := q19
            rw [h18] at hm
            dsimp only at hm
            refine ev_callV (N := mX7_copyFrom) (d' := 1) (bc := 0) (bs := 0) (bc' := 0) (bs' := 0) (as := [.ref 1]) (rest := []) (a := 115) (ci := 7) (dcd tokX10_image rfl) okX7_copyFrom inX7_copyFrom seX7_copyFrom lk10_338 rfl (by decide) (Nat.le_of_ble_eq_true rfl) rfl ⟨by decide, rfl⟩ (gpX7_copyFrom_115_1 x S4 _ _ h18) (fun v h' hq hn => ?_)
            obtain ⟨rfl, rfl⟩ := hq
            obtain ⟨o22, hm⟩ := oblk hm
            refine Ev.steps tokX10_image 7 (P := vp_in p1 2 ∧ True) (pc' := 36) (lv' := [some (.ref 0), some (.int p1)]) (st' := [.int 0, .ref 0]) (h' := mkS x (S21.1, (u2 S21.2.1 17 p1.toNatClampNeg (vp_nar .boolean 1)), S21.2.2.1, S21.2.2.2)) rfl ⟨inb_ok o22, trivial⟩ ?_
            cases h23 : gfX10_told_0 x (S21.1, (u2 S21.2.1 17 p1.toNatClampNeg (vp_nar .boolean 1)), S21.2.2.1, S21.2.2.2) 0 with
            | none => rw [h23] at hm; cases hm
            | some q24 =>
              obtain ⟨r25, S26⟩ := q24
              rw [h23] at hm
              dsimp only at hm
              refine ev_callV (N := mX10_told) (d' := 1) (bc := 0) (bs := 0) (bc' := 0) (bs' := 0) (as := [.int 0]) (rest := []) (a := 0) (ci := 10) (dcd tokX10_image rfl) okX10_told inX10_told seX10_told lk10_178 rfl (by decide) (Nat.le_of_ble_eq_true rfl) rfl ⟨by decide, rfl⟩ (gpX10_told_0 x (S21.1, (u2 S21.2.1 17 p1.toNatClampNeg (vp_nar .boolean 1)), S21.2.2.1, S21.2.2.2) 0 _ _ h23) (fun v h' hq hn => ?_)
              obtain ⟨rfl, rfl⟩ := hq
              cases hm
              exact Ev.reti tokX10_image rfl rfl ⟨rfl, rfl⟩
        rw [if_neg c17] at hm
        cases hm
      · rw [if_neg c5] at hm
        refine Ev.steps tokX10_image 2 (P := True) (pc' := 10) (lv' := [some (.ref 0), some (.int p1)]) (st' := [.int (-1), .ref 0]) (h' := mkS x S4) rfl trivial ?_
        cases h27 : gfX10_told_0 x S4 (-1) with
        | none => rw [h27] at hm; cases hm
        | some q28 =>
          obtain ⟨r29, S30⟩ := q28
          rw [h27] at hm
          dsimp only at hm
          refine ev_callV (N := mX10_told) (d' := 1) (bc := 0) (bs := 0) (bc' := 0) (bs' := 0) (as := [.int (-1)]) (rest := []) (a := 0) (ci := 10) (dcd tokX10_image rfl) okX10_told inX10_told seX10_told lk10_178 rfl (by decide) (Nat.le_of_ble_eq_true rfl) rfl ⟨by decide, rfl⟩ (gpX10_told_0 x S4 (-1) _ _ h27) (fun v h' hq hn => ?_)
          obtain ⟨rfl, rfl⟩ := hq
          cases hm
          exact Ev.reti tokX10_image rfl rfl ⟨rfl, rfl⟩
theorem gpX10_image_0 (x : XT) (S : ST) (p1 : Int32) (r : Int32) (S' : ST) (hm : gfX10_image_0 x S p1 = some (r, S')) : Ct mX10_image 2 0 0 [.ref 0, .int p1] (mkS x S) (fun v h => v = some (.int r) ∧ h = mkS x S') :=
  Ct.of (lv := [some (.ref 0), some (.int p1)]) rfl rfl rfl (show (_ : Nat) ≤ _ from Nat.le_of_ble_eq_true rfl) (fun G => rfl) (bpX10_image_0_0 x S p1 r S' hm)
set_option maxHeartbeats 4000000 in
set_option maxRecDepth 20000 in
theorem bpX7_copyFrom_1_100_252 (x : XT) (k252 : ST → Int32 → Option (Unit × ST)) (hk252 : ∀ (S : ST) (v2 : Int32) (r : Unit) (S' : ST), k252 S v2 = some (r, S') → Ev mX7_copyFrom 1 0 0 252 [some (.ref 1), some (.ref 100), some (.int v2)] [] (mkS x S) (fun v h => v = none ∧ h = mkS x S')) (S : ST) (v2 : Int32) (r : Unit) (S' : ST) (hm : bfX7_copyFrom_1_100_252 x k252 S v2 = some (r, S')) : Ev mX7_copyFrom 1 0 0 252 [some (.ref 1), some (.ref 100), some (.int v2)] [] (mkS x S) (fun v h => v = none ∧ h = mkS x S') := by
    unfold bfX7_copyFrom_1_100_252 at hm
    refine Ev.steps tokX7_copyFrom 3 (P := True) (pc' := if 6 ≤ v2 then 276 else 258) (lv' := [some (.ref 1), some (.ref 100), some (.int v2)]) (st' := []) (h' := mkS x S) rfl trivial ?_
    refine Ev.ite (fun c1 => ?_) (fun c1 => ?_)
    · rw [if_pos c1] at hm
      cases hm
      exact Ev.retv tokX7_copyFrom rfl rfl ⟨rfl, rfl⟩
    · rw [if_neg c1] at hm
      obtain ⟨o2, hm⟩ := oblk hm
      refine Ev.steps tokX7_copyFrom 7 (P := vp_in v2 6 ∧ True) (pc' := 269) (lv' := [some (.ref 1), some (.ref 100), some (.int v2)]) (st' := [va_rf (S.2.2.2 114 v2.toNatClampNeg), .int v2, .ref 15]) (h' := mkS x S) rfl ⟨inb_ok o2, trivial⟩ ?_
      obtain ⟨o3, hm⟩ := oblk hm
      obtain ⟨o4, hm⟩ := oblk hm
      refine ev_aast (kd := 17) (ci := 9) (r := (S.2.2.2 114 v2.toNatClampNeg)) (dcd tokX7_copyFrom rfl) rfl (Or.inr ⟨rfl, rfl⟩) (inb_ok o3) (qk_ok o4) ?_
      refine Ev.steps tokX7_copyFrom 2 (P := True) (pc' := 252) (lv' := [some (.ref 1), some (.ref 100), some (.int (v2 + 1))]) (st' := []) (h' := mkS x (S.1, S.2.1, S.2.2.1, (u2 S.2.2.2 15 v2.toNatClampNeg (S.2.2.2 114 v2.toNatClampNeg)))) rfl trivial ?_
      exact hk252 (S.1, S.2.1, S.2.2.1, (u2 S.2.2.2 15 v2.toNatClampNeg (S.2.2.2 114 v2.toNatClampNeg))) (v2 + 1) _ _ hm
theorem lpX7_copyFrom_1_100_252 (x : XT)  : ∀ (n : Nat) (S : ST) (v2 : Int32) (r : Unit) (S' : ST), lfX7_copyFrom_1_100_252 x  n S v2 = some (r, S') → Ev mX7_copyFrom 1 0 0 252 [some (.ref 1), some (.ref 100), some (.int v2)] [] (mkS x S) (fun v h => v = none ∧ h = mkS x S')
  | 0, _, _, _, _, hm => by cases hm
  | n + 1, S, v2, r, S', hm => bpX7_copyFrom_1_100_252 x (lfX7_copyFrom_1_100_252 x  n) (lpX7_copyFrom_1_100_252 x  n) S v2 r S' hm
set_option maxHeartbeats 4000000 in
set_option maxRecDepth 20000 in
theorem bpX7_copyFrom_1_100_227 (x : XT) (k227 : ST → Int32 → Option (Unit × ST)) (hk227 : ∀ (S : ST) (v2 : Int32) (r : Unit) (S' : ST), k227 S v2 = some (r, S') → Ev mX7_copyFrom 1 0 0 227 [some (.ref 1), some (.ref 100), some (.int v2)] [] (mkS x S) (fun v h => v = none ∧ h = mkS x S')) (S : ST) (v2 : Int32) (r : Unit) (S' : ST) (hm : bfX7_copyFrom_1_100_227 x k227 S v2 = some (r, S')) : Ev mX7_copyFrom 1 0 0 227 [some (.ref 1), some (.ref 100), some (.int v2)] [] (mkS x S) (fun v h => v = none ∧ h = mkS x S') := by
    unfold bfX7_copyFrom_1_100_227 at hm
    refine Ev.steps tokX7_copyFrom 3 (P := True) (pc' := if 3 ≤ v2 then 250 else 232) (lv' := [some (.ref 1), some (.ref 100), some (.int v2)]) (st' := []) (h' := mkS x S) rfl trivial ?_
    refine Ev.ite (fun c1 => ?_) (fun c1 => ?_)
    · rw [if_pos c1] at hm
      refine Ev.steps tokX7_copyFrom 2 (P := True) (pc' := 252) (lv' := [some (.ref 1), some (.ref 100), some (.int 0)]) (st' := []) (h' := mkS x S) rfl trivial ?_
      exact lpX7_copyFrom_1_100_252 x  20000 S 0 _ _ hm
    · rw [if_neg c1] at hm
      obtain ⟨o2, hm⟩ := oblk hm
      obtain ⟨o3, hm⟩ := oblk hm
      refine Ev.steps tokX7_copyFrom 10 (P := vp_in v2 3 ∧ vp_in v2 3 ∧ True) (pc' := 227) (lv' := [some (.ref 1), some (.ref 100), some (.int (v2 + 1))]) (st' := []) (h' := mkS x (S.1, (u2 S.2.1 14 v2.toNatClampNeg (S.2.1 113 v2.toNatClampNeg)), S.2.2.1, S.2.2.2)) rfl ⟨inb_ok o2, inb_ok o3, trivial⟩ ?_
      exact hk227 (S.1, (u2 S.2.1 14 v2.toNatClampNeg (S.2.1 113 v2.toNatClampNeg)), S.2.2.1, S.2.2.2) (v2 + 1) _ _ hm
theorem lpX7_copyFrom_1_100_227 (x : XT)  : ∀ (n : Nat) (S : ST) (v2 : Int32) (r : Unit) (S' : ST), lfX7_copyFrom_1_100_227 x  n S v2 = some (r, S') → Ev mX7_copyFrom 1 0 0 227 [some (.ref 1), some (.ref 100), some (.int v2)] [] (mkS x S) (fun v h => v = none ∧ h = mkS x S')
  | 0, _, _, _, _, hm => by cases hm
  | n + 1, S, v2, r, S', hm => bpX7_copyFrom_1_100_227 x (lfX7_copyFrom_1_100_227 x  n) (lpX7_copyFrom_1_100_227 x  n) S v2 r S' hm
set_option maxHeartbeats 4000000 in
set_option maxRecDepth 20000 in
theorem bpX7_copyFrom_1_100_177 (x : XT) (k177 : ST → Int32 → Option (Unit × ST)) (hk177 : ∀ (S : ST) (v2 : Int32) (r : Unit) (S' : ST), k177 S v2 = some (r, S') → Ev mX7_copyFrom 1 0 0 177 [some (.ref 1), some (.ref 100), some (.int v2)] [] (mkS x S) (fun v h => v = none ∧ h = mkS x S')) (S : ST) (v2 : Int32) (r : Unit) (S' : ST) (hm : bfX7_copyFrom_1_100_177 x k177 S v2 = some (r, S')) : Ev mX7_copyFrom 1 0 0 177 [some (.ref 1), some (.ref 100), some (.int v2)] [] (mkS x S) (fun v h => v = none ∧ h = mkS x S') := by
    unfold bfX7_copyFrom_1_100_177 at hm
    refine Ev.steps tokX7_copyFrom 3 (P := True) (pc' := if 6 ≤ v2 then 225 else 183) (lv' := [some (.ref 1), some (.ref 100), some (.int v2)]) (st' := []) (h' := mkS x S) rfl trivial ?_
    refine Ev.ite (fun c1 => ?_) (fun c1 => ?_)
    · rw [if_pos c1] at hm
      refine Ev.steps tokX7_copyFrom 2 (P := True) (pc' := 227) (lv' := [some (.ref 1), some (.ref 100), some (.int 0)]) (st' := []) (h' := mkS x S) rfl trivial ?_
      exact lpX7_copyFrom_1_100_227 x  20000 S 0 _ _ hm
    · rw [if_neg c1] at hm
      obtain ⟨o2, hm⟩ := oblk hm
      obtain ⟨o3, hm⟩ := oblk hm
      obtain ⟨o4, hm⟩ := oblk hm
      obtain ⟨o5, hm⟩ := oblk hm
      obtain ⟨o6, hm⟩ := oblk hm
      obtain ⟨o7, hm⟩ := oblk hm
      refine Ev.steps tokX7_copyFrom 26 (P := vp_in v2 6 ∧ vp_in v2 6 ∧ vp_in v2 6 ∧ vp_in v2 6 ∧ vp_in v2 6 ∧ vp_in v2 6 ∧ True) (pc' := 177) (lv' := [some (.ref 1), some (.ref 100), some (.int (v2 + 1))]) (st' := []) (h' := mkS x (S.1, (u2 (u2 (u2 S.2.1 11 v2.toNatClampNeg (S.2.1 110 v2.toNatClampNeg)) 12 v2.toNatClampNeg (S.2.1 111 v2.toNatClampNeg)) 13 v2.toNatClampNeg (S.2.1 112 v2.toNatClampNeg)), S.2.2.1, S.2.2.2)) rfl ⟨inb_ok o2, inb_ok o3, inb_ok o4, inb_ok o5, inb_ok o6, inb_ok o7, trivial⟩ ?_
      exact hk177 (S.1, (u2 (u2 (u2 S.2.1 11 v2.toNatClampNeg (S.2.1 110 v2.toNatClampNeg)) 12 v2.toNatClampNeg (S.2.1 111 v2.toNatClampNeg)) 13 v2.toNatClampNeg (S.2.1 112 v2.toNatClampNeg)), S.2.2.1, S.2.2.2) (v2 + 1) _ _ hm
theorem lpX7_copyFrom_1_100_177 (x : XT)  : ∀ (n : Nat) (S : ST) (v2 : Int32) (r : Unit) (S' : ST), lfX7_copyFrom_1_100_177 x  n S v2 = some (r, S') → Ev mX7_copyFrom 1 0 0 177 [some (.ref 1), some (.ref 100), some (.int v2)] [] (mkS x S) (fun v h => v = none ∧ h = mkS x S')
  | 0, _, _, _, _, hm => by cases hm
  | n + 1, S, v2, r, S', hm => bpX7_copyFrom_1_100_177 x (lfX7_copyFrom_1_100_177 x  n) (lpX7_copyFrom_1_100_177 x  n) S v2 r S' hm
set_option maxHeartbeats 4000000 in
set_option maxRecDepth 20000 in
theorem bpX7_copyFrom_1_100_116 (x : XT) (k116 : ST → Int32 → Option (Unit × ST)) (hk116 : ∀ (S : ST) (v2 : Int32) (r : Unit) (S' : ST), k116 S v2 = some (r, S') → Ev mX7_copyFrom 1 0 0 116 [some (.ref 1), some (.ref 100), some (.int v2)] [] (mkS x S) (fun v h => v = none ∧ h = mkS x S')) (S : ST) (v2 : Int32) (r : Unit) (S' : ST) (hm : bfX7_copyFrom_1_100_116 x k116 S v2 = some (r, S')) : Ev mX7_copyFrom 1 0 0 116 [some (.ref 1), some (.ref 100), some (.int v2)] [] (mkS x S) (fun v h => v = none ∧ h = mkS x S') := by
    unfold bfX7_copyFrom_1_100_116 at hm
    refine Ev.steps tokX7_copyFrom 3 (P := True) (pc' := if 5 ≤ v2 then 175 else 121) (lv' := [some (.ref 1), some (.ref 100), some (.int v2)]) (st' := []) (h' := mkS x S) rfl trivial ?_
    refine Ev.ite (fun c1 => ?_) (fun c1 => ?_)
    · rw [if_pos c1] at hm
      refine Ev.steps tokX7_copyFrom 2 (P := True) (pc' := 177) (lv' := [some (.ref 1), some (.ref 100), some (.int 0)]) (st' := []) (h' := mkS x S) rfl trivial ?_
      exact lpX7_copyFrom_1_100_177 x  20000 S 0 _ _ hm
    · rw [if_neg c1] at hm
      obtain ⟨o2, hm⟩ := oblk hm
      obtain ⟨o3, hm⟩ := oblk hm
      obtain ⟨o4, hm⟩ := oblk hm
      obtain ⟨o5, hm⟩ := oblk hm
      obtain ⟨o6, hm⟩ := oblk hm
      obtain ⟨o7, hm⟩ := oblk hm
      obtain ⟨o8, hm⟩ := oblk hm
      obtain ⟨o9, hm⟩ := oblk hm
      refine Ev.steps tokX7_copyFrom 34 (P := vp_in v2 5 ∧ vp_in v2 5 ∧ vp_in v2 5 ∧ vp_in v2 5 ∧ vp_in v2 5 ∧ vp_in v2 5 ∧ vp_in v2 5 ∧ vp_in v2 5 ∧ True) (pc' := 116) (lv' := [some (.ref 1), some (.ref 100), some (.int (v2 + 1))]) (st' := []) (h' := mkS x (S.1, (u2 (u2 (u2 (u2 S.2.1 7 v2.toNatClampNeg (S.2.1 106 v2.toNatClampNeg)) 8 v2.toNatClampNeg (S.2.1 107 v2.toNatClampNeg)) 9 v2.toNatClampNeg (S.2.1 108 v2.toNatClampNeg)) 10 v2.toNatClampNeg (S.2.1 109 v2.toNatClampNeg)), S.2.2.1, S.2.2.2)) rfl ⟨inb_ok o2, inb_ok o3, inb_ok o4, inb_ok o5, inb_ok o6, inb_ok o7, inb_ok o8, inb_ok o9, trivial⟩ ?_
      exact hk116 (S.1, (u2 (u2 (u2 (u2 S.2.1 7 v2.toNatClampNeg (S.2.1 106 v2.toNatClampNeg)) 8 v2.toNatClampNeg (S.2.1 107 v2.toNatClampNeg)) 9 v2.toNatClampNeg (S.2.1 108 v2.toNatClampNeg)) 10 v2.toNatClampNeg (S.2.1 109 v2.toNatClampNeg)), S.2.2.1, S.2.2.2) (v2 + 1) _ _ hm
theorem lpX7_copyFrom_1_100_116 (x : XT)  : ∀ (n : Nat) (S : ST) (v2 : Int32) (r : Unit) (S' : ST), lfX7_copyFrom_1_100_116 x  n S v2 = some (r, S') → Ev mX7_copyFrom 1 0 0 116 [some (.ref 1), some (.ref 100), some (.int v2)] [] (mkS x S) (fun v h => v = none ∧ h = mkS x S')
  | 0, _, _, _, _, hm => by cases hm
  | n + 1, S, v2, r, S', hm => bpX7_copyFrom_1_100_116 x (lfX7_copyFrom_1_100_116 x  n) (lpX7_copyFrom_1_100_116 x  n) S v2 r S' hm
set_option maxHeartbeats 4000000 in
set_option maxRecDepth 20000 in
theorem bpX7_copyFrom_1_100_42 (x : XT) (k42 : ST → Int32 → Option (Unit × ST)) (hk42 : ∀ (S : ST) (v2 : Int32) (r : Unit) (S' : ST), k42 S v2 = some (r, S') → Ev mX7_copyFrom 1 0 0 42 [some (.ref 1), some (.ref 100), some (.int v2)] [] (mkS x S) (fun v h => v = none ∧ h = mkS x S')) (S : ST) (v2 : Int32) (r : Unit) (S' : ST) (hm : bfX7_copyFrom_1_100_42 x k42 S v2 = some (r, S')) : Ev mX7_copyFrom 1 0 0 42 [some (.ref 1), some (.ref 100), some (.int v2)] [] (mkS x S) (fun v h => v = none ∧ h = mkS x S') := by
    unfold bfX7_copyFrom_1_100_42 at hm
    refine Ev.steps tokX7_copyFrom 3 (P := True) (pc' := if 10 ≤ v2 then 114 else 48) (lv' := [some (.ref 1), some (.ref 100), some (.int v2)]) (st' := []) (h' := mkS x S) rfl trivial ?_
    refine Ev.ite (fun c1 => ?_) (fun c1 => ?_)
    · rw [if_pos c1] at hm
      refine Ev.steps tokX7_copyFrom 2 (P := True) (pc' := 116) (lv' := [some (.ref 1), some (.ref 100), some (.int 0)]) (st' := []) (h' := mkS x S) rfl trivial ?_
      exact lpX7_copyFrom_1_100_116 x  20000 S 0 _ _ hm
    · rw [if_neg c1] at hm
      obtain ⟨o2, hm⟩ := oblk hm
      obtain ⟨o3, hm⟩ := oblk hm
      obtain ⟨o4, hm⟩ := oblk hm
      obtain ⟨o5, hm⟩ := oblk hm
      obtain ⟨o6, hm⟩ := oblk hm
      obtain ⟨o7, hm⟩ := oblk hm
      obtain ⟨o8, hm⟩ := oblk hm
      obtain ⟨o9, hm⟩ := oblk hm
      obtain ⟨o10, hm⟩ := oblk hm
      obtain ⟨o11, hm⟩ := oblk hm
      refine Ev.steps tokX7_copyFrom 42 (P := vp_in v2 10 ∧ vp_in v2 10 ∧ vp_in v2 10 ∧ vp_in v2 10 ∧ vp_in v2 10 ∧ vp_in v2 10 ∧ vp_in v2 10 ∧ vp_in v2 10 ∧ vp_in v2 10 ∧ vp_in v2 10 ∧ True) (pc' := 42) (lv' := [some (.ref 1), some (.ref 100), some (.int (v2 + 1))]) (st' := []) (h' := mkS x (S.1, (u2 (u2 (u2 (u2 (u2 S.2.1 2 v2.toNatClampNeg (S.2.1 101 v2.toNatClampNeg)) 3 v2.toNatClampNeg (S.2.1 102 v2.toNatClampNeg)) 4 v2.toNatClampNeg (S.2.1 103 v2.toNatClampNeg)) 5 v2.toNatClampNeg (S.2.1 104 v2.toNatClampNeg)) 6 v2.toNatClampNeg (vp_nar .boolean (S.2.1 105 v2.toNatClampNeg))), S.2.2.1, S.2.2.2)) rfl ⟨inb_ok o2, inb_ok o3, inb_ok o4, inb_ok o5, inb_ok o6, inb_ok o7, inb_ok o8, inb_ok o9, inb_ok o10, inb_ok o11, trivial⟩ ?_
      exact hk42 (S.1, (u2 (u2 (u2 (u2 (u2 S.2.1 2 v2.toNatClampNeg (S.2.1 101 v2.toNatClampNeg)) 3 v2.toNatClampNeg (S.2.1 102 v2.toNatClampNeg)) 4 v2.toNatClampNeg (S.2.1 103 v2.toNatClampNeg)) 5 v2.toNatClampNeg (S.2.1 104 v2.toNatClampNeg)) 6 v2.toNatClampNeg (vp_nar .boolean (S.2.1 105 v2.toNatClampNeg))), S.2.2.1, S.2.2.2) (v2 + 1) _ _ hm
theorem lpX7_copyFrom_1_100_42 (x : XT)  : ∀ (n : Nat) (S : ST) (v2 : Int32) (r : Unit) (S' : ST), lfX7_copyFrom_1_100_42 x  n S v2 = some (r, S') → Ev mX7_copyFrom 1 0 0 42 [some (.ref 1), some (.ref 100), some (.int v2)] [] (mkS x S) (fun v h => v = none ∧ h = mkS x S')
  | 0, _, _, _, _, hm => by cases hm
  | n + 1, S, v2, r, S', hm => bpX7_copyFrom_1_100_42 x (lfX7_copyFrom_1_100_42 x  n) (lpX7_copyFrom_1_100_42 x  n) S v2 r S' hm
set_option maxHeartbeats 4000000 in
set_option maxRecDepth 20000 in
theorem bpX7_copyFrom_1_100_0 (x : XT)  (S : ST)  (r : Unit) (S' : ST) (hm : bfX7_copyFrom_1_100_0 x  S  = some (r, S')) : Ev mX7_copyFrom 1 0 0 0 [some (.ref 1), some (.ref 100), none] [] (mkS x S) (fun v h => v = none ∧ h = mkS x S') := by
    unfold bfX7_copyFrom_1_100_0 at hm
    refine Ev.steps tokX7_copyFrom 22 (P := True) (pc' := 42) (lv' := [some (.ref 1), some (.ref 100), some (.int 0)]) (st' := []) (h' := mkS x ((u2 (u2 (u2 (u2 (u2 S.1 1 0 (S.1 100 0)) 1 6 (S.1 100 6)) 1 11 (S.1 100 11)) 1 16 (S.1 100 16)) 1 18 (S.1 100 18)), S.2.1, S.2.2.1, S.2.2.2)) rfl trivial ?_
    exact lpX7_copyFrom_1_100_42 x  20000 ((u2 (u2 (u2 (u2 (u2 S.1 1 0 (S.1 100 0)) 1 6 (S.1 100 6)) 1 11 (S.1 100 11)) 1 16 (S.1 100 16)) 1 18 (S.1 100 18)), S.2.1, S.2.2.1, S.2.2.2) 0 _ _ hm
theorem gpX7_copyFrom_1_100 (x : XT) (S : ST)  (r : Unit) (S' : ST) (hm : gfX7_copyFrom_1_100 x S  = some (r, S')) : Ct mX7_copyFrom 1 0 0 [.ref 1, .ref 100] (mkS x S) (fun v h => v = none ∧ h = mkS x S') :=
  Ct.of (lv := [some (.ref 1), some (.ref 100), none]) rfl rfl rfl (show (_ : Nat) ≤ _ from Nat.le_of_ble_eq_true rfl) (fun G => rfl) (bpX7_copyFrom_1_100_0 x S  r S' hm)
set_option maxHeartbeats 4000000 in
set_option maxRecDepth 20000 in
theorem bpX7_copyFrom_1_115_252 (x : XT) (k252 : ST → Int32 → Option (Unit × ST)) (hk252 : ∀ (S : ST) (v2 : Int32) (r : Unit) (S' : ST), k252 S v2 = some (r, S') → Ev mX7_copyFrom 1 0 0 252 [some (.ref 1), some (.ref 115), some (.int v2)] [] (mkS x S) (fun v h => v = none ∧ h = mkS x S')) (S : ST) (v2 : Int32) (r : Unit) (S' : ST) (hm : bfX7_copyFrom_1_115_252 x k252 S v2 = some (r, S')) : Ev mX7_copyFrom 1 0 0 252 [some (.ref 1), some (.ref 115), some (.int v2)] [] (mkS x S) (fun v h => v = none ∧ h = mkS x S') := by
    unfold bfX7_copyFrom_1_115_252 at hm
    refine Ev.steps tokX7_copyFrom 3 (P := True) (pc' := if 6 ≤ v2 then 276 else 258) (lv' := [some (.ref 1), some (.ref 115), some (.int v2)]) (st' := []) (h' := mkS x S) rfl trivial ?_
    refine Ev.ite (fun c1 => ?_) (fun c1 => ?_)
    · rw [if_pos c1] at hm
      cases hm
      exact Ev.retv tokX7_copyFrom rfl rfl ⟨rfl, rfl⟩
    · rw [if_neg c1] at hm
      obtain ⟨o2, hm⟩ := oblk hm
      refine Ev.steps tokX7_copyFrom 7 (P := vp_in v2 6 ∧ True) (pc' := 269) (lv' := [some (.ref 1), some (.ref 115), some (.int v2)]) (st' := [va_rf (S.2.2.2 129 v2.toNatClampNeg), .int v2, .ref 15]) (h' := mkS x S) rfl ⟨inb_ok o2, trivial⟩ ?_
      obtain ⟨o3, hm⟩ := oblk hm
      obtain ⟨o4, hm⟩ := oblk hm
      refine ev_aast (kd := 17) (ci := 9) (r := (S.2.2.2 129 v2.toNatClampNeg)) (dcd tokX7_copyFrom rfl) rfl (Or.inr ⟨rfl, rfl⟩) (inb_ok o3) (qk_ok o4) ?_
      refine Ev.steps tokX7_copyFrom 2 (P := True) (pc' := 252) (lv' := [some (.ref 1), some (.ref 115), some (.int (v2 + 1))]) (st' := []) (h' := mkS x (S.1, S.2.1, S.2.2.1, (u2 S.2.2.2 15 v2.toNatClampNeg (S.2.2.2 129 v2.toNatClampNeg)))) rfl trivial ?_
      exact hk252 (S.1, S.2.1, S.2.2.1, (u2 S.2.2.2 15 v2.toNatClampNeg (S.2.2.2 129 v2.toNatClampNeg))) (v2 + 1) _ _ hm
theorem lpX7_copyFrom_1_115_252 (x : XT)  : ∀ (n : Nat) (S : ST) (v2 : Int32) (r : Unit) (S' : ST), lfX7_copyFrom_1_115_252 x  n S v2 = some (r, S') → Ev mX7_copyFrom 1 0 0 252 [some (.ref 1), some (.ref 115), some (.int v2)] [] (mkS x S) (fun v h => v = none ∧ h = mkS x S')
  | 0, _, _, _, _, hm => by cases hm
  | n + 1, S, v2, r, S', hm => bpX7_copyFrom_1_115_252 x (lfX7_copyFrom_1_115_252 x  n) (lpX7_copyFrom_1_115_252 x  n) S v2 r S' hm
set_option maxHeartbeats 4000000 in
set_option maxRecDepth 20000 in
theorem bpX7_copyFrom_1_115_227 (x : XT) (k227 : ST → Int32 → Option (Unit × ST)) (hk227 : ∀ (S : ST) (v2 : Int32) (r : Unit) (S' : ST), k227 S v2 = some (r, S') → Ev mX7_copyFrom 1 0 0 227 [some (.ref 1), some (.ref 115), some (.int v2)] [] (mkS x S) (fun v h => v = none ∧ h = mkS x S')) (S : ST) (v2 : Int32) (r : Unit) (S' : ST) (hm : bfX7_copyFrom_1_115_227 x k227 S v2 = some (r, S')) : Ev mX7_copyFrom 1 0 0 227 [some (.ref 1), some (.ref 115), some (.int v2)] [] (mkS x S) (fun v h => v = none ∧ h = mkS x S') := by
    unfold bfX7_copyFrom_1_115_227 at hm
    refine Ev.steps tokX7_copyFrom 3 (P := True) (pc' := if 3 ≤ v2 then 250 else 232) (lv' := [some (.ref 1), some (.ref 115), some (.int v2)]) (st' := []) (h' := mkS x S) rfl trivial ?_
    refine Ev.ite (fun c1 => ?_) (fun c1 => ?_)
    · rw [if_pos c1] at hm
      refine Ev.steps tokX7_copyFrom 2 (P := True) (pc' := 252) (lv' := [some (.ref 1), some (.ref 115), some (.int 0)]) (st' := []) (h' := mkS x S) rfl trivial ?_
      exact lpX7_copyFrom_1_115_252 x  20000 S 0 _ _ hm
    · rw [if_neg c1] at hm
      obtain ⟨o2, hm⟩ := oblk hm
      obtain ⟨o3, hm⟩ := oblk hm
      refine Ev.steps tokX7_copyFrom 10 (P := vp_in v2 3 ∧ vp_in v2 3 ∧ True) (pc' := 227) (lv' := [some (.ref 1), some (.ref 115), some (.int (v2 + 1))]) (st' := []) (h' := mkS x (S.1, (u2 S.2.1 14 v2.toNatClampNeg (S.2.1 128 v2.toNatClampNeg)), S.2.2.1, S.2.2.2)) rfl ⟨inb_ok o2, inb_ok o3, trivial⟩ ?_
      exact hk227 (S.1, (u2 S.2.1 14 v2.toNatClampNeg (S.2.1 128 v2.toNatClampNeg)), S.2.2.1, S.2.2.2) (v2 + 1) _ _ hm
theorem lpX7_copyFrom_1_115_227 (x : XT)  : ∀ (n : Nat) (S : ST) (v2 : Int32) (r : Unit) (S' : ST), lfX7_copyFrom_1_115_227 x  n S v2 = some (r, S') → Ev mX7_copyFrom 1 0 0 227 [some (.ref 1), some (.ref 115), some (.int v2)] [] (mkS x S) (fun v h => v = none ∧ h = mkS x S')
  | 0, _, _, _, _, hm => by cases hm
  | n + 1, S, v2, r, S', hm => bpX7_copyFrom_1_115_227 x (lfX7_copyFrom_1_115_227 x  n) (lpX7_copyFrom_1_115_227 x  n) S v2 r S' hm
set_option maxHeartbeats 4000000 in
set_option maxRecDepth 20000 in
theorem bpX7_copyFrom_1_115_177 (x : XT) (k177 : ST → Int32 → Option (Unit × ST)) (hk177 : ∀ (S : ST) (v2 : Int32) (r : Unit) (S' : ST), k177 S v2 = some (r, S') → Ev mX7_copyFrom 1 0 0 177 [some (.ref 1), some (.ref 115), some (.int v2)] [] (mkS x S) (fun v h => v = none ∧ h = mkS x S')) (S : ST) (v2 : Int32) (r : Unit) (S' : ST) (hm : bfX7_copyFrom_1_115_177 x k177 S v2 = some (r, S')) : Ev mX7_copyFrom 1 0 0 177 [some (.ref 1), some (.ref 115), some (.int v2)] [] (mkS x S) (fun v h => v = none ∧ h = mkS x S') := by
    unfold bfX7_copyFrom_1_115_177 at hm
    refine Ev.steps tokX7_copyFrom 3 (P := True) (pc' := if 6 ≤ v2 then 225 else 183) (lv' := [some (.ref 1), some (.ref 115), some (.int v2)]) (st' := []) (h' := mkS x S) rfl trivial ?_
    refine Ev.ite (fun c1 => ?_) (fun c1 => ?_)
    · rw [if_pos c1] at hm
      refine Ev.steps tokX7_copyFrom 2 (P := True) (pc' := 227) (lv' := [some (.ref 1), some (.ref 115), some (.int 0)]) (st' := []) (h' := mkS x S) rfl trivial ?_
      exact lpX7_copyFrom_1_115_227 x  20000 S 0 _ _ hm
    · rw [if_neg c1] at hm
      obtain ⟨o2, hm⟩ := oblk hm
      obtain ⟨o3, hm⟩ := oblk hm
      obtain ⟨o4, hm⟩ := oblk hm
      obtain ⟨o5, hm⟩ := oblk hm
      obtain ⟨o6, hm⟩ := oblk hm
      obtain ⟨o7, hm⟩ := oblk hm
      refine Ev.steps tokX7_copyFrom 26 (P := vp_in v2 6 ∧ vp_in v2 6 ∧ vp_in v2 6 ∧ vp_in v2 6 ∧ vp_in v2 6 ∧ vp_in v2 6 ∧ True) (pc' := 177) (lv' := [some (.ref 1), some (.ref 115), some (.int (v2 + 1))]) (st' := []) (h' := mkS x (S.1, (u2 (u2 (u2 S.2.1 11 v2.toNatClampNeg (S.2.1 125 v2.toNatClampNeg)) 12 v2.toNatClampNeg (S.2.1 126 v2.toNatClampNeg)) 13 v2.toNatClampNeg (S.2.1 127 v2.toNatClampNeg)), S.2.2.1, S.2.2.2)) rfl ⟨inb_ok o2, inb_ok o3, inb_ok o4, inb_ok o5, inb_ok o6, inb_ok o7, trivial⟩ ?_
      exact hk177 (S.1, (u2 (u2 (u2 S.2.1 11 v2.toNatClampNeg (S.2.1 125 v2.toNatClampNeg)) 12 v2.toNatClampNeg (S.2.1 126 v2.toNatClampNeg)) 13 v2.toNatClampNeg (S.2.1 127 v2.toNatClampNeg)), S.2.2.1, S.2.2.2) (v2 + 1) _ _ hm
theorem lpX7_copyFrom_1_115_177 (x : XT)  : ∀ (n : Nat) (S : ST) (v2 : Int32) (r : Unit) (S' : ST), lfX7_copyFrom_1_115_177 x  n S v2 = some (r, S') → Ev mX7_copyFrom 1 0 0 177 [some (.ref 1), some (.ref 115), some (.int v2)] [] (mkS x S) (fun v h => v = none ∧ h = mkS x S')
  | 0, _, _, _, _, hm => by cases hm
  | n + 1, S, v2, r, S', hm => bpX7_copyFrom_1_115_177 x (lfX7_copyFrom_1_115_177 x  n) (lpX7_copyFrom_1_115_177 x  n) S v2 r S' hm
set_option maxHeartbeats 4000000 in
set_option maxRecDepth 20000 in
theorem bpX7_copyFrom_1_115_116 (x : XT) (k116 : ST → Int32 → Option (Unit × ST)) (hk116 : ∀ (S : ST) (v2 : Int32) (r : Unit) (S' : ST), k116 S v2 = some (r, S') → Ev mX7_copyFrom 1 0 0 116 [some (.ref 1), some (.ref 115), some (.int v2)] [] (mkS x S) (fun v h => v = none ∧ h = mkS x S')) (S : ST) (v2 : Int32) (r : Unit) (S' : ST) (hm : bfX7_copyFrom_1_115_116 x k116 S v2 = some (r, S')) : Ev mX7_copyFrom 1 0 0 116 [some (.ref 1), some (.ref 115), some (.int v2)] [] (mkS x S) (fun v h => v = none ∧ h = mkS x S') := by
    unfold bfX7_copyFrom_1_115_116 at hm
    refine Ev.steps tokX7_copyFrom 3 (P := True) (pc' := if 5 ≤ v2 then 175 else 121) (lv' := [some (.ref 1), some (.ref 115), some (.int v2)]) (st' := []) (h' := mkS x S) rfl trivial ?_
    refine Ev.ite (fun c1 => ?_) (fun c1 => ?_)
    · rw [if_pos c1] at hm
      refine Ev.steps tokX7_copyFrom 2 (P := True) (pc' := 177) (lv' := [some (.ref 1), some (.ref 115), some (.int 0)]) (st' := []) (h' := mkS x S) rfl trivial ?_
      exact lpX7_copyFrom_1_115_177 x  20000 S 0 _ _ hm
    · rw [if_neg c1] at hm
      obtain ⟨o2, hm⟩ := oblk hm
      obtain ⟨o3, hm⟩ := oblk hm
      obtain ⟨o4, hm⟩ := oblk hm
      obtain ⟨o5, hm⟩ := oblk hm
      obtain ⟨o6, hm⟩ := oblk hm
      obtain ⟨o7, hm⟩ := oblk hm
      obtain ⟨o8, hm⟩ := oblk hm
      obtain ⟨o9, hm⟩ := oblk hm
      refine Ev.steps tokX7_copyFrom 34 (P := vp_in v2 5 ∧ vp_in v2 5 ∧ vp_in v2 5 ∧ vp_in v2 5 ∧ vp_in v2 5 ∧ vp_in v2 5 ∧ vp_in v2 5 ∧ vp_in v2 5 ∧ True) (pc' := 116) (lv' := [some (.ref 1), some (.ref 115), some (.int (v2 + 1))]) (st' := []) (h' := mkS x (S.1, (u2 (u2 (u2 (u2 S.2.1 7 v2.toNatClampNeg (S.2.1 121 v2.toNatClampNeg)) 8 v2.toNatClampNeg (S.2.1 122 v2.toNatClampNeg)) 9 v2.toNatClampNeg (S.2.1 123 v2.toNatClampNeg)) 10 v2.toNatClampNeg (S.2.1 124 v2.toNatClampNeg)), S.2.2.1, S.2.2.2)) rfl ⟨inb_ok o2, inb_ok o3, inb_ok o4, inb_ok o5, inb_ok o6, inb_ok o7, inb_ok o8, inb_ok o9, trivial⟩ ?_
      exact hk116 (S.1, (u2 (u2 (u2 (u2 S.2.1 7 v2.toNatClampNeg (S.2.1 121 v2.toNatClampNeg)) 8 v2.toNatClampNeg (S.2.1 122 v2.toNatClampNeg)) 9 v2.toNatClampNeg (S.2.1 123 v2.toNatClampNeg)) 10 v2.toNatClampNeg (S.2.1 124 v2.toNatClampNeg)), S.2.2.1, S.2.2.2) (v2 + 1) _ _ hm
theorem lpX7_copyFrom_1_115_116 (x : XT)  : ∀ (n : Nat) (S : ST) (v2 : Int32) (r : Unit) (S' : ST), lfX7_copyFrom_1_115_116 x  n S v2 = some (r, S') → Ev mX7_copyFrom 1 0 0 116 [some (.ref 1), some (.ref 115), some (.int v2)] [] (mkS x S) (fun v h => v = none ∧ h = mkS x S')
  | 0, _, _, _, _, hm => by cases hm
  | n + 1, S, v2, r, S', hm => bpX7_copyFrom_1_115_116 x (lfX7_copyFrom_1_115_116 x  n) (lpX7_copyFrom_1_115_116 x  n) S v2 r S' hm
set_option maxHeartbeats 4000000 in
set_option maxRecDepth 20000 in
theorem bpX7_copyFrom_1_115_42 (x : XT) (k42 : ST → Int32 → Option (Unit × ST)) (hk42 : ∀ (S : ST) (v2 : Int32) (r : Unit) (S' : ST), k42 S v2 = some (r, S') → Ev mX7_copyFrom 1 0 0 42 [some (.ref 1), some (.ref 115), some (.int v2)] [] (mkS x S) (fun v h => v = none ∧ h = mkS x S')) (S : ST) (v2 : Int32) (r : Unit) (S' : ST) (hm : bfX7_copyFrom_1_115_42 x k42 S v2 = some (r, S')) : Ev mX7_copyFrom 1 0 0 42 [some (.ref 1), some (.ref 115), some (.int v2)] [] (mkS x S) (fun v h => v = none ∧ h = mkS x S') := by
    unfold bfX7_copyFrom_1_115_42 at hm
    refine Ev.steps tokX7_copyFrom 3 (P := True) (pc' := if 10 ≤ v2 then 114 else 48) (lv' := [some (.ref 1), some (.ref 115), some (.int v2)]) (st' := []) (h' := mkS x S) rfl trivial ?_
    refine Ev.ite (fun c1 => ?_) (fun c1 => ?_)
    · rw [if_pos c1] at hm
      refine Ev.steps tokX7_copyFrom 2 (P := True) (pc' := 116) (lv' := [some (.ref 1), some (.ref 115), some (.int 0)]) (st' := []) (h' := mkS x S) rfl trivial ?_
      exact lpX7_copyFrom_1_115_116 x  20000 S 0 _ _ hm
    · rw [if_neg c1] at hm
      obtain ⟨o2, hm⟩ := oblk hm
      obtain ⟨o3, hm⟩ := oblk hm
      obtain ⟨o4, hm⟩ := oblk hm
      obtain ⟨o5, hm⟩ := oblk hm
      obtain ⟨o6, hm⟩ := oblk hm
      obtain ⟨o7, hm⟩ := oblk hm
      obtain ⟨o8, hm⟩ := oblk hm
      obtain ⟨o9, hm⟩ := oblk hm
      obtain ⟨o10, hm⟩ := oblk hm
      obtain ⟨o11, hm⟩ := oblk hm
      refine Ev.steps tokX7_copyFrom 42 (P := vp_in v2 10 ∧ vp_in v2 10 ∧ vp_in v2 10 ∧ vp_in v2 10 ∧ vp_in v2 10 ∧ vp_in v2 10 ∧ vp_in v2 10 ∧ vp_in v2 10 ∧ vp_in v2 10 ∧ vp_in v2 10 ∧ True) (pc' := 42) (lv' := [some (.ref 1), some (.ref 115), some (.int (v2 + 1))]) (st' := []) (h' := mkS x (S.1, (u2 (u2 (u2 (u2 (u2 S.2.1 2 v2.toNatClampNeg (S.2.1 116 v2.toNatClampNeg)) 3 v2.toNatClampNeg (S.2.1 117 v2.toNatClampNeg)) 4 v2.toNatClampNeg (S.2.1 118 v2.toNatClampNeg)) 5 v2.toNatClampNeg (S.2.1 119 v2.toNatClampNeg)) 6 v2.toNatClampNeg (vp_nar .boolean (S.2.1 120 v2.toNatClampNeg))), S.2.2.1, S.2.2.2)) rfl ⟨inb_ok o2, inb_ok o3, inb_ok o4, inb_ok o5, inb_ok o6, inb_ok o7, inb_ok o8, inb_ok o9, inb_ok o10, inb_ok o11, trivial⟩ ?_
      exact hk42 (S.1, (u2 (u2 (u2 (u2 (u2 S.2.1 2 v2.toNatClampNeg (S.2.1 116 v2.toNatClampNeg)) 3 v2.toNatClampNeg (S.2.1 117 v2.toNatClampNeg)) 4 v2.toNatClampNeg (S.2.1 118 v2.toNatClampNeg)) 5 v2.toNatClampNeg (S.2.1 119 v2.toNatClampNeg)) 6 v2.toNatClampNeg (vp_nar .boolean (S.2.1 120 v2.toNatClampNeg))), S.2.2.1, S.2.2.2) (v2 + 1) _ _ hm
theorem lpX7_copyFrom_1_115_42 (x : XT)  : ∀ (n : Nat) (S : ST) (v2 : Int32) (r : Unit) (S' : ST), lfX7_copyFrom_1_115_42 x  n S v2 = some (r, S') → Ev mX7_copyFrom 1 0 0 42 [some (.ref 1), some (.ref 115), some (.int v2)] [] (mkS x S) (fun v h => v = none ∧ h = mkS x S')
  | 0, _, _, _, _, hm => by cases hm
  | n + 1, S, v2, r, S', hm => bpX7_copyFrom_1_115_42 x (lfX7_copyFrom_1_115_42 x  n) (lpX7_copyFrom_1_115_42 x  n) S v2 r S' hm
set_option maxHeartbeats 4000000 in
set_option maxRecDepth 20000 in
theorem bpX7_copyFrom_1_115_0 (x : XT)  (S : ST)  (r : Unit) (S' : ST) (hm : bfX7_copyFrom_1_115_0 x  S  = some (r, S')) : Ev mX7_copyFrom 1 0 0 0 [some (.ref 1), some (.ref 115), none] [] (mkS x S) (fun v h => v = none ∧ h = mkS x S') := by
    unfold bfX7_copyFrom_1_115_0 at hm
    refine Ev.steps tokX7_copyFrom 22 (P := True) (pc' := 42) (lv' := [some (.ref 1), some (.ref 115), some (.int 0)]) (st' := []) (h' := mkS x ((u2 (u2 (u2 (u2 (u2 S.1 1 0 (S.1 115 0)) 1 6 (S.1 115 6)) 1 11 (S.1 115 11)) 1 16 (S.1 115 16)) 1 18 (S.1 115 18)), S.2.1, S.2.2.1, S.2.2.2)) rfl trivial ?_
    exact lpX7_copyFrom_1_115_42 x  20000 ((u2 (u2 (u2 (u2 (u2 S.1 1 0 (S.1 115 0)) 1 6 (S.1 115 6)) 1 11 (S.1 115 11)) 1 16 (S.1 115 16)) 1 18 (S.1 115 18)), S.2.1, S.2.2.1, S.2.2.2) 0 _ _ hm
theorem gpX7_copyFrom_1_115 (x : XT) (S : ST)  (r : Unit) (S' : ST) (hm : gfX7_copyFrom_1_115 x S  = some (r, S')) : Ct mX7_copyFrom 1 0 0 [.ref 1, .ref 115] (mkS x S) (fun v h => v = none ∧ h = mkS x S') :=
  Ct.of (lv := [some (.ref 1), some (.ref 115), none]) rfl rfl rfl (show (_ : Nat) ≤ _ from Nat.le_of_ble_eq_true rfl) (fun G => rfl) (bpX7_copyFrom_1_115_0 x S  r S' hm)
set_option maxHeartbeats 4000000 in
set_option maxRecDepth 20000 in
theorem bpX10_back_0_0 (x : XT)  (S : ST) (p1 : Int32) (r : Int32) (S' : ST) (hm : bfX10_back_0_0 x  S p1 = some (r, S')) : Ev mX10_back 3 0 0 0 [some (.ref 0), some (.int p1)] [] (mkS x S) (fun v h => v = some (.int r) ∧ h = mkS x S') := by
    unfold bfX10_back_0_0 at hm
    refine Ev.steps tokX10_back 2 (P := True) (pc' := 2) (lv' := [some (.ref 0), some (.int p1)]) (st' := [.int 2, .int p1]) (h' := mkS x S) rfl trivial ?_
    cases h1 : gfX10_within x S p1 2 with
    | none => rw [h1] at hm; cases hm
    | some q2 =>
      obtain ⟨r3, S4⟩ := q2
      rw [h1] at hm
      dsimp only at hm
      refine ev_callS (N := mX10_within) (d' := 1) (bc := 0) (bs := 0) (bc' := 0) (bs' := 0) (as := [.int p1, .int 2]) (rest := []) (dcd tokX10_back rfl) okX10_within inX10_within lk10_153 rfl (by decide) (Nat.le_of_ble_eq_true rfl) (gpX10_within x S p1 2 _ _ h1) (fun v h' hq hn => ?_)
      obtain ⟨rfl, rfl⟩ := hq
      refine Ev.steps tokX10_back 1 (P := True) (pc' := if ¬ r3 = 0 then 14 else 8) (lv' := [some (.ref 0), some (.int p1)]) (st' := []) (h' := mkS x S4) rfl trivial ?_
      refine Ev.ite (fun c5 => ?_) (fun c5 => ?_)
      · rw [if_pos c5] at hm
        obtain ⟨o6, hm⟩ := oblk hm
        refine Ev.steps tokX10_back 5 (P := vp_in p1 2 ∧ True) (pc' := if ¬ (S4.2.1 17 p1.toNatClampNeg) = 0 then 30 else 23) (lv' := [some (.ref 0), some (.int p1)]) (st' := []) (h' := mkS x S4) rfl ⟨inb_ok o6, trivial⟩ ?_
        refine Ev.ite (fun c7 => ?_) (fun c7 => ?_)
        · rw [if_pos c7] at hm
          obtain ⟨o8, hm⟩ := oblk hm
          refine Ev.steps tokX10_back 6 (P := vp_in p1 2 ∧ True) (pc' := 40) (lv' := [some (.ref 0), some (.int p1)]) (st' := [va_rf (S4.2.2.2 16 p1.toNatClampNeg), .ref 1]) (h' := mkS x S4) rfl ⟨inb_ok o8, trivial⟩ ?_
          by_cases c9 : (S4.2.2.2 16 p1.toNatClampNeg) = some 100
          · rw [if_pos c9] at hm
            rw [c9]
            cases h10 : gfX7_copyFrom_1_100 x S4 with
            | none => rw [h10] at hm; cases hm
            | some q11 =>
              obtain ⟨r12, S13⟩ := q11
              rw [h10] at hm
              dsimp only at hm
              refine ev_callV (N := mX7_copyFrom) (d' := 1) (bc := 0) (bs := 0) (bc' := 0) (bs' := 0) (as := [.ref 100]) (rest := []) (a := 1) (ci := 7) (dcd tokX10_back rfl) okX7_copyFrom inX7_copyFrom seX7_copyFrom lk10_338 rfl (by decide) (Nat.le_of_ble_eq_true rfl) rfl ⟨by decide, rfl⟩ (gpX7_copyFrom_1_100 x S4 _ _ h10) (fun v h' hq hn => ?_)
              obtain ⟨rfl, rfl⟩ := hq
              refine Ev.steps tokX10_back 2 (P := True) (pc' := 45) (lv' := [some (.ref 0), some (.int p1)]) (st' := [.int 0, .ref 0]) (h' := mkS x S13) rfl trivial ?_
              cases h14 : gfX10_toldAnew_0 x S13 0 with
              | none => rw [h14] at hm; cases hm
              | some q15 =>
                obtain ⟨r16, S17⟩ := q15
                rw [h14] at hm
                dsimp only at hm
                refine ev_callV (N := mX10_toldAnew) (d' := 2) (bc := 0) (bs := 0) (bc' := 0) (bs' := 0) (as := [.int 0]) (rest := []) (a := 0) (ci := 10) (dcd tokX10_back rfl) okX10_toldAnew inX10_toldAnew seX10_toldAnew lk10_107 rfl (by decide) (Nat.le_of_ble_eq_true rfl) rfl ⟨by decide, rfl⟩ (gpX10_toldAnew_0 x S13 0 _ _ h14) (fun v h' hq hn => ?_)
                obtain ⟨rfl, rfl⟩ := hq
                cases hm
                exact Ev.reti tokX10_back rfl rfl ⟨rfl, rfl⟩
          rw [if_neg c9] at hm
          by_cases c18 : (S4.2.2.2 16 p1.toNatClampNeg) = some 115
          · rw [if_pos c18] at hm
            rw [c18]
            cases h19 : gfX7_copyFrom_1_115 x S4 with
            | none => rw [h19] at hm; cases hm
            | some q20 =>
              obtain ⟨r21, S22⟩ := q20
              rw [h19] at hm
              dsimp only at hm
              refine ev_callV (N := mX7_copyFrom) (d' := 1) (bc := 0) (bs := 0) (bc' := 0) (bs' := 0) (as := [.ref 115]) (rest := []) (a := 1) (ci := 7) (dcd tokX10_back rfl) okX7_copyFrom inX7_copyFrom seX7_copyFrom lk10_338 rfl (by decide) (Nat.le_of_ble_eq_true rfl) rfl ⟨by decide, rfl⟩ (gpX7_copyFrom_1_115 x S4 _ _ h19) (fun v h' hq hn => ?_)
              obtain ⟨rfl, rfl⟩ := hq
              refine Ev.steps tokX10_back 2 (P := True) (pc' := 45) (lv' := [some (.ref 0), some (.int p1)]) (st' := [.int 0, .ref 0]) (h' := mkS x S22) rfl trivial ?_
              cases h23 : gfX10_toldAnew_0 x S22 0 with
              | none => rw [h23] at hm; cases hm
              | some q24 =>
                obtain ⟨r25, S26⟩ := q24
                rw [h23] at hm
                dsimp only at hm
                refine ev_callV (N := mX10_toldAnew) (d' := 2) (bc := 0) (bs := 0) (bc' := 0) (bs' := 0) (as := [.int 0]) (rest := []) (a := 0) (ci := 10) (dcd tokX10_back rfl) okX10_toldAnew inX10_toldAnew seX10_toldAnew lk10_107 rfl (by decide) (Nat.le_of_ble_eq_true rfl) rfl ⟨by decide, rfl⟩ (gpX10_toldAnew_0 x S22 0 _ _ h23) (fun v h' hq hn => ?_)
                obtain ⟨rfl, rfl⟩ := hq
                cases hm
                exact Ev.reti tokX10_back rfl rfl ⟨rfl, rfl⟩
          rw [if_neg c18] at hm
          cases hm
        · rw [if_neg c7] at hm
          refine Ev.steps tokX10_back 2 (P := True) (pc' := 26) (lv' := [some (.ref 0), some (.int p1)]) (st' := [.int (-2), .ref 0]) (h' := mkS x S4) rfl trivial ?_
          cases h27 : gfX10_told_0 x S4 (-2) with
          | none => rw [h27] at hm; cases hm
          | some q28 =>
            obtain ⟨r29, S30⟩ := q28
            rw [h27] at hm
            dsimp only at hm
            refine ev_callV (N := mX10_told) (d' := 1) (bc := 0) (bs := 0) (bc' := 0) (bs' := 0) (as := [.int (-2)]) (rest := []) (a := 0) (ci := 10) (dcd tokX10_back rfl) okX10_told inX10_told seX10_told lk10_178 rfl (by decide) (Nat.le_of_ble_eq_true rfl) rfl ⟨by decide, rfl⟩ (gpX10_told_0 x S4 (-2) _ _ h27) (fun v h' hq hn => ?_)
            obtain ⟨rfl, rfl⟩ := hq
            cases hm
            exact Ev.reti tokX10_back rfl rfl ⟨rfl, rfl⟩
      · rw [if_neg c5] at hm
        refine Ev.steps tokX10_back 2 (P := True) (pc' := 10) (lv' := [some (.ref 0), some (.int p1)]) (st' := [.int (-1), .ref 0]) (h' := mkS x S4) rfl trivial ?_
        cases h31 : gfX10_told_0 x S4 (-1) with
        | none => rw [h31] at hm; cases hm
        | some q32 =>
          obtain ⟨r33, S34⟩ := q32
          rw [h31] at hm
          dsimp only at hm
          refine ev_callV (N := mX10_told) (d' := 1) (bc := 0) (bs := 0) (bc' := 0) (bs' := 0) (as := [.int (-1)]) (rest := []) (a := 0) (ci := 10) (dcd tokX10_back rfl) okX10_told inX10_told seX10_told lk10_178 rfl (by decide) (Nat.le_of_ble_eq_true rfl) rfl ⟨by decide, rfl⟩ (gpX10_told_0 x S4 (-1) _ _ h31) (fun v h' hq hn => ?_)
          obtain ⟨rfl, rfl⟩ := hq
          cases hm
          exact Ev.reti tokX10_back rfl rfl ⟨rfl, rfl⟩
theorem gpX10_back_0 (x : XT) (S : ST) (p1 : Int32) (r : Int32) (S' : ST) (hm : gfX10_back_0 x S p1 = some (r, S')) : Ct mX10_back 3 0 0 [.ref 0, .int p1] (mkS x S) (fun v h => v = some (.int r) ∧ h = mkS x S') :=
  Ct.of (lv := [some (.ref 0), some (.int p1)]) rfl rfl rfl (show (_ : Nat) ≤ _ from Nat.le_of_ble_eq_true rfl) (fun G => rfl) (bpX10_back_0_0 x S p1 r S' hm)
set_option maxHeartbeats 4000000 in
set_option maxRecDepth 20000 in
theorem bpX7_allMany_1_4 (x : XT) (k4 : ST → Int32 → Int32 → Option (Int32 × ST)) (hk4 : ∀ (S : ST) (v1 : Int32) (v2 : Int32) (r : Int32) (S' : ST), k4 S v1 v2 = some (r, S') → Ev mX7_allMany 1 0 0 4 [some (.ref 1), some (.int v1), some (.int v2)] [] (mkS x S) (fun v h => v = some (.int r) ∧ h = mkS x S')) (S : ST) (v1 : Int32) (v2 : Int32) (r : Int32) (S' : ST) (hm : bfX7_allMany_1_4 x k4 S v1 v2 = some (r, S')) : Ev mX7_allMany 1 0 0 4 [some (.ref 1), some (.int v1), some (.int v2)] [] (mkS x S) (fun v h => v = some (.int r) ∧ h = mkS x S') := by
    unfold bfX7_allMany_1_4 at hm
    refine Ev.steps tokX7_allMany 4 (P := True) (pc' := if (S.1 1 6) ≤ v2 then 27 else 12) (lv' := [some (.ref 1), some (.int v1), some (.int v2)]) (st' := []) (h' := mkS x S) rfl trivial ?_
    refine Ev.ite (fun c1 => ?_) (fun c1 => ?_)
    · rw [if_pos c1] at hm
      refine Ev.steps tokX7_allMany 1 (P := True) (pc' := 28) (lv' := [some (.ref 1), some (.int v1), some (.int v2)]) (st' := [.int v1]) (h' := mkS x S) rfl trivial ?_
      cases hm
      exact Ev.reti tokX7_allMany rfl rfl ⟨rfl, rfl⟩
    · rw [if_neg c1] at hm
      obtain ⟨o2, hm⟩ := oblk hm
      refine Ev.steps tokX7_allMany 9 (P := vp_in v2 5 ∧ True) (pc' := 4) (lv' := [some (.ref 1), some (.int (v1 + (S.2.1 8 v2.toNatClampNeg))), some (.int (v2 + 1))]) (st' := []) (h' := mkS x S) rfl ⟨inb_ok o2, trivial⟩ ?_
      exact hk4 S (v1 + (S.2.1 8 v2.toNatClampNeg)) (v2 + 1) _ _ hm
theorem lpX7_allMany_1_4 (x : XT)  : ∀ (n : Nat) (S : ST) (v1 : Int32) (v2 : Int32) (r : Int32) (S' : ST), lfX7_allMany_1_4 x  n S v1 v2 = some (r, S') → Ev mX7_allMany 1 0 0 4 [some (.ref 1), some (.int v1), some (.int v2)] [] (mkS x S) (fun v h => v = some (.int r) ∧ h = mkS x S')
  | 0, _, _, _, _, _, hm => by cases hm
  | n + 1, S, v1, v2, r, S', hm => bpX7_allMany_1_4 x (lfX7_allMany_1_4 x  n) (lpX7_allMany_1_4 x  n) S v1 v2 r S' hm
set_option maxHeartbeats 4000000 in
set_option maxRecDepth 20000 in
theorem bpX7_allMany_1_0 (x : XT)  (S : ST)  (r : Int32) (S' : ST) (hm : bfX7_allMany_1_0 x  S  = some (r, S')) : Ev mX7_allMany 1 0 0 0 [some (.ref 1), none, none] [] (mkS x S) (fun v h => v = some (.int r) ∧ h = mkS x S') := by
    unfold bfX7_allMany_1_0 at hm
    refine Ev.steps tokX7_allMany 4 (P := True) (pc' := 4) (lv' := [some (.ref 1), some (.int 0), some (.int 0)]) (st' := []) (h' := mkS x S) rfl trivial ?_
    exact lpX7_allMany_1_4 x  20000 S 0 0 _ _ hm
theorem gpX7_allMany_1 (x : XT) (S : ST)  (r : Int32) (S' : ST) (hm : gfX7_allMany_1 x S  = some (r, S')) : Ct mX7_allMany 1 0 0 [.ref 1] (mkS x S) (fun v h => v = some (.int r) ∧ h = mkS x S') :=
  Ct.of (lv := [some (.ref 1), none, none]) rfl rfl rfl (show (_ : Nat) ≤ _ from Nat.le_of_ble_eq_true rfl) (fun G => rfl) (bpX7_allMany_1_0 x S  r S' hm)
end MIR
