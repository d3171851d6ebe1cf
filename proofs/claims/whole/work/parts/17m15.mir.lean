section MIR
set_option maxHeartbeats 4000000 in
set_option maxRecDepth 20000 in
theorem bpX0_can_20_84_24 (x : XT)  (S : ST)  (r : Int32) (S' : ST) (hm : bfX0_can_20_84_24 x  S  = some (r, S')) : Ev mX0_can 4 0 0 24 [none, none, none, none] [] (mkS x S) (fun v h => v = some (.int r) ∧ h = mkS x S') := by
    unfold bfX0_can_20_84_24 at hm
    refine Ev.steps tokX0_can 1 (P := True) (pc' := 25) (lv' := [none, none, none, none]) (st' := [.int 0]) (h' := mkS x S) rfl trivial ?_
    cases hm
    exact Ev.retz tokX0_can rfl rfl (Or.inl rfl) ⟨rfl, rfl⟩
set_option maxHeartbeats 4000000 in
set_option maxRecDepth 20000 in
theorem bpX0_can_20_84_55 (x : XT)  (S : ST) (t0 : Int32) (r : Int32) (S' : ST) (hm : bfX0_can_20_84_55 x  S t0 = some (r, S')) : Ev mX0_can 4 0 0 55 [none, none, none, none] [.int t0] (mkS x S) (fun v h => v = some (.int r) ∧ h = mkS x S') := by
    unfold bfX0_can_20_84_55 at hm
    obtain ⟨o1, hm⟩ := oblk hm
    cases hm
    exact Ev.retz tokX0_can rfl rfl (bbz_ok o1) ⟨rfl, rfl⟩
set_option maxHeartbeats 4000000 in
set_option maxRecDepth 20000 in
theorem bpX0_can_20_84_0 (x : XT)  (S : ST) (p2 : Int32) (p3 : Int32) (r : Int32) (S' : ST) (hm : bfX0_can_20_84_0 x  S p2 p3 = some (r, S')) : Ev mX0_can 4 0 0 0 [some (.ref 20), some (.ref 84), some (.int p2), some (.int p3)] [] (mkS x S) (fun v h => v = some (.int r) ∧ h = mkS x S') := by
    unfold bfX0_can_20_84_0 at hm
    obtain ⟨o1, hm⟩ := oblk hm
    obtain ⟨o2, hm⟩ := oblk hm
    refine Ev.steps tokX0_can 9 (P := vp_in p2 5 ∧ vp_in p3 10 ∧ True) (pc' := if ¬ (S.2.1 90 p2.toNatClampNeg) = (S.2.1 85 p3.toNatClampNeg) then 24 else 15) (lv' := [some (.ref 20), some (.ref 84), some (.int p2), some (.int p3)]) (st' := []) (h' := mkS x S) rfl ⟨inb_ok o1, inb_ok o2, trivial⟩ ?_
    refine Ev.ite (fun c3 => ?_) (fun c3 => ?_)
    · rw [if_pos c3] at hm
      refine Ev.fgt (lv' := [none, none, none, none]) trivial ?_
      exact bpX0_can_20_84_24 x S _ _ hm
    · rw [if_neg c3] at hm
      obtain ⟨o4, hm⟩ := oblk hm
      refine Ev.steps tokX0_can 5 (P := vp_in p3 10 ∧ True) (pc' := if ¬ (S.2.1 89 p3.toNatClampNeg) = 0 then 26 else 24) (lv' := [some (.ref 20), some (.ref 84), some (.int p2), some (.int p3)]) (st' := []) (h' := mkS x S) rfl ⟨inb_ok o4, trivial⟩ ?_
      refine Ev.ite (fun c5 => ?_) (fun c5 => ?_)
      · rw [if_pos c5] at hm
        obtain ⟨o6, hm⟩ := oblk hm
        refine Ev.steps tokX0_can 8 (P := vp_in p2 5 ∧ True) (pc' := 36) (lv' := [some (.ref 20), some (.ref 84), some (.int p2), some (.int p3)]) (st' := [.int (S.2.1 91 p2.toNatClampNeg), .int p3, .int p2, .ref 84, .ref 20]) (h' := mkS x S) rfl ⟨inb_ok o6, trivial⟩ ?_
        cases h7 : gfX0_regard_20_84 x S p2 p3 (S.2.1 91 p2.toNatClampNeg) with
        | none => rw [h7] at hm; cases hm
        | some q8 =>
          obtain ⟨r9, S10⟩ := q8
          rw [h7] at hm
          dsimp only at hm
          refine ev_callV (N := mX0_regard) (d' := 2) (bc := 0) (bs := 0) (bc' := 0) (bs' := 0) (as := [.ref 84, .int p2, .int p3, .int (S.2.1 91 p2.toNatClampNeg)]) (rest := []) (a := 20) (ci := 0) (dcd tokX0_can rfl) okX0_regard inX0_regard seX0_regard lk0_83 rfl (by decide) (Nat.le_of_ble_eq_true rfl) rfl ⟨by decide, rfl⟩ (gpX0_regard_20_84 x S p2 p3 (S.2.1 91 p2.toNatClampNeg) _ _ h7) (fun v h' hq hn => ?_)
          obtain ⟨rfl, rfl⟩ := hq
          refine Ev.steps tokX0_can 3 (P := True) (pc' := 44) (lv' := [some (.ref 20), some (.ref 84), some (.int p2), some (.int p3)]) (st' := [.int 262, .ref 84, .ref 20]) (h' := mkS x S10) rfl trivial ?_
          cases h11 : gfX0_told_20_84 x S10 262 with
          | none => rw [h11] at hm; cases hm
          | some q12 =>
            obtain ⟨r13, S14⟩ := q12
            rw [h11] at hm
            dsimp only at hm
            refine ev_callV (N := mX0_told) (d' := 3) (bc := 0) (bs := 0) (bc' := 0) (bs' := 0) (as := [.ref 84, .int 262]) (rest := []) (a := 20) (ci := 0) (dcd tokX0_can rfl) okX0_told inX0_told seX0_told lk0_86 rfl (by decide) (Nat.le_of_ble_eq_true rfl) rfl ⟨by decide, rfl⟩ (gpX0_told_20_84 x S10 262 _ _ h11) (fun v h' hq hn => ?_)
            obtain ⟨rfl, rfl⟩ := hq
            refine Ev.steps tokX0_can 1 (P := True) (pc' := if ¬ r13 = 0 then 54 else 50) (lv' := [some (.ref 20), some (.ref 84), some (.int p2), some (.int p3)]) (st' := []) (h' := mkS x S14) rfl trivial ?_
            refine Ev.ite (fun c15 => ?_) (fun c15 => ?_)
            · rw [if_pos c15] at hm
              refine Ev.steps tokX0_can 1 (P := True) (pc' := 55) (lv' := [some (.ref 20), some (.ref 84), some (.int p2), some (.int p3)]) (st' := [.int 0]) (h' := mkS x S14) rfl trivial ?_
              refine Ev.fgt (lv' := [none, none, none, none]) trivial ?_
              exact bpX0_can_20_84_55 x S14 0 _ _ hm
            · rw [if_neg c15] at hm
              refine Ev.steps tokX0_can 2 (P := True) (pc' := 55) (lv' := [some (.ref 20), some (.ref 84), some (.int p2), some (.int p3)]) (st' := [.int 1]) (h' := mkS x S14) rfl trivial ?_
              refine Ev.fgt (lv' := [none, none, none, none]) trivial ?_
              exact bpX0_can_20_84_55 x S14 1 _ _ hm
      · rw [if_neg c5] at hm
        refine Ev.fgt (lv' := [none, none, none, none]) trivial ?_
        exact bpX0_can_20_84_24 x S _ _ hm
theorem gpX0_can_20_84 (x : XT) (S : ST) (p2 : Int32) (p3 : Int32) (r : Int32) (S' : ST) (hm : gfX0_can_20_84 x S p2 p3 = some (r, S')) : Ct mX0_can 4 0 0 [.ref 20, .ref 84, .int p2, .int p3] (mkS x S) (fun v h => v = some (.int r) ∧ h = mkS x S') :=
  Ct.of (lv := [some (.ref 20), some (.ref 84), some (.int p2), some (.int p3)]) rfl rfl rfl (show (_ : Nat) ≤ _ from Nat.le_of_ble_eq_true rfl) (fun G => rfl) (bpX0_can_20_84_0 x S p2 p3 r S' hm)
set_option maxHeartbeats 4000000 in
set_option maxRecDepth 20000 in
theorem bpX0_move_20_84_0 (x : XT)  (S : ST) (p2 : Int32) (p3 : Int32) (r : Unit) (S' : ST) (hm : bfX0_move_20_84_0 x  S p2 p3 = some (r, S')) : Ev mX0_move 4 0 0 0 [some (.ref 20), some (.ref 84), some (.int p2), some (.int p3), none, none] [] (mkS x S) (fun v h => v = none ∧ h = mkS x S') := by
    unfold bfX0_move_20_84_0 at hm
    obtain ⟨o1, hm⟩ := oblk hm
    refine Ev.steps tokX0_move 8 (P := vp_in p2 5 ∧ True) (pc' := 10) (lv' := [some (.ref 20), some (.ref 84), some (.int p2), some (.int p3), none, none]) (st' := [.int (S.2.1 91 p2.toNatClampNeg), .int p3, .int p2, .ref 84, .ref 20]) (h' := mkS x S) rfl ⟨inb_ok o1, trivial⟩ ?_
    cases h2 : gfX0_regard_20_84 x S p2 p3 (S.2.1 91 p2.toNatClampNeg) with
    | none => rw [h2] at hm; cases hm
    | some q3 =>
      obtain ⟨r4, S5⟩ := q3
      rw [h2] at hm
      dsimp only at hm
      refine ev_callV (N := mX0_regard) (d' := 2) (bc := 0) (bs := 0) (bc' := 0) (bs' := 0) (as := [.ref 84, .int p2, .int p3, .int (S.2.1 91 p2.toNatClampNeg)]) (rest := []) (a := 20) (ci := 0) (dcd tokX0_move rfl) okX0_regard inX0_regard seX0_regard lk0_83 rfl (by decide) (Nat.le_of_ble_eq_true rfl) rfl ⟨by decide, rfl⟩ (gpX0_regard_20_84 x S p2 p3 (S.2.1 91 p2.toNatClampNeg) _ _ h2) (fun v h' hq hn => ?_)
      obtain ⟨rfl, rfl⟩ := hq
      refine Ev.steps tokX0_move 3 (P := True) (pc' := 18) (lv' := [some (.ref 20), some (.ref 84), some (.int p2), some (.int p3), none, none]) (st' := [.int 260, .ref 84, .ref 20]) (h' := mkS x S5) rfl trivial ?_
      cases h6 : gfX0_told_20_84 x S5 260 with
      | none => rw [h6] at hm; cases hm
      | some q7 =>
        obtain ⟨r8, S9⟩ := q7
        rw [h6] at hm
        dsimp only at hm
        refine ev_callV (N := mX0_told) (d' := 3) (bc := 0) (bs := 0) (bc' := 0) (bs' := 0) (as := [.ref 84, .int 260]) (rest := []) (a := 20) (ci := 0) (dcd tokX0_move rfl) okX0_told inX0_told seX0_told lk0_86 rfl (by decide) (Nat.le_of_ble_eq_true rfl) rfl ⟨by decide, rfl⟩ (gpX0_told_20_84 x S5 260 _ _ h6) (fun v h' hq hn => ?_)
        obtain ⟨rfl, rfl⟩ := hq
        refine Ev.steps tokX0_move 4 (P := True) (pc' := 28) (lv' := [some (.ref 20), some (.ref 84), some (.int p2), some (.int p3), some (.int r8), none]) (st' := [.int 261, .ref 84, .ref 20]) (h' := mkS x S9) rfl trivial ?_
        cases h10 : gfX0_told_20_84 x S9 261 with
        | none => rw [h10] at hm; cases hm
        | some q11 =>
          obtain ⟨r12, S13⟩ := q11
          rw [h10] at hm
          dsimp only at hm
          refine ev_callV (N := mX0_told) (d' := 3) (bc := 0) (bs := 0) (bc' := 0) (bs' := 0) (as := [.ref 84, .int 261]) (rest := []) (a := 20) (ci := 0) (dcd tokX0_move rfl) okX0_told inX0_told seX0_told lk0_86 rfl (by decide) (Nat.le_of_ble_eq_true rfl) rfl ⟨by decide, rfl⟩ (gpX0_told_20_84 x S9 261 _ _ h10) (fun v h' hq hn => ?_)
          obtain ⟨rfl, rfl⟩ := hq
          obtain ⟨o14, hm⟩ := oblk hm
          obtain ⟨o15, hm⟩ := oblk hm
          obtain ⟨o16, hm⟩ := oblk hm
          obtain ⟨o17, hm⟩ := oblk hm
          refine Ev.steps tokX0_move 24 (P := vp_in p3 10 ∧ vp_in p2 5 ∧ vp_in p2 5 ∧ vp_in p2 5 ∧ True) (pc' := 70) (lv' := [some (.ref 20), some (.ref 84), some (.int p2), some (.int p3), some (.int r8), some (.int r12)]) (st' := [.int 9999, .int ((S13.2.1 93 p2.toNatClampNeg) + r12), .int p2, .ref 93]) (h' := mkS x (S13.1, (u2 (u2 S13.2.1 90 p2.toNatClampNeg (S13.2.1 86 p3.toNatClampNeg)) 91 p2.toNatClampNeg r8), S13.2.2.1, S13.2.2.2)) rfl ⟨inb_ok o14, inb_ok o15, inb_ok o16, inb_ok o17, trivial⟩ ?_
          refine ev_min (dcd tokX0_move rfl) lk0_67 mt_min.1 mt_in.1 mt_min.2 (by decide) (Nat.le_of_ble_eq_true rfl) ?_
          obtain ⟨o18, hm⟩ := oblk hm
          refine Ev.steps tokX0_move 1 (P := vp_in p2 5 ∧ True) (pc' := 74) (lv' := [some (.ref 20), some (.ref 84), some (.int p2), some (.int p3), some (.int r8), some (.int r12)]) (st' := []) (h' := mkS x (S13.1, (u2 (u2 (u2 S13.2.1 90 p2.toNatClampNeg (S13.2.1 86 p3.toNatClampNeg)) 91 p2.toNatClampNeg r8) 93 p2.toNatClampNeg (if 9999 < ((S13.2.1 93 p2.toNatClampNeg) + r12) then 9999 else ((S13.2.1 93 p2.toNatClampNeg) + r12))), S13.2.2.1, S13.2.2.2)) rfl ⟨inb_ok o18, trivial⟩ ?_
          cases hm
          exact Ev.retv tokX0_move rfl rfl ⟨rfl, rfl⟩
theorem gpX0_move_20_84 (x : XT) (S : ST) (p2 : Int32) (p3 : Int32) (r : Unit) (S' : ST) (hm : gfX0_move_20_84 x S p2 p3 = some (r, S')) : Ct mX0_move 4 0 0 [.ref 20, .ref 84, .int p2, .int p3] (mkS x S) (fun v h => v = none ∧ h = mkS x S') :=
  Ct.of (lv := [some (.ref 20), some (.ref 84), some (.int p2), some (.int p3), none, none]) rfl rfl rfl (show (_ : Nat) ≤ _ from Nat.le_of_ble_eq_true rfl) (fun G => rfl) (bpX0_move_20_84_0 x S p2 p3 r S' hm)
set_option maxHeartbeats 4000000 in
set_option maxRecDepth 20000 in
theorem bpX7_copyFrom_84_1_252 (x : XT) (k252 : ST → Int32 → Option (Unit × ST)) (hk252 : ∀ (S : ST) (v2 : Int32) (r : Unit) (S' : ST), k252 S v2 = some (r, S') → Ev mX7_copyFrom 1 0 0 252 [some (.ref 84), some (.ref 1), some (.int v2)] [] (mkS x S) (fun v h => v = none ∧ h = mkS x S')) (S : ST) (v2 : Int32) (r : Unit) (S' : ST) (hm : bfX7_copyFrom_84_1_252 x k252 S v2 = some (r, S')) : Ev mX7_copyFrom 1 0 0 252 [some (.ref 84), some (.ref 1), some (.int v2)] [] (mkS x S) (fun v h => v = none ∧ h = mkS x S') := by
    unfold bfX7_copyFrom_84_1_252 at hm
    refine Ev.steps tokX7_copyFrom 3 (P := True) (pc' := if 6 ≤ v2 then 276 else 258) (lv' := [some (.ref 84), some (.ref 1), some (.int v2)]) (st' := []) (h' := mkS x S) rfl trivial ?_
    refine Ev.ite (fun c1 => ?_) (fun c1 => ?_)
    · rw [if_pos c1] at hm
      cases hm
      exact Ev.retv tokX7_copyFrom rfl rfl ⟨rfl, rfl⟩
    · rw [if_neg c1] at hm
      obtain ⟨o2, hm⟩ := oblk hm
      refine Ev.steps tokX7_copyFrom 7 (P := vp_in v2 6 ∧ True) (pc' := 269) (lv' := [some (.ref 84), some (.ref 1), some (.int v2)]) (st' := [va_rf (S.2.2.2 15 v2.toNatClampNeg), .int v2, .ref 98]) (h' := mkS x S) rfl ⟨inb_ok o2, trivial⟩ ?_
      obtain ⟨o3, hm⟩ := oblk hm
      obtain ⟨o4, hm⟩ := oblk hm
      refine ev_aast (kd := 17) (ci := 9) (r := (S.2.2.2 15 v2.toNatClampNeg)) (dcd tokX7_copyFrom rfl) rfl (Or.inr ⟨rfl, rfl⟩) (inb_ok o3) (qk_ok o4) ?_
      refine Ev.steps tokX7_copyFrom 2 (P := True) (pc' := 252) (lv' := [some (.ref 84), some (.ref 1), some (.int (v2 + 1))]) (st' := []) (h' := mkS x (S.1, S.2.1, S.2.2.1, (u2 S.2.2.2 98 v2.toNatClampNeg (S.2.2.2 15 v2.toNatClampNeg)))) rfl trivial ?_
      exact hk252 (S.1, S.2.1, S.2.2.1, (u2 S.2.2.2 98 v2.toNatClampNeg (S.2.2.2 15 v2.toNatClampNeg))) (v2 + 1) _ _ hm
theorem lpX7_copyFrom_84_1_252 (x : XT)  : ∀ (n : Nat) (S : ST) (v2 : Int32) (r : Unit) (S' : ST), lfX7_copyFrom_84_1_252 x  n S v2 = some (r, S') → Ev mX7_copyFrom 1 0 0 252 [some (.ref 84), some (.ref 1), some (.int v2)] [] (mkS x S) (fun v h => v = none ∧ h = mkS x S')
  | 0, _, _, _, _, hm => by cases hm
  | n + 1, S, v2, r, S', hm => bpX7_copyFrom_84_1_252 x (lfX7_copyFrom_84_1_252 x  n) (lpX7_copyFrom_84_1_252 x  n) S v2 r S' hm
set_option maxHeartbeats 4000000 in
set_option maxRecDepth 20000 in
theorem bpX7_copyFrom_84_1_227 (x : XT) (k227 : ST → Int32 → Option (Unit × ST)) (hk227 : ∀ (S : ST) (v2 : Int32) (r : Unit) (S' : ST), k227 S v2 = some (r, S') → Ev mX7_copyFrom 1 0 0 227 [some (.ref 84), some (.ref 1), some (.int v2)] [] (mkS x S) (fun v h => v = none ∧ h = mkS x S')) (S : ST) (v2 : Int32) (r : Unit) (S' : ST) (hm : bfX7_copyFrom_84_1_227 x k227 S v2 = some (r, S')) : Ev mX7_copyFrom 1 0 0 227 [some (.ref 84), some (.ref 1), some (.int v2)] [] (mkS x S) (fun v h => v = none ∧ h = mkS x S') := by
    unfold bfX7_copyFrom_84_1_227 at hm
    refine Ev.steps tokX7_copyFrom 3 (P := True) (pc' := if 3 ≤ v2 then 250 else 232) (lv' := [some (.ref 84), some (.ref 1), some (.int v2)]) (st' := []) (h' := mkS x S) rfl trivial ?_
    refine Ev.ite (fun c1 => ?_) (fun c1 => ?_)
    · rw [if_pos c1] at hm
      refine Ev.steps tokX7_copyFrom 2 (P := True) (pc' := 252) (lv' := [some (.ref 84), some (.ref 1), some (.int 0)]) (st' := []) (h' := mkS x S) rfl trivial ?_
      exact lpX7_copyFrom_84_1_252 x  20000 S 0 _ _ hm
    · rw [if_neg c1] at hm
      obtain ⟨o2, hm⟩ := oblk hm
      obtain ⟨o3, hm⟩ := oblk hm
      refine Ev.steps tokX7_copyFrom 10 (P := vp_in v2 3 ∧ vp_in v2 3 ∧ True) (pc' := 227) (lv' := [some (.ref 84), some (.ref 1), some (.int (v2 + 1))]) (st' := []) (h' := mkS x (S.1, (u2 S.2.1 97 v2.toNatClampNeg (S.2.1 14 v2.toNatClampNeg)), S.2.2.1, S.2.2.2)) rfl ⟨inb_ok o2, inb_ok o3, trivial⟩ ?_
      exact hk227 (S.1, (u2 S.2.1 97 v2.toNatClampNeg (S.2.1 14 v2.toNatClampNeg)), S.2.2.1, S.2.2.2) (v2 + 1) _ _ hm
theorem lpX7_copyFrom_84_1_227 (x : XT)  : ∀ (n : Nat) (S : ST) (v2 : Int32) (r : Unit) (S' : ST), lfX7_copyFrom_84_1_227 x  n S v2 = some (r, S') → Ev mX7_copyFrom 1 0 0 227 [some (.ref 84), some (.ref 1), some (.int v2)] [] (mkS x S) (fun v h => v = none ∧ h = mkS x S')
  | 0, _, _, _, _, hm => by cases hm
  | n + 1, S, v2, r, S', hm => bpX7_copyFrom_84_1_227 x (lfX7_copyFrom_84_1_227 x  n) (lpX7_copyFrom_84_1_227 x  n) S v2 r S' hm
set_option maxHeartbeats 4000000 in
set_option maxRecDepth 20000 in
theorem bpX7_copyFrom_84_1_177 (x : XT) (k177 : ST → Int32 → Option (Unit × ST)) (hk177 : ∀ (S : ST) (v2 : Int32) (r : Unit) (S' : ST), k177 S v2 = some (r, S') → Ev mX7_copyFrom 1 0 0 177 [some (.ref 84), some (.ref 1), some (.int v2)] [] (mkS x S) (fun v h => v = none ∧ h = mkS x S')) (S : ST) (v2 : Int32) (r : Unit) (S' : ST) (hm : bfX7_copyFrom_84_1_177 x k177 S v2 = some (r, S')) : Ev mX7_copyFrom 1 0 0 177 [some (.ref 84), some (.ref 1), some (.int v2)] [] (mkS x S) (fun v h => v = none ∧ h = mkS x S') := by
    unfold bfX7_copyFrom_84_1_177 at hm
    refine Ev.steps tokX7_copyFrom 3 (P := True) (pc' := if 6 ≤ v2 then 225 else 183) (lv' := [some (.ref 84), some (.ref 1), some (.int v2)]) (st' := []) (h' := mkS x S) rfl trivial ?_
    refine Ev.ite (fun c1 => ?_) (fun c1 => ?_)
    · rw [if_pos c1] at hm
      refine Ev.steps tokX7_copyFrom 2 (P := True) (pc' := 227) (lv' := [some (.ref 84), some (.ref 1), some (.int 0)]) (st' := []) (h' := mkS x S) rfl trivial ?_
      exact lpX7_copyFrom_84_1_227 x  20000 S 0 _ _ hm
    · rw [if_neg c1] at hm
      obtain ⟨o2, hm⟩ := oblk hm
      obtain ⟨o3, hm⟩ := oblk hm
      obtain ⟨o4, hm⟩ := oblk hm
      obtain ⟨o5, hm⟩ := oblk hm
      obtain ⟨o6, hm⟩ := oblk hm
      obtain ⟨o7, hm⟩ := oblk hm
      refine Ev.steps tokX7_copyFrom 26 (P := vp_in v2 6 ∧ vp_in v2 6 ∧ vp_in v2 6 ∧ vp_in v2 6 ∧ vp_in v2 6 ∧ vp_in v2 6 ∧ True) (pc' := 177) (lv' := [some (.ref 84), some (.ref 1), some (.int (v2 + 1))]) (st' := []) (h' := mkS x (S.1, (u2 (u2 (u2 S.2.1 94 v2.toNatClampNeg (S.2.1 11 v2.toNatClampNeg)) 95 v2.toNatClampNeg (S.2.1 12 v2.toNatClampNeg)) 96 v2.toNatClampNeg (S.2.1 13 v2.toNatClampNeg)), S.2.2.1, S.2.2.2)) rfl ⟨inb_ok o2, inb_ok o3, inb_ok o4, inb_ok o5, inb_ok o6, inb_ok o7, trivial⟩ ?_
      exact hk177 (S.1, (u2 (u2 (u2 S.2.1 94 v2.toNatClampNeg (S.2.1 11 v2.toNatClampNeg)) 95 v2.toNatClampNeg (S.2.1 12 v2.toNatClampNeg)) 96 v2.toNatClampNeg (S.2.1 13 v2.toNatClampNeg)), S.2.2.1, S.2.2.2) (v2 + 1) _ _ hm
theorem lpX7_copyFrom_84_1_177 (x : XT)  : ∀ (n : Nat) (S : ST) (v2 : Int32) (r : Unit) (S' : ST), lfX7_copyFrom_84_1_177 x  n S v2 = some (r, S') → Ev mX7_copyFrom 1 0 0 177 [some (.ref 84), some (.ref 1), some (.int v2)] [] (mkS x S) (fun v h => v = none ∧ h = mkS x S')
  | 0, _, _, _, _, hm => by cases hm
  | n + 1, S, v2, r, S', hm => bpX7_copyFrom_84_1_177 x (lfX7_copyFrom_84_1_177 x  n) (lpX7_copyFrom_84_1_177 x  n) S v2 r S' hm
set_option maxHeartbeats 4000000 in
set_option maxRecDepth 20000 in
theorem bpX7_copyFrom_84_1_116 (x : XT) (k116 : ST → Int32 → Option (Unit × ST)) (hk116 : ∀ (S : ST) (v2 : Int32) (r : Unit) (S' : ST), k116 S v2 = some (r, S') → Ev mX7_copyFrom 1 0 0 116 [some (.ref 84), some (.ref 1), some (.int v2)] [] (mkS x S) (fun v h => v = none ∧ h = mkS x S')) (S : ST) (v2 : Int32) (r : Unit) (S' : ST) (hm : bfX7_copyFrom_84_1_116 x k116 S v2 = some (r, S')) : Ev mX7_copyFrom 1 0 0 116 [some (.ref 84), some (.ref 1), some (.int v2)] [] (mkS x S) (fun v h => v = none ∧ h = mkS x S') := by
    unfold bfX7_copyFrom_84_1_116 at hm
    refine Ev.steps tokX7_copyFrom 3 (P := True) (pc' := if 5 ≤ v2 then 175 else 121) (lv' := [some (.ref 84), some (.ref 1), some (.int v2)]) (st' := []) (h' := mkS x S) rfl trivial ?_
    refine Ev.ite (fun c1 => ?_) (fun c1 => ?_)
    · rw [if_pos c1] at hm
      refine Ev.steps tokX7_copyFrom 2 (P := True) (pc' := 177) (lv' := [some (.ref 84), some (.ref 1), some (.int 0)]) (st' := []) (h' := mkS x S) rfl trivial ?_
      exact lpX7_copyFrom_84_1_177 x  20000 S 0 _ _ hm
    · rw [if_neg c1] at hm
      obtain ⟨o2, hm⟩ := oblk hm
      obtain ⟨o3, hm⟩ := oblk hm
      obtain ⟨o4, hm⟩ := oblk hm
      obtain ⟨o5, hm⟩ := oblk hm
      obtain ⟨o6, hm⟩ := oblk hm
      obtain ⟨o7, hm⟩ := oblk hm
      obtain ⟨o8, hm⟩ := oblk hm
      obtain ⟨o9, hm⟩ := oblk hm
      refine Ev.steps tokX7_copyFrom 34 (P := vp_in v2 5 ∧ vp_in v2 5 ∧ vp_in v2 5 ∧ vp_in v2 5 ∧ vp_in v2 5 ∧ vp_in v2 5 ∧ vp_in v2 5 ∧ vp_in v2 5 ∧ True) (pc' := 116) (lv' := [some (.ref 84), some (.ref 1), some (.int (v2 + 1))]) (st' := []) (h' := mkS x (S.1, (u2 (u2 (u2 (u2 S.2.1 90 v2.toNatClampNeg (S.2.1 7 v2.toNatClampNeg)) 91 v2.toNatClampNeg (S.2.1 8 v2.toNatClampNeg)) 92 v2.toNatClampNeg (S.2.1 9 v2.toNatClampNeg)) 93 v2.toNatClampNeg (S.2.1 10 v2.toNatClampNeg)), S.2.2.1, S.2.2.2)) rfl ⟨inb_ok o2, inb_ok o3, inb_ok o4, inb_ok o5, inb_ok o6, inb_ok o7, inb_ok o8, inb_ok o9, trivial⟩ ?_
      exact hk116 (S.1, (u2 (u2 (u2 (u2 S.2.1 90 v2.toNatClampNeg (S.2.1 7 v2.toNatClampNeg)) 91 v2.toNatClampNeg (S.2.1 8 v2.toNatClampNeg)) 92 v2.toNatClampNeg (S.2.1 9 v2.toNatClampNeg)) 93 v2.toNatClampNeg (S.2.1 10 v2.toNatClampNeg)), S.2.2.1, S.2.2.2) (v2 + 1) _ _ hm
theorem lpX7_copyFrom_84_1_116 (x : XT)  : ∀ (n : Nat) (S : ST) (v2 : Int32) (r : Unit) (S' : ST), lfX7_copyFrom_84_1_116 x  n S v2 = some (r, S') → Ev mX7_copyFrom 1 0 0 116 [some (.ref 84), some (.ref 1), some (.int v2)] [] (mkS x S) (fun v h => v = none ∧ h = mkS x S')
  | 0, _, _, _, _, hm => by cases hm
  | n + 1, S, v2, r, S', hm => bpX7_copyFrom_84_1_116 x (lfX7_copyFrom_84_1_116 x  n) (lpX7_copyFrom_84_1_116 x  n) S v2 r S' hm
set_option maxHeartbeats 4000000 in
set_option maxRecDepth 20000 in
theorem bpX7_copyFrom_84_1_42 (x : XT) (k42 : ST → Int32 → Option (Unit × ST)) (hk42 : ∀ (S : ST) (v2 : Int32) (r : Unit) (S' : ST), k42 S v2 = some (r, S') → Ev mX7_copyFrom 1 0 0 42 [some (.ref 84), some (.ref 1), some (.int v2)] [] (mkS x S) (fun v h => v = none ∧ h = mkS x S')) (S : ST) (v2 : Int32) (r : Unit) (S' : ST) (hm : bfX7_copyFrom_84_1_42 x k42 S v2 = some (r, S')) : Ev mX7_copyFrom 1 0 0 42 [some (.ref 84), some (.ref 1), some (.int v2)] [] (mkS x S) (fun v h => v = none ∧ h = mkS x S') := by
    unfold bfX7_copyFrom_84_1_42 at hm
    refine Ev.steps tokX7_copyFrom 3 (P := True) (pc' := if 10 ≤ v2 then 114 else 48) (lv' := [some (.ref 84), some (.ref 1), some (.int v2)]) (st' := []) (h' := mkS x S) rfl trivial ?_
    refine Ev.ite (fun c1 => ?_) (fun c1 => ?_)
    · rw [if_pos c1] at hm
      refine Ev.steps tokX7_copyFrom 2 (P := True) (pc' := 116) (lv' := [some (.ref 84), some (.ref 1), some (.int 0)]) (st' := []) (h' := mkS x S) rfl trivial ?_
      exact lpX7_copyFrom_84_1_116 x  20000 S 0 _ _ hm
    · rw [if_neg c1] at hm
      obtain ⟨o2, hm⟩ := oblk hm
      obtain ⟨o3, hm⟩ := oblk hm
      obtain ⟨o4, hm⟩ := oblk hm
      obtain ⟨o5, hm⟩ := oblk hm
      obtain ⟨o6, hm⟩ := oblk hm
      obtain ⟨o7, hm⟩ := oblk hm
      obtain ⟨o8, hm⟩ := oblk hm
      obtain ⟨o9, hm⟩ := oblk hm
      obtain ⟨o10, hm⟩ := oblk hm
      obtain ⟨o11, hm⟩ := oblk hm
      refine Ev.steps tokX7_copyFrom 42 (P := vp_in v2 10 ∧ vp_in v2 10 ∧ vp_in v2 10 ∧ vp_in v2 10 ∧ vp_in v2 10 ∧ vp_in v2 10 ∧ vp_in v2 10 ∧ vp_in v2 10 ∧ vp_in v2 10 ∧ vp_in v2 10 ∧ True) (pc' := 42) (lv' := [some (.ref 84), some (.ref 1), some (.int (v2 + 1))]) (st' := []) (h' := mkS x (S.1, (u2 (u2 (u2 (u2 (u2 S.2.1 85 v2.toNatClampNeg (S.2.1 2 v2.toNatClampNeg)) 86 v2.toNatClampNeg (S.2.1 3 v2.toNatClampNeg)) 87 v2.toNatClampNeg (S.2.1 4 v2.toNatClampNeg)) 88 v2.toNatClampNeg (S.2.1 5 v2.toNatClampNeg)) 89 v2.toNatClampNeg (vp_nar .boolean (S.2.1 6 v2.toNatClampNeg))), S.2.2.1, S.2.2.2)) rfl ⟨inb_ok o2, inb_ok o3, inb_ok o4, inb_ok o5, inb_ok o6, inb_ok o7, inb_ok o8, inb_ok o9, inb_ok o10, inb_ok o11, trivial⟩ ?_
      exact hk42 (S.1, (u2 (u2 (u2 (u2 (u2 S.2.1 85 v2.toNatClampNeg (S.2.1 2 v2.toNatClampNeg)) 86 v2.toNatClampNeg (S.2.1 3 v2.toNatClampNeg)) 87 v2.toNatClampNeg (S.2.1 4 v2.toNatClampNeg)) 88 v2.toNatClampNeg (S.2.1 5 v2.toNatClampNeg)) 89 v2.toNatClampNeg (vp_nar .boolean (S.2.1 6 v2.toNatClampNeg))), S.2.2.1, S.2.2.2) (v2 + 1) _ _ hm
theorem lpX7_copyFrom_84_1_42 (x : XT)  : ∀ (n : Nat) (S : ST) (v2 : Int32) (r : Unit) (S' : ST), lfX7_copyFrom_84_1_42 x  n S v2 = some (r, S') → Ev mX7_copyFrom 1 0 0 42 [some (.ref 84), some (.ref 1), some (.int v2)] [] (mkS x S) (fun v h => v = none ∧ h = mkS x S')
  | 0, _, _, _, _, hm => by cases hm
  | n + 1, S, v2, r, S', hm => bpX7_copyFrom_84_1_42 x (lfX7_copyFrom_84_1_42 x  n) (lpX7_copyFrom_84_1_42 x  n) S v2 r S' hm
set_option maxHeartbeats 4000000 in
set_option maxRecDepth 20000 in
theorem bpX7_copyFrom_84_1_0 (x : XT)  (S : ST)  (r : Unit) (S' : ST) (hm : bfX7_copyFrom_84_1_0 x  S  = some (r, S')) : Ev mX7_copyFrom 1 0 0 0 [some (.ref 84), some (.ref 1), none] [] (mkS x S) (fun v h => v = none ∧ h = mkS x S') := by
    unfold bfX7_copyFrom_84_1_0 at hm
    refine Ev.steps tokX7_copyFrom 22 (P := True) (pc' := 42) (lv' := [some (.ref 84), some (.ref 1), some (.int 0)]) (st' := []) (h' := mkS x ((u2 (u2 (u2 (u2 (u2 S.1 84 0 (S.1 1 0)) 84 6 (S.1 1 6)) 84 11 (S.1 1 11)) 84 16 (S.1 1 16)) 84 18 (S.1 1 18)), S.2.1, S.2.2.1, S.2.2.2)) rfl trivial ?_
    exact lpX7_copyFrom_84_1_42 x  20000 ((u2 (u2 (u2 (u2 (u2 S.1 84 0 (S.1 1 0)) 84 6 (S.1 1 6)) 84 11 (S.1 1 11)) 84 16 (S.1 1 16)) 84 18 (S.1 1 18)), S.2.1, S.2.2.1, S.2.2.2) 0 _ _ hm
theorem gpX7_copyFrom_84_1 (x : XT) (S : ST)  (r : Unit) (S' : ST) (hm : gfX7_copyFrom_84_1 x S  = some (r, S')) : Ct mX7_copyFrom 1 0 0 [.ref 84, .ref 1] (mkS x S) (fun v h => v = none ∧ h = mkS x S') :=
  Ct.of (lv := [some (.ref 84), some (.ref 1), none]) rfl rfl rfl (show (_ : Nat) ≤ _ from Nat.le_of_ble_eq_true rfl) (fun G => rfl) (bpX7_copyFrom_84_1_0 x S  r S' hm)
set_option maxHeartbeats 4000000 in
set_option maxRecDepth 20000 in
theorem bpX2_run_83_1_145 (x : XT)  (S : ST) (v4 : Int32) (r : Int32) (S' : ST) (hm : bfX2_run_83_1_145 x  S v4 = some (r, S')) : Ev mX2_run 5 0 0 145 [none, none, none, none, some (.int v4), none, none, none] [] (mkS x S) (fun v h => v = some (.int r) ∧ h = mkS x S') := by
    unfold bfX2_run_83_1_145 at hm
    refine Ev.steps tokX2_run 1 (P := True) (pc' := 147) (lv' := [none, none, none, none, some (.int v4), none, none, none]) (st' := [.int v4]) (h' := mkS x S) rfl trivial ?_
    cases hm
    exact Ev.reti tokX2_run rfl rfl ⟨rfl, rfl⟩
set_option maxHeartbeats 4000000 in
set_option maxRecDepth 20000 in
theorem bpX2_run_83_1_126 (x : XT) (k19 : ST → Int32 → Int32 → Int32 → Option (Int32 × ST)) (hk19 : ∀ (S : ST) (v3 : Int32) (v4 : Int32) (v5 : Int32) (r : Int32) (S' : ST), k19 S v3 v4 v5 = some (r, S') → Ev mX2_run 5 0 0 19 [some (.ref 83), none, none, some (.int v3), some (.int v4), some (.int v5), none, none] [] (mkS x S) (fun v h => v = some (.int r) ∧ h = mkS x S')) (S : ST) (v3 : Int32) (v4 : Int32) (v5 : Int32) (r : Int32) (S' : ST) (hm : bfX2_run_83_1_126 x k19 S v3 v4 v5 = some (r, S')) : Ev mX2_run 5 0 0 126 [some (.ref 83), none, none, some (.int v3), some (.int v4), some (.int v5), none, none] [] (mkS x S) (fun v h => v = some (.int r) ∧ h = mkS x S') := by
    unfold bfX2_run_83_1_126 at hm
    refine Ev.steps tokX2_run 11 (P := vp_in 0 3 ∧ vp_in 0 3 ∧ True) (pc' := 19) (lv' := [some (.ref 83), none, none, some (.int v3), some (.int v4), some (.int (v5 + 1)), none, none]) (st' := []) (h' := mkS x (S.1, (u2 S.2.1 97 0 ((S.2.1 97 0) + 1)), S.2.2.1, S.2.2.2)) rfl ⟨(by unfold vp_in; decide), (by unfold vp_in; decide), trivial⟩ ?_
    exact hk19 (S.1, (u2 S.2.1 97 0 ((S.2.1 97 0) + 1)), S.2.2.1, S.2.2.2) v3 v4 (v5 + 1) _ _ hm
set_option maxHeartbeats 4000000 in
set_option maxRecDepth 20000 in
theorem bpX2_run_83_1_19 (x : XT) (k19 : ST → Int32 → Int32 → Int32 → Option (Int32 × ST)) (hk19 : ∀ (S : ST) (v3 : Int32) (v4 : Int32) (v5 : Int32) (r : Int32) (S' : ST), k19 S v3 v4 v5 = some (r, S') → Ev mX2_run 5 0 0 19 [some (.ref 83), none, none, some (.int v3), some (.int v4), some (.int v5), none, none] [] (mkS x S) (fun v h => v = some (.int r) ∧ h = mkS x S')) (S : ST) (v3 : Int32) (v4 : Int32) (v5 : Int32) (r : Int32) (S' : ST) (hm : bfX2_run_83_1_19 x k19 S v3 v4 v5 = some (r, S')) : Ev mX2_run 5 0 0 19 [some (.ref 83), none, none, some (.int v3), some (.int v4), some (.int v5), none, none] [] (mkS x S) (fun v h => v = some (.int r) ∧ h = mkS x S') := by
    unfold bfX2_run_83_1_19 at hm
    refine Ev.steps tokX2_run 3 (P := True) (pc' := if v3 ≤ v5 then 145 else 25) (lv' := [some (.ref 83), none, none, some (.int v3), some (.int v4), some (.int v5), none, none]) (st' := []) (h' := mkS x S) rfl trivial ?_
    refine Ev.ite (fun c1 => ?_) (fun c1 => ?_)
    · rw [if_pos c1] at hm
      refine Ev.fgt (lv' := [none, none, none, none, some (.int v4), none, none, none]) ⟨rfl, trivial⟩ ?_
      exact bpX2_run_83_1_145 x S v4 _ _ hm
    · rw [if_neg c1] at hm
      refine Ev.steps tokX2_run 7 (P := vp_in 0 3 ∧ True) (pc' := if 999 ≤ (S.2.1 97 0) then 145 else 40) (lv' := [some (.ref 83), none, none, some (.int v3), some (.int v4), some (.int v5), none, none]) (st' := []) (h' := mkS x S) rfl ⟨(by unfold vp_in; decide), trivial⟩ ?_
      refine Ev.ite (fun c2 => ?_) (fun c2 => ?_)
      · rw [if_pos c2] at hm
        refine Ev.fgt (lv' := [none, none, none, none, some (.int v4), none, none, none]) ⟨rfl, trivial⟩ ?_
        exact bpX2_run_83_1_145 x S v4 _ _ hm
      · rw [if_neg c2] at hm
        refine Ev.steps tokX2_run 4 (P := True) (pc' := 48) (lv' := [some (.ref 83), none, none, some (.int v3), some (.int v4), some (.int v5), none, none]) (st' := [.int (S.1 84 6), .ref 83]) (h' := mkS x S) rfl trivial ?_
        cases h3 : gfX2_draw_83 x S (S.1 84 6) with
        | none => rw [h3] at hm; cases hm
        | some q4 =>
          obtain ⟨r5, S6⟩ := q4
          rw [h3] at hm
          dsimp only at hm
          refine ev_callV (N := mX2_draw) (d' := 1) (bc := 0) (bs := 0) (bc' := 0) (bs' := 0) (as := [.int (S.1 84 6)]) (rest := []) (a := 83) (ci := 2) (dcd tokX2_run rfl) okX2_draw inX2_draw seX2_draw lk2_37 rfl (by decide) (Nat.le_of_ble_eq_true rfl) rfl ⟨by decide, rfl⟩ (gpX2_draw_83 x S (S.1 84 6) _ _ h3) (fun v h' hq hn => ?_)
          obtain ⟨rfl, rfl⟩ := hq
          refine Ev.steps tokX2_run 5 (P := True) (pc' := 61) (lv' := [some (.ref 83), none, none, some (.int v3), some (.int v4), some (.int v5), some (.int r5), none]) (st' := [.int (S6.1 84 0), .ref 83]) (h' := mkS x S6) rfl trivial ?_
          cases h7 : gfX2_draw_83 x S6 (S6.1 84 0) with
          | none => rw [h7] at hm; cases hm
          | some q8 =>
            obtain ⟨r9, S10⟩ := q8
            rw [h7] at hm
            dsimp only at hm
            refine ev_callV (N := mX2_draw) (d' := 1) (bc := 0) (bs := 0) (bc' := 0) (bs' := 0) (as := [.int (S6.1 84 0)]) (rest := []) (a := 83) (ci := 2) (dcd tokX2_run rfl) okX2_draw inX2_draw seX2_draw lk2_37 rfl (by decide) (Nat.le_of_ble_eq_true rfl) rfl ⟨by decide, rfl⟩ (gpX2_draw_83 x S6 (S6.1 84 0) _ _ h7) (fun v h' hq hn => ?_)
            obtain ⟨rfl, rfl⟩ := hq
            refine Ev.steps tokX2_run 4 (P := True) (pc' := 72) (lv' := [some (.ref 83), none, none, some (.int v3), some (.int v4), some (.int v5), some (.int r5), some (.int r9)]) (st' := [.int r5, .ref 84]) (h' := mkS x S10) rfl trivial ?_
            cases h11 : gfX7_hasGoer_84 x S10 r5 with
            | none => rw [h11] at hm; cases hm
            | some q12 =>
              obtain ⟨r13, S14⟩ := q12
              rw [h11] at hm
              dsimp only at hm
              refine ev_callV (N := mX7_hasGoer) (d' := 1) (bc := 0) (bs := 0) (bc' := 0) (bs' := 0) (as := [.int r5]) (rest := []) (a := 84) (ci := 7) (dcd tokX2_run rfl) okX7_hasGoer inX7_hasGoer seX7_hasGoer lk2_44 rfl (by decide) (Nat.le_of_ble_eq_true rfl) rfl ⟨by decide, rfl⟩ (gpX7_hasGoer_84 x S10 r5 _ _ h11) (fun v h' hq hn => ?_)
              obtain ⟨rfl, rfl⟩ := hq
              refine Ev.steps tokX2_run 1 (P := True) (pc' := if r13 = 0 then 126 else 78) (lv' := [some (.ref 83), none, none, some (.int v3), some (.int v4), some (.int v5), some (.int r5), some (.int r9)]) (st' := []) (h' := mkS x S14) rfl trivial ?_
              refine Ev.ite (fun c15 => ?_) (fun c15 => ?_)
              · rw [if_pos c15] at hm
                refine Ev.fgt (lv' := [some (.ref 83), none, none, some (.int v3), some (.int v4), some (.int v5), none, none]) ⟨rfl, rfl, rfl, rfl, trivial⟩ ?_
                exact bpX2_run_83_1_126 x k19 hk19 S14 v3 v4 v5 _ _ hm
              · rw [if_neg c15] at hm
                refine Ev.steps tokX2_run 3 (P := True) (pc' := 84) (lv' := [some (.ref 83), none, none, some (.int v3), some (.int v4), some (.int v5), some (.int r5), some (.int r9)]) (st' := [.int r9, .ref 84]) (h' := mkS x S14) rfl trivial ?_
                cases h16 : gfX7_hasGate_84 x S14 r9 with
                | none => rw [h16] at hm; cases hm
                | some q17 =>
                  obtain ⟨r18, S19⟩ := q17
                  rw [h16] at hm
                  dsimp only at hm
                  refine ev_callV (N := mX7_hasGate) (d' := 1) (bc := 0) (bs := 0) (bc' := 0) (bs' := 0) (as := [.int r9]) (rest := []) (a := 84) (ci := 7) (dcd tokX2_run rfl) okX7_hasGate inX7_hasGate seX7_hasGate lk2_48 rfl (by decide) (Nat.le_of_ble_eq_true rfl) rfl ⟨by decide, rfl⟩ (gpX7_hasGate_84 x S14 r9 _ _ h16) (fun v h' hq hn => ?_)
                  obtain ⟨rfl, rfl⟩ := hq
                  refine Ev.steps tokX2_run 1 (P := True) (pc' := if r18 = 0 then 126 else 90) (lv' := [some (.ref 83), none, none, some (.int v3), some (.int v4), some (.int v5), some (.int r5), some (.int r9)]) (st' := []) (h' := mkS x S19) rfl trivial ?_
                  refine Ev.ite (fun c20 => ?_) (fun c20 => ?_)
                  · rw [if_pos c20] at hm
                    refine Ev.fgt (lv' := [some (.ref 83), none, none, some (.int v3), some (.int v4), some (.int v5), none, none]) ⟨rfl, rfl, rfl, rfl, trivial⟩ ?_
                    exact bpX2_run_83_1_126 x k19 hk19 S19 v3 v4 v5 _ _ hm
                  · rw [if_neg c20] at hm
                    refine Ev.steps tokX2_run 6 (P := True) (pc' := 102) (lv' := [some (.ref 83), none, none, some (.int v3), some (.int v4), some (.int v5), some (.int r5), some (.int r9)]) (st' := [.int r9, .int r5, .ref 84, .ref 20]) (h' := mkS x S19) rfl trivial ?_
                    cases h21 : gfX0_can_20_84 x S19 r5 r9 with
                    | none => rw [h21] at hm; cases hm
                    | some q22 =>
                      obtain ⟨r23, S24⟩ := q22
                      rw [h21] at hm
                      dsimp only at hm
                      refine ev_callV (N := mX0_can) (d' := 4) (bc := 0) (bs := 0) (bc' := 0) (bs' := 0) (as := [.ref 84, .int r5, .int r9]) (rest := []) (a := 20) (ci := 0) (dcd tokX2_run rfl) okX0_can inX0_can seX0_can lk2_51 rfl (by decide) (Nat.le_of_ble_eq_true rfl) rfl ⟨by decide, rfl⟩ (gpX0_can_20_84 x S19 r5 r9 _ _ h21) (fun v h' hq hn => ?_)
                      obtain ⟨rfl, rfl⟩ := hq
                      refine Ev.steps tokX2_run 1 (P := True) (pc' := if r23 = 0 then 126 else 108) (lv' := [some (.ref 83), none, none, some (.int v3), some (.int v4), some (.int v5), some (.int r5), some (.int r9)]) (st' := []) (h' := mkS x S24) rfl trivial ?_
                      refine Ev.ite (fun c25 => ?_) (fun c25 => ?_)
                      · rw [if_pos c25] at hm
                        refine Ev.fgt (lv' := [some (.ref 83), none, none, some (.int v3), some (.int v4), some (.int v5), none, none]) ⟨rfl, rfl, rfl, rfl, trivial⟩ ?_
                        exact bpX2_run_83_1_126 x k19 hk19 S24 v3 v4 v5 _ _ hm
                      · rw [if_neg c25] at hm
                        refine Ev.steps tokX2_run 6 (P := True) (pc' := 120) (lv' := [some (.ref 83), none, none, some (.int v3), some (.int v4), some (.int v5), some (.int r5), some (.int r9)]) (st' := [.int r9, .int r5, .ref 84, .ref 20]) (h' := mkS x S24) rfl trivial ?_
                        cases h26 : gfX0_move_20_84 x S24 r5 r9 with
                        | none => rw [h26] at hm; cases hm
                        | some q27 =>
                          obtain ⟨r28, S29⟩ := q27
                          rw [h26] at hm
                          dsimp only at hm
                          refine ev_callV (N := mX0_move) (d' := 4) (bc := 0) (bs := 0) (bc' := 0) (bs' := 0) (as := [.ref 84, .int r5, .int r9]) (rest := []) (a := 20) (ci := 0) (dcd tokX2_run rfl) okX0_move inX0_move seX0_move lk2_57 rfl (by decide) (Nat.le_of_ble_eq_true rfl) rfl ⟨by decide, rfl⟩ (gpX0_move_20_84 x S24 r5 r9 _ _ h26) (fun v h' hq hn => ?_)
                          obtain ⟨rfl, rfl⟩ := hq
                          refine Ev.steps tokX2_run 1 (P := True) (pc' := 126) (lv' := [some (.ref 83), none, none, some (.int v3), some (.int (v4 + 1)), some (.int v5), some (.int r5), some (.int r9)]) (st' := []) (h' := mkS x S29) rfl trivial ?_
                          refine Ev.fgt (lv' := [some (.ref 83), none, none, some (.int v3), some (.int (v4 + 1)), some (.int v5), none, none]) ⟨rfl, rfl, rfl, rfl, trivial⟩ ?_
                          exact bpX2_run_83_1_126 x k19 hk19 S29 v3 (v4 + 1) v5 _ _ hm
theorem lpX2_run_83_1_19 (x : XT)  : ∀ (n : Nat) (S : ST) (v3 : Int32) (v4 : Int32) (v5 : Int32) (r : Int32) (S' : ST), lfX2_run_83_1_19 x  n S v3 v4 v5 = some (r, S') → Ev mX2_run 5 0 0 19 [some (.ref 83), none, none, some (.int v3), some (.int v4), some (.int v5), none, none] [] (mkS x S) (fun v h => v = some (.int r) ∧ h = mkS x S')
  | 0, _, _, _, _, _, _, hm => by cases hm
  | n + 1, S, v3, v4, v5, r, S', hm => bpX2_run_83_1_19 x (lfX2_run_83_1_19 x  n) (lpX2_run_83_1_19 x  n) S v3 v4 v5 r S' hm
set_option maxHeartbeats 4000000 in
set_option maxRecDepth 20000 in
theorem bpX2_run_83_1_0 (x : XT)  (S : ST) (p2 : Int32) (p3 : Int32) (r : Int32) (S' : ST) (hm : bfX2_run_83_1_0 x  S p2 p3 = some (r, S')) : Ev mX2_run 5 0 0 0 [some (.ref 83), some (.ref 1), some (.int p2), some (.int p3), none, none, none, none] [] (mkS x S) (fun v h => v = some (.int r) ∧ h = mkS x S') := by
    unfold bfX2_run_83_1_0 at hm
    refine Ev.steps tokX2_run 3 (P := True) (pc' := 5) (lv' := [some (.ref 83), some (.ref 1), some (.int p2), some (.int p3), none, none, none, none]) (st' := [.ref 1, .ref 84]) (h' := mkS x S) rfl trivial ?_
    cases h1 : gfX7_copyFrom_84_1 x S with
    | none => rw [h1] at hm; cases hm
    | some q2 =>
      obtain ⟨r3, S4⟩ := q2
      rw [h1] at hm
      dsimp only at hm
      refine ev_callV (N := mX7_copyFrom) (d' := 1) (bc := 0) (bs := 0) (bc' := 0) (bs' := 0) (as := [.ref 1]) (rest := []) (a := 84) (ci := 7) (dcd tokX2_run rfl) okX7_copyFrom inX7_copyFrom seX7_copyFrom lk2_26 rfl (by decide) (Nat.le_of_ble_eq_true rfl) rfl ⟨by decide, rfl⟩ (gpX7_copyFrom_84_1 x S _ _ h1) (fun v h' hq hn => ?_)
      obtain ⟨rfl, rfl⟩ := hq
      refine Ev.steps tokX2_run 7 (P := True) (pc' := 19) (lv' := [some (.ref 83), some (.ref 1), some (.int p2), some (.int p3), some (.int 0), some (.int 0), none, none]) (st' := []) (h' := mkS x ((u2 S4.1 83 2 p2), S4.2.1, S4.2.2.1, S4.2.2.2)) rfl trivial ?_
      refine Ev.fgt (lv' := [some (.ref 83), none, none, some (.int p3), some (.int 0), some (.int 0), none, none]) ⟨rfl, rfl, rfl, rfl, trivial⟩ ?_
      exact lpX2_run_83_1_19 x  20000 ((u2 S4.1 83 2 p2), S4.2.1, S4.2.2.1, S4.2.2.2) p3 0 0 _ _ hm
theorem gpX2_run_83_1 (x : XT) (S : ST) (p2 : Int32) (p3 : Int32) (r : Int32) (S' : ST) (hm : gfX2_run_83_1 x S p2 p3 = some (r, S')) : Ct mX2_run 5 0 0 [.ref 83, .ref 1, .int p2, .int p3] (mkS x S) (fun v h => v = some (.int r) ∧ h = mkS x S') :=
  Ct.of (lv := [some (.ref 83), some (.ref 1), some (.int p2), some (.int p3), none, none, none, none]) rfl rfl rfl (show (_ : Nat) ≤ _ from Nat.le_of_ble_eq_true rfl) (fun G => rfl) (bpX2_run_83_1_0 x S p2 p3 r S' hm)
set_option maxHeartbeats 4000000 in
set_option maxRecDepth 20000 in
theorem bpX10_days_0_21 (x : XT)  (S : ST)  (r : Int32) (S' : ST) (hm : bfX10_days_0_21 x  S  = some (r, S')) : Ev mX10_days 6 0 0 21 [some (.ref 0), none, none] [] (mkS x S) (fun v h => v = some (.int r) ∧ h = mkS x S') := by
    unfold bfX10_days_0_21 at hm
    refine Ev.steps tokX10_days 2 (P := True) (pc' := 23) (lv' := [some (.ref 0), none, none]) (st' := [.int (-1), .ref 0]) (h' := mkS x S) rfl trivial ?_
    cases h1 : gfX10_told_0 x S (-1) with
    | none => rw [h1] at hm; cases hm
    | some q2 =>
      obtain ⟨r3, S4⟩ := q2
      rw [h1] at hm
      dsimp only at hm
      refine ev_callV (N := mX10_told) (d' := 1) (bc := 0) (bs := 0) (bc' := 0) (bs' := 0) (as := [.int (-1)]) (rest := []) (a := 0) (ci := 10) (dcd tokX10_days rfl) okX10_told inX10_told seX10_told lk10_178 rfl (by decide) (Nat.le_of_ble_eq_true rfl) rfl ⟨by decide, rfl⟩ (gpX10_told_0 x S (-1) _ _ h1) (fun v h' hq hn => ?_)
      obtain ⟨rfl, rfl⟩ := hq
      cases hm
      exact Ev.reti tokX10_days rfl rfl ⟨rfl, rfl⟩
set_option maxHeartbeats 4000000 in
set_option maxRecDepth 20000 in
theorem bpX10_days_0_47 (x : XT)  (S : ST)  (r : Int32) (S' : ST) (hm : bfX10_days_0_47 x  S  = some (r, S')) : Ev mX10_days 6 0 0 47 [some (.ref 0), none, none] [] (mkS x S) (fun v h => v = some (.int r) ∧ h = mkS x S') := by
    unfold bfX10_days_0_47 at hm
    refine Ev.steps tokX10_days 2 (P := True) (pc' := 50) (lv' := [some (.ref 0), none, none]) (st' := [.int (-3), .ref 0]) (h' := mkS x S) rfl trivial ?_
    cases h1 : gfX10_told_0 x S (-3) with
    | none => rw [h1] at hm; cases hm
    | some q2 =>
      obtain ⟨r3, S4⟩ := q2
      rw [h1] at hm
      dsimp only at hm
      refine ev_callV (N := mX10_told) (d' := 1) (bc := 0) (bs := 0) (bc' := 0) (bs' := 0) (as := [.int (-3)]) (rest := []) (a := 0) (ci := 10) (dcd tokX10_days rfl) okX10_told inX10_told seX10_told lk10_178 rfl (by decide) (Nat.le_of_ble_eq_true rfl) rfl ⟨by decide, rfl⟩ (gpX10_told_0 x S (-3) _ _ h1) (fun v h' hq hn => ?_)
      obtain ⟨rfl, rfl⟩ := hq
      cases hm
      exact Ev.reti tokX10_days rfl rfl ⟨rfl, rfl⟩
set_option maxHeartbeats 4000000 in
set_option maxRecDepth 20000 in
theorem bpX10_days_0_0 (x : XT)  (S : ST) (p1 : Int32) (p2 : Int32) (r : Int32) (S' : ST) (hm : bfX10_days_0_0 x  S p1 p2 = some (r, S')) : Ev mX10_days 6 0 0 0 [some (.ref 0), some (.int p1), some (.int p2)] [] (mkS x S) (fun v h => v = some (.int r) ∧ h = mkS x S') := by
    unfold bfX10_days_0_0 at hm
    refine Ev.steps tokX10_days 2 (P := True) (pc' := 4) (lv' := [some (.ref 0), some (.int p1), some (.int p2)]) (st' := [.int 1000001, .int p1]) (h' := mkS x S) rfl trivial ?_
    cases h1 : gfX10_within x S p1 1000001 with
    | none => rw [h1] at hm; cases hm
    | some q2 =>
      obtain ⟨r3, S4⟩ := q2
      rw [h1] at hm
      dsimp only at hm
      refine ev_callS (N := mX10_within) (d' := 1) (bc := 0) (bs := 0) (bc' := 0) (bs' := 0) (as := [.int p1, .int 1000001]) (rest := []) (dcd tokX10_days rfl) okX10_within inX10_within lk10_153 rfl (by decide) (Nat.le_of_ble_eq_true rfl) (gpX10_within x S p1 1000001 _ _ h1) (fun v h' hq hn => ?_)
      obtain ⟨rfl, rfl⟩ := hq
      refine Ev.steps tokX10_days 1 (P := True) (pc' := if r3 = 0 then 21 else 10) (lv' := [some (.ref 0), some (.int p1), some (.int p2)]) (st' := []) (h' := mkS x S4) rfl trivial ?_
      refine Ev.ite (fun c5 => ?_) (fun c5 => ?_)
      · rw [if_pos c5] at hm
        refine Ev.fgt (lv' := [some (.ref 0), none, none]) ⟨rfl, trivial⟩ ?_
        exact bpX10_days_0_21 x S4 _ _ hm
      · rw [if_neg c5] at hm
        refine Ev.steps tokX10_days 3 (P := True) (pc' := if p2 < 1 then 21 else 15) (lv' := [some (.ref 0), some (.int p1), some (.int p2)]) (st' := []) (h' := mkS x S4) rfl trivial ?_
        refine Ev.ite (fun c6 => ?_) (fun c6 => ?_)
        · rw [if_pos c6] at hm
          refine Ev.fgt (lv' := [some (.ref 0), none, none]) ⟨rfl, trivial⟩ ?_
          exact bpX10_days_0_21 x S4 _ _ hm
        · rw [if_neg c6] at hm
          refine Ev.steps tokX10_days 3 (P := True) (pc' := if p2 ≤ 60 then 27 else 21) (lv' := [some (.ref 0), some (.int p1), some (.int p2)]) (st' := []) (h' := mkS x S4) rfl trivial ?_
          refine Ev.ite (fun c7 => ?_) (fun c7 => ?_)
          · rw [if_pos c7] at hm
            refine Ev.steps tokX10_days 4 (P := True) (pc' := if (S4.1 1 6) = 0 then 47 else 37) (lv' := [some (.ref 0), some (.int p1), some (.int p2)]) (st' := []) (h' := mkS x S4) rfl trivial ?_
            refine Ev.ite (fun c8 => ?_) (fun c8 => ?_)
            · rw [if_pos c8] at hm
              refine Ev.fgt (lv' := [some (.ref 0), none, none]) ⟨rfl, trivial⟩ ?_
              exact bpX10_days_0_47 x S4 _ _ hm
            · rw [if_neg c8] at hm
              refine Ev.steps tokX10_days 4 (P := True) (pc' := if ¬ (S4.1 1 0) = 0 then 54 else 47) (lv' := [some (.ref 0), some (.int p1), some (.int p2)]) (st' := []) (h' := mkS x S4) rfl trivial ?_
              refine Ev.ite (fun c9 => ?_) (fun c9 => ?_)
              · rw [if_pos c9] at hm
                refine Ev.steps tokX10_days 7 (P := True) (pc' := 65) (lv' := [some (.ref 0), some (.int p1), some (.int p2)]) (st' := [.int p2, .int p1, .ref 1, .ref 83, .ref 0]) (h' := mkS x S4) rfl trivial ?_
                cases h10 : gfX2_run_83_1 x S4 p1 p2 with
                | none => rw [h10] at hm; cases hm
                | some q11 =>
                  obtain ⟨r12, S13⟩ := q11
                  rw [h10] at hm
                  dsimp only at hm
                  refine ev_callV (N := mX2_run) (d' := 5) (bc := 0) (bs := 0) (bc' := 0) (bs' := 0) (as := [.ref 1, .int p1, .int p2]) (rest := [.ref 0]) (a := 83) (ci := 2) (dcd tokX10_days rfl) okX2_run inX2_run seX2_run lk10_332 rfl (by decide) (Nat.le_of_ble_eq_true rfl) rfl ⟨by decide, rfl⟩ (gpX2_run_83_1 x S4 p1 p2 _ _ h10) (fun v h' hq hn => ?_)
                  obtain ⟨rfl, rfl⟩ := hq
                  cases h14 : gfX10_told_0 x S13 r12 with
                  | none => rw [h14] at hm; cases hm
                  | some q15 =>
                    obtain ⟨r16, S17⟩ := q15
                    rw [h14] at hm
                    dsimp only at hm
                    refine ev_callV (N := mX10_told) (d' := 1) (bc := 0) (bs := 0) (bc' := 0) (bs' := 0) (as := [.int r12]) (rest := []) (a := 0) (ci := 10) (dcd tokX10_days rfl) okX10_told inX10_told seX10_told lk10_178 rfl (by decide) (Nat.le_of_ble_eq_true rfl) rfl ⟨by decide, rfl⟩ (gpX10_told_0 x S13 r12 _ _ h14) (fun v h' hq hn => ?_)
                    obtain ⟨rfl, rfl⟩ := hq
                    cases hm
                    exact Ev.reti tokX10_days rfl rfl ⟨rfl, rfl⟩
              · rw [if_neg c9] at hm
                refine Ev.fgt (lv' := [some (.ref 0), none, none]) ⟨rfl, trivial⟩ ?_
                exact bpX10_days_0_47 x S4 _ _ hm
          · rw [if_neg c7] at hm
            refine Ev.fgt (lv' := [some (.ref 0), none, none]) ⟨rfl, trivial⟩ ?_
            exact bpX10_days_0_21 x S4 _ _ hm
theorem gpX10_days_0 (x : XT) (S : ST) (p1 : Int32) (p2 : Int32) (r : Int32) (S' : ST) (hm : gfX10_days_0 x S p1 p2 = some (r, S')) : Ct mX10_days 6 0 0 [.ref 0, .int p1, .int p2] (mkS x S) (fun v h => v = some (.int r) ∧ h = mkS x S') :=
  Ct.of (lv := [some (.ref 0), some (.int p1), some (.int p2)]) rfl rfl rfl (show (_ : Nat) ≤ _ from Nat.le_of_ble_eq_true rfl) (fun G => rfl) (bpX10_days_0_0 x S p1 p2 r S' hm)
set_option maxHeartbeats 4000000 in
set_option maxRecDepth 20000 in
theorem bpX2_behind_83_0 (x : XT)  (S : ST) (p1 : Int32) (p2 : Int32) (r : Int32) (S' : ST) (hm : bfX2_behind_83_0 x  S p1 p2 = some (r, S')) : Ev mX2_behind 2 0 0 0 [some (.ref 83), some (.int p1), some (.int p2)] [] (mkS x S) (fun v h => v = some (.int r) ∧ h = mkS x S') := by
    unfold bfX2_behind_83_0 at hm
    refine Ev.steps tokX2_behind 3 (P := True) (pc' := 5) (lv' := [some (.ref 83), some (.int p1), some (.int p2)]) (st' := [.int p1, .ref 84]) (h' := mkS x S) rfl trivial ?_
    cases h1 : gfX7_hasGoer_84 x S p1 with
    | none => rw [h1] at hm; cases hm
    | some q2 =>
      obtain ⟨r3, S4⟩ := q2
      rw [h1] at hm
      dsimp only at hm
      refine ev_callV (N := mX7_hasGoer) (d' := 1) (bc := 0) (bs := 0) (bc' := 0) (bs' := 0) (as := [.int p1]) (rest := []) (a := 84) (ci := 7) (dcd tokX2_behind rfl) okX7_hasGoer inX7_hasGoer seX7_hasGoer lk2_44 rfl (by decide) (Nat.le_of_ble_eq_true rfl) rfl ⟨by decide, rfl⟩ (gpX7_hasGoer_84 x S p1 _ _ h1) (fun v h' hq hn => ?_)
      obtain ⟨rfl, rfl⟩ := hq
      refine Ev.steps tokX2_behind 1 (P := True) (pc' := if ¬ r3 = 0 then 13 else 11) (lv' := [some (.ref 83), some (.int p1), some (.int p2)]) (st' := []) (h' := mkS x S4) rfl trivial ?_
      refine Ev.ite (fun c5 => ?_) (fun c5 => ?_)
      · rw [if_pos c5] at hm
        refine Ev.steps tokX2_behind 1 (P := True) (pc' := 14) (lv' := [some (.ref 83), some (.int p1), some (.int p2)]) (st' := [.int p2]) (h' := mkS x S4) rfl trivial ?_
        by_cases c6 : p2 = 0
        · rw [if_pos c6] at hm
          refine ev_tIn (off := 26) (t := 40) (dcd tokX2_behind rfl) (by rw [c6]; decide) (by rw [c6]; decide) (by rw [c6]; rfl) rfl ?_
          obtain ⟨o7, hm⟩ := oblk hm
          refine Ev.steps tokX2_behind 5 (P := vp_in p1 5 ∧ True) (pc' := 49) (lv' := [some (.ref 83), some (.int p1), some (.int p2)]) (st' := [.int (S4.2.1 90 p1.toNatClampNeg)]) (h' := mkS x S4) rfl ⟨inb_ok o7, trivial⟩ ?_
          cases hm
          exact Ev.reti tokX2_behind rfl rfl ⟨rfl, rfl⟩
        rw [if_neg c6] at hm
        by_cases c8 : p2 = 1
        · rw [if_pos c8] at hm
          refine ev_tIn (off := 36) (t := 50) (dcd tokX2_behind rfl) (by rw [c8]; decide) (by rw [c8]; decide) (by rw [c8]; rfl) rfl ?_
          obtain ⟨o9, hm⟩ := oblk hm
          refine Ev.steps tokX2_behind 5 (P := vp_in p1 5 ∧ True) (pc' := 59) (lv' := [some (.ref 83), some (.int p1), some (.int p2)]) (st' := [.int (S4.2.1 91 p1.toNatClampNeg)]) (h' := mkS x S4) rfl ⟨inb_ok o9, trivial⟩ ?_
          cases hm
          exact Ev.reti tokX2_behind rfl rfl ⟨rfl, rfl⟩
        rw [if_neg c8] at hm
        by_cases c10 : p2 = 2
        · rw [if_pos c10] at hm
          refine ev_tIn (off := 46) (t := 60) (dcd tokX2_behind rfl) (by rw [c10]; decide) (by rw [c10]; decide) (by rw [c10]; rfl) rfl ?_
          obtain ⟨o11, hm⟩ := oblk hm
          refine Ev.steps tokX2_behind 5 (P := vp_in p1 5 ∧ True) (pc' := 69) (lv' := [some (.ref 83), some (.int p1), some (.int p2)]) (st' := [.int (S4.2.1 93 p1.toNatClampNeg)]) (h' := mkS x S4) rfl ⟨inb_ok o11, trivial⟩ ?_
          cases hm
          exact Ev.reti tokX2_behind rfl rfl ⟨rfl, rfl⟩
        rw [if_neg c10] at hm
        refine ev_tOut (t := 70) (dcd tokX2_behind rfl) (by have zc6 := lv_neT c6 (show (0 : Int32).toInt = 0 from by decide); have zc8 := lv_neT c8 (show (1 : Int32).toInt = 1 from by decide); have zc10 := lv_neT c10 (show (2 : Int32).toInt = 2 from by decide); omega) rfl ?_
        refine Ev.steps tokX2_behind 1 (P := True) (pc' := 71) (lv' := [some (.ref 83), some (.int p1), some (.int p2)]) (st' := [.int (-1)]) (h' := mkS x S4) rfl trivial ?_
        cases hm
        exact Ev.reti tokX2_behind rfl rfl ⟨rfl, rfl⟩
      · rw [if_neg c5] at hm
        refine Ev.steps tokX2_behind 1 (P := True) (pc' := 12) (lv' := [some (.ref 83), some (.int p1), some (.int p2)]) (st' := [.int (-1)]) (h' := mkS x S4) rfl trivial ?_
        cases hm
        exact Ev.reti tokX2_behind rfl rfl ⟨rfl, rfl⟩
theorem gpX2_behind_83 (x : XT) (S : ST) (p1 : Int32) (p2 : Int32) (r : Int32) (S' : ST) (hm : gfX2_behind_83 x S p1 p2 = some (r, S')) : Ct mX2_behind 2 0 0 [.ref 83, .int p1, .int p2] (mkS x S) (fun v h => v = some (.int r) ∧ h = mkS x S') :=
  Ct.of (lv := [some (.ref 83), some (.int p1), some (.int p2)]) rfl rfl rfl (show (_ : Nat) ≤ _ from Nat.le_of_ble_eq_true rfl) (fun G => rfl) (bpX2_behind_83_0 x S p1 p2 r S' hm)
set_option maxHeartbeats 4000000 in
set_option maxRecDepth 20000 in
theorem bpX10_drawn_0_0 (x : XT)  (S : ST) (p1 : Int32) (p2 : Int32) (r : Int32) (S' : ST) (hm : bfX10_drawn_0_0 x  S p1 p2 = some (r, S')) : Ev mX10_drawn 3 0 0 0 [some (.ref 0), some (.int p1), some (.int p2)] [] (mkS x S) (fun v h => v = some (.int r) ∧ h = mkS x S') := by
    unfold bfX10_drawn_0_0 at hm
    refine Ev.steps tokX10_drawn 4 (P := True) (pc' := 6) (lv' := [some (.ref 0), some (.int p1), some (.int p2)]) (st' := [.int p2, .int p1, .ref 83]) (h' := mkS x S) rfl trivial ?_
    cases h1 : gfX2_behind_83 x S p1 p2 with
    | none => rw [h1] at hm; cases hm
    | some q2 =>
      obtain ⟨r3, S4⟩ := q2
      rw [h1] at hm
      dsimp only at hm
      refine ev_callV (N := mX2_behind) (d' := 2) (bc := 0) (bs := 0) (bc' := 0) (bs' := 0) (as := [.int p1, .int p2]) (rest := []) (a := 83) (ci := 2) (dcd tokX10_drawn rfl) okX2_behind inX2_behind seX2_behind lk10_335 rfl (by decide) (Nat.le_of_ble_eq_true rfl) rfl ⟨by decide, rfl⟩ (gpX2_behind_83 x S p1 p2 _ _ h1) (fun v h' hq hn => ?_)
      obtain ⟨rfl, rfl⟩ := hq
      cases hm
      exact Ev.reti tokX10_drawn rfl rfl ⟨rfl, rfl⟩
theorem gpX10_drawn_0 (x : XT) (S : ST) (p1 : Int32) (p2 : Int32) (r : Int32) (S' : ST) (hm : gfX10_drawn_0 x S p1 p2 = some (r, S')) : Ct mX10_drawn 3 0 0 [.ref 0, .int p1, .int p2] (mkS x S) (fun v h => v = some (.int r) ∧ h = mkS x S') :=
  Ct.of (lv := [some (.ref 0), some (.int p1), some (.int p2)]) rfl rfl rfl (show (_ : Nat) ≤ _ from Nat.le_of_ble_eq_true rfl) (fun G => rfl) (bpX10_drawn_0_0 x S p1 p2 r S' hm)
set_option maxHeartbeats 4000000 in
set_option maxRecDepth 20000 in
theorem bpX7_copyFrom_100_1_252 (x : XT) (k252 : ST → Int32 → Option (Unit × ST)) (hk252 : ∀ (S : ST) (v2 : Int32) (r : Unit) (S' : ST), k252 S v2 = some (r, S') → Ev mX7_copyFrom 1 0 0 252 [some (.ref 100), some (.ref 1), some (.int v2)] [] (mkS x S) (fun v h => v = none ∧ h = mkS x S')) (S : ST) (v2 : Int32) (r : Unit) (S' : ST) (hm : bfX7_copyFrom_100_1_252 x k252 S v2 = some (r, S')) : Ev mX7_copyFrom 1 0 0 252 [some (.ref 100), some (.ref 1), some (.int v2)] [] (mkS x S) (fun v h => v = none ∧ h = mkS x S') := by
    unfold bfX7_copyFrom_100_1_252 at hm
    refine Ev.steps tokX7_copyFrom 3 (P := True) (pc' := if 6 ≤ v2 then 276 else 258) (lv' := [some (.ref 100), some (.ref 1), some (.int v2)]) (st' := []) (h' := mkS x S) rfl trivial ?_
    refine Ev.ite (fun c1 => ?_) (fun c1 => ?_)
    · rw [if_pos c1] at hm
      cases hm
      exact Ev.retv tokX7_copyFrom rfl rfl ⟨rfl, rfl⟩
    · rw [if_neg c1] at hm
      obtain ⟨o2, hm⟩ := oblk hm
      refine Ev.steps tokX7_copyFrom 7 (P := vp_in v2 6 ∧ True) (pc' := 269) (lv' := [some (.ref 100), some (.ref 1), some (.int v2)]) (st' := [va_rf (S.2.2.2 15 v2.toNatClampNeg), .int v2, .ref 114]) (h' := mkS x S) rfl ⟨inb_ok o2, trivial⟩ ?_
      obtain ⟨o3, hm⟩ := oblk hm
      obtain ⟨o4, hm⟩ := oblk hm
      refine ev_aast (kd := 17) (ci := 9) (r := (S.2.2.2 15 v2.toNatClampNeg)) (dcd tokX7_copyFrom rfl) rfl (Or.inr ⟨rfl, rfl⟩) (inb_ok o3) (qk_ok o4) ?_
      refine Ev.steps tokX7_copyFrom 2 (P := True) (pc' := 252) (lv' := [some (.ref 100), some (.ref 1), some (.int (v2 + 1))]) (st' := []) (h' := mkS x (S.1, S.2.1, S.2.2.1, (u2 S.2.2.2 114 v2.toNatClampNeg (S.2.2.2 15 v2.toNatClampNeg)))) rfl trivial ?_
      exact hk252 (S.1, S.2.1, S.2.2.1, (u2 S.2.2.2 114 v2.toNatClampNeg (S.2.2.2 15 v2.toNatClampNeg))) (v2 + 1) _ _ hm
theorem lpX7_copyFrom_100_1_252 (x : XT)  : ∀ (n : Nat) (S : ST) (v2 : Int32) (r : Unit) (S' : ST), lfX7_copyFrom_100_1_252 x  n S v2 = some (r, S') → Ev mX7_copyFrom 1 0 0 252 [some (.ref 100), some (.ref 1), some (.int v2)] [] (mkS x S) (fun v h => v = none ∧ h = mkS x S')
  | 0, _, _, _, _, hm => by cases hm
  | n + 1, S, v2, r, S', hm => bpX7_copyFrom_100_1_252 x (lfX7_copyFrom_100_1_252 x  n) (lpX7_copyFrom_100_1_252 x  n) S v2 r S' hm
set_option maxHeartbeats 4000000 in
set_option maxRecDepth 20000 in
theorem bpX7_copyFrom_100_1_227 (x : XT) (k227 : ST → Int32 → Option (Unit × ST)) (hk227 : ∀ (S : ST) (v2 : Int32) (r : Unit) (S' : ST), k227 S v2 = some (r, S') → Ev mX7_copyFrom 1 0 0 227 [some (.ref 100), some (.ref 1), some (.int v2)] [] (mkS x S) (fun v h => v = none ∧ h = mkS x S')) (S : ST) (v2 : Int32) (r : Unit) (S' : ST) (hm : bfX7_copyFrom_100_1_227 x k227 S v2 = some (r, S')) : Ev mX7_copyFrom 1 0 0 227 [some (.ref 100), some (.ref 1), some (.int v2)] [] (mkS x S) (fun v h => v = none ∧ h = mkS x S') := by
    unfold bfX7_copyFrom_100_1_227 at hm
    refine Ev.steps tokX7_copyFrom 3 (P := True) (pc' := if 3 ≤ v2 then 250 else 232) (lv' := [some (.ref 100), some (.ref 1), some (.int v2)]) (st' := []) (h' := mkS x S) rfl trivial ?_
    refine Ev.ite (fun c1 => ?_) (fun c1 => ?_)
    · rw [if_pos c1] at hm
      refine Ev.steps tokX7_copyFrom 2 (P := True) (pc' := 252) (lv' := [some (.ref 100), some (.ref 1), some (.int 0)]) (st' := []) (h' := mkS x S) rfl trivial ?_
      exact lpX7_copyFrom_100_1_252 x  20000 S 0 _ _ hm
    · rw [if_neg c1] at hm
      obtain ⟨o2, hm⟩ := oblk hm
      obtain ⟨o3, hm⟩ := oblk hm
      refine Ev.steps tokX7_copyFrom 10 (P := vp_in v2 3 ∧ vp_in v2 3 ∧ True) (pc' := 227) (lv' := [some (.ref 100), some (.ref 1), some (.int (v2 + 1))]) (st' := []) (h' := mkS x (S.1, (u2 S.2.1 113 v2.toNatClampNeg (S.2.1 14 v2.toNatClampNeg)), S.2.2.1, S.2.2.2)) rfl ⟨inb_ok o2, inb_ok o3, trivial⟩ ?_
      exact hk227 (S.1, (u2 S.2.1 113 v2.toNatClampNeg (S.2.1 14 v2.toNatClampNeg)), S.2.2.1, S.2.2.2) (v2 + 1) _ _ hm
theorem lpX7_copyFrom_100_1_227 (x : XT)  : ∀ (n : Nat) (S : ST) (v2 : Int32) (r : Unit) (S' : ST), lfX7_copyFrom_100_1_227 x  n S v2 = some (r, S') → Ev mX7_copyFrom 1 0 0 227 [some (.ref 100), some (.ref 1), some (.int v2)] [] (mkS x S) (fun v h => v = none ∧ h = mkS x S')
  | 0, _, _, _, _, hm => by cases hm
  | n + 1, S, v2, r, S', hm => bpX7_copyFrom_100_1_227 x (lfX7_copyFrom_100_1_227 x  n) (lpX7_copyFrom_100_1_227 x  n) S v2 r S' hm
set_option maxHeartbeats 4000000 in
set_option maxRecDepth 20000 in
theorem bpX7_copyFrom_100_1_177 (x : XT) (k177 : ST → Int32 → Option (Unit × ST)) (hk177 : ∀ (S : ST) (v2 : Int32) (r : Unit) (S' : ST), k177 S v2 = some (r, S') → Ev mX7_copyFrom 1 0 0 177 [some (.ref 100), some (.ref 1), some (.int v2)] [] (mkS x S) (fun v h => v = none ∧ h = mkS x S')) (S : ST) (v2 : Int32) (r : Unit) (S' : ST) (hm : bfX7_copyFrom_100_1_177 x k177 S v2 = some (r, S')) : Ev mX7_copyFrom 1 0 0 177 [some (.ref 100), some (.ref 1), some (.int v2)] [] (mkS x S) (fun v h => v = none ∧ h = mkS x S') := by
    unfold bfX7_copyFrom_100_1_177 at hm
    refine Ev.steps tokX7_copyFrom 3 (P := True) (pc' := if 6 ≤ v2 then 225 else 183) (lv' := [some (.ref 100), some (.ref 1), some (.int v2)]) (st' := []) (h' := mkS x S) rfl trivial ?_
    refine Ev.ite (fun c1 => ?_) (fun c1 => ?_)
    · rw [if_pos c1] at hm
      refine Ev.steps tokX7_copyFrom 2 (P := True) (pc' := 227) (lv' := [some (.ref 100), some (.ref 1), some (.int 0)]) (st' := []) (h' := mkS x S) rfl trivial ?_
      exact lpX7_copyFrom_100_1_227 x  20000 S 0 _ _ hm
    · rw [if_neg c1] at hm
      obtain ⟨o2, hm⟩ := oblk hm
      obtain ⟨o3, hm⟩ := oblk hm
      obtain ⟨o4, hm⟩ := oblk hm
      obtain ⟨o5, hm⟩ := oblk hm
      obtain ⟨o6, hm⟩ := oblk hm
      obtain ⟨o7, hm⟩ := oblk hm
      refine Ev.steps tokX7_copyFrom 26 (P := vp_in v2 6 ∧ vp_in v2 6 ∧ vp_in v2 6 ∧ vp_in v2 6 ∧ vp_in v2 6 ∧ vp_in v2 6 ∧ True) (pc' := 177) (lv' := [some (.ref 100), some (.ref 1), some (.int (v2 + 1))]) (st' := []) (h' := mkS x (S.1, (u2 (u2 (u2 S.2.1 110 v2.toNatClampNeg (S.2.1 11 v2.toNatClampNeg)) 111 v2.toNatClampNeg (S.2.1 12 v2.toNatClampNeg)) 112 v2.toNatClampNeg (S.2.1 13 v2.toNatClampNeg)), S.2.2.1, S.2.2.2)) rfl ⟨inb_ok o2, inb_ok o3, inb_ok o4, inb_ok o5, inb_ok o6, inb_ok o7, trivial⟩ ?_
      exact hk177 (S.1, (u2 (u2 (u2 S.2.1 110 v2.toNatClampNeg (S.2.1 11 v2.toNatClampNeg)) 111 v2.toNatClampNeg (S.2.1 12 v2.toNatClampNeg)) 112 v2.toNatClampNeg (S.2.1 13 v2.toNatClampNeg)), S.2.2.1, S.2.2.2) (v2 + 1) _ _ hm
theorem lpX7_copyFrom_100_1_177 (x : XT)  : ∀ (n : Nat) (S : ST) (v2 : Int32) (r : Unit) (S' : ST), lfX7_copyFrom_100_1_177 x  n S v2 = some (r, S') → Ev mX7_copyFrom 1 0 0 177 [some (.ref 100), some (.ref 1), some (.int v2)] [] (mkS x S) (fun v h => v = none ∧ h = mkS x S')
  | 0, _, _, _, _, hm => by cases hm
  | n + 1, S, v2, r, S', hm => bpX7_copyFrom_100_1_177 x (lfX7_copyFrom_100_1_177 x  n) (lpX7_copyFrom_100_1_177 x  n) S v2 r S' hm
set_option maxHeartbeats 4000000 in
set_option maxRecDepth 20000 in
theorem bpX7_copyFrom_100_1_116 (x : XT) (k116 : ST → Int32 → Option (Unit × ST)) (hk116 : ∀ (S : ST) (v2 : Int32) (r : Unit) (S' : ST), k116 S v2 = some (r, S') → Ev mX7_copyFrom 1 0 0 116 [some (.ref 100), some (.ref 1), some (.int v2)] [] (mkS x S) (fun v h => v = none ∧ h = mkS x S')) (S : ST) (v2 : Int32) (r : Unit) (S' : ST) (hm : bfX7_copyFrom_100_1_116 x k116 S v2 = some (r, S')) : Ev mX7_copyFrom 1 0 0 116 [some (.ref 100), some (.ref 1), some (.int v2)] [] (mkS x S) (fun v h => v = none ∧ h = mkS x S') := by
    unfold bfX7_copyFrom_100_1_116 at hm
    refine Ev.steps tokX7_copyFrom 3 (P := True) (pc' := if 5 ≤ v2 then 175 else 121) (lv' := [some (.ref 100), some (.ref 1), some (.int v2)]) (st' := []) (h' := mkS x S) rfl trivial ?_
    refine Ev.ite (fun c1 => ?_) (fun c1 => ?_)
    · rw [if_pos c1] at hm
      refine Ev.steps tokX7_copyFrom 2 (P := True) (pc' := 177) (lv' := [some (.ref 100), some (.ref 1), some (.int 0)]) (st' := []) (h' := mkS x S) rfl trivial ?_
      exact lpX7_copyFrom_100_1_177 x  20000 S 0 _ _ hm
    · rw [if_neg c1] at hm
      obtain ⟨o2, hm⟩ := oblk hm
      obtain ⟨o3, hm⟩ := oblk hm
      obtain ⟨o4, hm⟩ := oblk hm
      obtain ⟨o5, hm⟩ := oblk hm
      obtain ⟨o6, hm⟩ := oblk hm
      obtain ⟨o7, hm⟩ := oblk hm
      obtain ⟨o8, hm⟩ := oblk hm
      obtain ⟨o9, hm⟩ := oblk hm
      refine Ev.steps tokX7_copyFrom 34 (P := vp_in v2 5 ∧ vp_in v2 5 ∧ vp_in v2 5 ∧ vp_in v2 5 ∧ vp_in v2 5 ∧ vp_in v2 5 ∧ vp_in v2 5 ∧ vp_in v2 5 ∧ True) (pc' := 116) (lv' := [some (.ref 100), some (.ref 1), some (.int (v2 + 1))]) (st' := []) (h' := mkS x (S.1, (u2 (u2 (u2 (u2 S.2.1 106 v2.toNatClampNeg (S.2.1 7 v2.toNatClampNeg)) 107 v2.toNatClampNeg (S.2.1 8 v2.toNatClampNeg)) 108 v2.toNatClampNeg (S.2.1 9 v2.toNatClampNeg)) 109 v2.toNatClampNeg (S.2.1 10 v2.toNatClampNeg)), S.2.2.1, S.2.2.2)) rfl ⟨inb_ok o2, inb_ok o3, inb_ok o4, inb_ok o5, inb_ok o6, inb_ok o7, inb_ok o8, inb_ok o9, trivial⟩ ?_
      exact hk116 (S.1, (u2 (u2 (u2 (u2 S.2.1 106 v2.toNatClampNeg (S.2.1 7 v2.toNatClampNeg)) 107 v2.toNatClampNeg (S.2.1 8 v2.toNatClampNeg)) 108 v2.toNatClampNeg (S.2.1 9 v2.toNatClampNeg)) 109 v2.toNatClampNeg (S.2.1 10 v2.toNatClampNeg)), S.2.2.1, S.2.2.2) (v2 + 1) _ _ hm
theorem lpX7_copyFrom_100_1_116 (x : XT)  : ∀ (n : Nat) (S : ST) (v2 : Int32) (r : Unit) (S' : ST), lfX7_copyFrom_100_1_116 x  n S v2 = some (r, S') → Ev mX7_copyFrom 1 0 0 116 [some (.ref 100), some (.ref 1), some (.int v2)] [] (mkS x S) (fun v h => v = none ∧ h = mkS x S')
  | 0, _, _, _, _, hm => by cases hm
  | n + 1, S, v2, r, S', hm => bpX7_copyFrom_100_1_116 x (lfX7_copyFrom_100_1_116 x  n) (lpX7_copyFrom_100_1_116 x  n) S v2 r S' hm
set_option maxHeartbeats 4000000 in
set_option maxRecDepth 20000 in
theorem bpX7_copyFrom_100_1_42 (x : XT) (k42 : ST → Int32 → Option (Unit × ST)) (hk42 : ∀ (S : ST) (v2 : Int32) (r : Unit) (S' : ST), k42 S v2 = some (r, S') → Ev mX7_copyFrom 1 0 0 42 [some (.ref 100), some (.ref 1), some (.int v2)] [] (mkS x S) (fun v h => v = none ∧ h = mkS x S')) (S : ST) (v2 : Int32) (r : Unit) (S' : ST) (hm : bfX7_copyFrom_100_1_42 x k42 S v2 = some (r, S')) : Ev mX7_copyFrom 1 0 0 42 [some (.ref 100), some (.ref 1), some (.int v2)] [] (mkS x S) (fun v h => v = none ∧ h = mkS x S') := by
    unfold bfX7_copyFrom_100_1_42 at hm
    refine Ev.steps tokX7_copyFrom 3 (P := True) (pc' := if 10 ≤ v2 then 114 else 48) (lv' := [some (.ref 100), some (.ref 1), some (.int v2)]) (st' := []) (h' := mkS x S) rfl trivial ?_
    refine Ev.ite (fun c1 => ?_) (fun c1 => ?_)
    · rw [if_pos c1] at hm
      refine Ev.steps tokX7_copyFrom 2 (P := True) (pc' := 116) (lv' := [some (.ref 100), some (.ref 1), some (.int 0)]) (st' := []) (h' := mkS x S) rfl trivial ?_
      exact lpX7_copyFrom_100_1_116 x  20000 S 0 _ _ hm
    · rw [if_neg c1] at hm
      obtain ⟨o2, hm⟩ := oblk hm
      obtain ⟨o3, hm⟩ := oblk hm
      obtain ⟨o4, hm⟩ := oblk hm
      obtain ⟨o5, hm⟩ := oblk hm
      obtain ⟨o6, hm⟩ := oblk hm
      obtain ⟨o7, hm⟩ := oblk hm
      obtain ⟨o8, hm⟩ := oblk hm
      obtain ⟨o9, hm⟩ := oblk hm
      obtain ⟨o10, hm⟩ := oblk hm
      obtain ⟨o11, hm⟩ := oblk hm
      refine Ev.steps tokX7_copyFrom 42 (P := vp_in v2 10 ∧ vp_in v2 10 ∧ vp_in v2 10 ∧ vp_in v2 10 ∧ vp_in v2 10 ∧ vp_in v2 10 ∧ vp_in v2 10 ∧ vp_in v2 10 ∧ vp_in v2 10 ∧ vp_in v2 10 ∧ True) (pc' := 42) (lv' := [some (.ref 100), some (.ref 1), some (.int (v2 + 1))]) (st' := []) (h' := mkS x (S.1, (u2 (u2 (u2 (u2 (u2 S.2.1 101 v2.toNatClampNeg (S.2.1 2 v2.toNatClampNeg)) 102 v2.toNatClampNeg (S.2.1 3 v2.toNatClampNeg)) 103 v2.toNatClampNeg (S.2.1 4 v2.toNatClampNeg)) 104 v2.toNatClampNeg (S.2.1 5 v2.toNatClampNeg)) 105 v2.toNatClampNeg (vp_nar .boolean (S.2.1 6 v2.toNatClampNeg))), S.2.2.1, S.2.2.2)) rfl ⟨inb_ok o2, inb_ok o3, inb_ok o4, inb_ok o5, inb_ok o6, inb_ok o7, inb_ok o8, inb_ok o9, inb_ok o10, inb_ok o11, trivial⟩ ?_
      exact hk42 (S.1, (u2 (u2 (u2 (u2 (u2 S.2.1 101 v2.toNatClampNeg (S.2.1 2 v2.toNatClampNeg)) 102 v2.toNatClampNeg (S.2.1 3 v2.toNatClampNeg)) 103 v2.toNatClampNeg (S.2.1 4 v2.toNatClampNeg)) 104 v2.toNatClampNeg (S.2.1 5 v2.toNatClampNeg)) 105 v2.toNatClampNeg (vp_nar .boolean (S.2.1 6 v2.toNatClampNeg))), S.2.2.1, S.2.2.2) (v2 + 1) _ _ hm
theorem lpX7_copyFrom_100_1_42 (x : XT)  : ∀ (n : Nat) (S : ST) (v2 : Int32) (r : Unit) (S' : ST), lfX7_copyFrom_100_1_42 x  n S v2 = some (r, S') → Ev mX7_copyFrom 1 0 0 42 [some (.ref 100), some (.ref 1), some (.int v2)] [] (mkS x S) (fun v h => v = none ∧ h = mkS x S')
  | 0, _, _, _, _, hm => by cases hm
  | n + 1, S, v2, r, S', hm => bpX7_copyFrom_100_1_42 x (lfX7_copyFrom_100_1_42 x  n) (lpX7_copyFrom_100_1_42 x  n) S v2 r S' hm
set_option maxHeartbeats 4000000 in
set_option maxRecDepth 20000 in
theorem bpX7_copyFrom_100_1_0 (x : XT)  (S : ST)  (r : Unit) (S' : ST) (hm : bfX7_copyFrom_100_1_0 x  S  = some (r, S')) : Ev mX7_copyFrom 1 0 0 0 [some (.ref 100), some (.ref 1), none] [] (mkS x S) (fun v h => v = none ∧ h = mkS x S') := by
    unfold bfX7_copyFrom_100_1_0 at hm
    refine Ev.steps tokX7_copyFrom 22 (P := True) (pc' := 42) (lv' := [some (.ref 100), some (.ref 1), some (.int 0)]) (st' := []) (h' := mkS x ((u2 (u2 (u2 (u2 (u2 S.1 100 0 (S.1 1 0)) 100 6 (S.1 1 6)) 100 11 (S.1 1 11)) 100 16 (S.1 1 16)) 100 18 (S.1 1 18)), S.2.1, S.2.2.1, S.2.2.2)) rfl trivial ?_
    exact lpX7_copyFrom_100_1_42 x  20000 ((u2 (u2 (u2 (u2 (u2 S.1 100 0 (S.1 1 0)) 100 6 (S.1 1 6)) 100 11 (S.1 1 11)) 100 16 (S.1 1 16)) 100 18 (S.1 1 18)), S.2.1, S.2.2.1, S.2.2.2) 0 _ _ hm
theorem gpX7_copyFrom_100_1 (x : XT) (S : ST)  (r : Unit) (S' : ST) (hm : gfX7_copyFrom_100_1 x S  = some (r, S')) : Ct mX7_copyFrom 1 0 0 [.ref 100, .ref 1] (mkS x S) (fun v h => v = none ∧ h = mkS x S') :=
  Ct.of (lv := [some (.ref 100), some (.ref 1), none]) rfl rfl rfl (show (_ : Nat) ≤ _ from Nat.le_of_ble_eq_true rfl) (fun G => rfl) (bpX7_copyFrom_100_1_0 x S  r S' hm)
end MIR
