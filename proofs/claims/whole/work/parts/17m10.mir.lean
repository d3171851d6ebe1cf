section MIR
set_option maxHeartbeats 4000000 in
set_option maxRecDepth 20000 in
theorem bpJ7_fill_53178_76_5 (x : XT) (k5 : ST → Int32 → Int32 → Int32 → Option (Unit × ST)) (hk5 : ∀ (S : ST) (v1 : Int32) (v2 : Int32) (v3 : Int32) (r : Unit) (S' : ST), k5 S v1 v2 v3 = some (r, S') → Ev mJ7_fill_53178 1 0 0 5 [some (.ref 76), some (.int v1), some (.int v2), some (.int v3)] [] (mkS x S) (fun v h => v = none ∧ h = mkS x S')) (S : ST) (v1 : Int32) (v2 : Int32) (v3 : Int32) (r : Unit) (S' : ST) (hm : bfJ7_fill_53178_76_5 x k5 S v1 v2 v3 = some (r, S')) : Ev mJ7_fill_53178 1 0 0 5 [some (.ref 76), some (.int v1), some (.int v2), some (.int v3)] [] (mkS x S) (fun v h => v = none ∧ h = mkS x S') := by
    unfold bfJ7_fill_53178_76_5 at hm
    refine Ev.steps tokJ7_fill_53178 3 (P := True) (pc' := if v3 ≤ v2 then 20 else 10) (lv' := [some (.ref 76), some (.int v1), some (.int v2), some (.int v3)]) (st' := []) (h' := mkS x S) rfl trivial ?_
    refine Ev.ite (fun c1 => ?_) (fun c1 => ?_)
    · rw [if_pos c1] at hm
      cases hm
      exact Ev.retv tokJ7_fill_53178 rfl rfl ⟨rfl, rfl⟩
    · rw [if_neg c1] at hm
      obtain ⟨o2, hm⟩ := oblk hm
      refine Ev.steps tokJ7_fill_53178 6 (P := vp_in v2 120 ∧ True) (pc' := 5) (lv' := [some (.ref 76), some (.int v1), some (.int (v2 + 1)), some (.int v3)]) (st' := []) (h' := mkS x (S.1, (u2 S.2.1 76 v2.toNatClampNeg v1), S.2.2.1, S.2.2.2)) rfl ⟨inb_ok o2, trivial⟩ ?_
      exact hk5 (S.1, (u2 S.2.1 76 v2.toNatClampNeg v1), S.2.2.1, S.2.2.2) v1 (v2 + 1) v3 _ _ hm
theorem lpJ7_fill_53178_76_5 (x : XT)  : ∀ (n : Nat) (S : ST) (v1 : Int32) (v2 : Int32) (v3 : Int32) (r : Unit) (S' : ST), lfJ7_fill_53178_76_5 x  n S v1 v2 v3 = some (r, S') → Ev mJ7_fill_53178 1 0 0 5 [some (.ref 76), some (.int v1), some (.int v2), some (.int v3)] [] (mkS x S) (fun v h => v = none ∧ h = mkS x S')
  | 0, _, _, _, _, _, _, hm => by cases hm
  | n + 1, S, v1, v2, v3, r, S', hm => bpJ7_fill_53178_76_5 x (lfJ7_fill_53178_76_5 x  n) (lpJ7_fill_53178_76_5 x  n) S v1 v2 v3 r S' hm
set_option maxHeartbeats 4000000 in
set_option maxRecDepth 20000 in
theorem bpJ7_fill_53178_76_0 (x : XT)  (S : ST) (p1 : Int32) (r : Unit) (S' : ST) (hm : bfJ7_fill_53178_76_0 x  S p1 = some (r, S')) : Ev mJ7_fill_53178 1 0 0 0 [some (.ref 76), some (.int p1), none, none] [] (mkS x S) (fun v h => v = none ∧ h = mkS x S') := by
    unfold bfJ7_fill_53178_76_0 at hm
    refine Ev.steps tokJ7_fill_53178 5 (P := True) (pc' := 5) (lv' := [some (.ref 76), some (.int p1), some (.int 0), some (.int 120)]) (st' := []) (h' := mkS x S) rfl trivial ?_
    exact lpJ7_fill_53178_76_5 x  20000 S p1 0 120 _ _ hm
theorem gpJ7_fill_53178_76 (x : XT) (S : ST) (p1 : Int32) (r : Unit) (S' : ST) (hm : gfJ7_fill_53178_76 x S p1 = some (r, S')) : Ct mJ7_fill_53178 1 0 0 [.ref 76, .int p1] (mkS x S) (fun v h => v = none ∧ h = mkS x S') :=
  Ct.of (lv := [some (.ref 76), some (.int p1), none, none]) rfl rfl rfl (show (_ : Nat) ≤ _ from Nat.le_of_ble_eq_true rfl) (fun G => rfl) (bpJ7_fill_53178_76_0 x S p1 r S' hm)
set_option maxHeartbeats 4000000 in
set_option maxRecDepth 20000 in
theorem bpJ7_fill_53178_77_5 (x : XT) (k5 : ST → Int32 → Int32 → Int32 → Option (Unit × ST)) (hk5 : ∀ (S : ST) (v1 : Int32) (v2 : Int32) (v3 : Int32) (r : Unit) (S' : ST), k5 S v1 v2 v3 = some (r, S') → Ev mJ7_fill_53178 1 0 0 5 [some (.ref 77), some (.int v1), some (.int v2), some (.int v3)] [] (mkS x S) (fun v h => v = none ∧ h = mkS x S')) (S : ST) (v1 : Int32) (v2 : Int32) (v3 : Int32) (r : Unit) (S' : ST) (hm : bfJ7_fill_53178_77_5 x k5 S v1 v2 v3 = some (r, S')) : Ev mJ7_fill_53178 1 0 0 5 [some (.ref 77), some (.int v1), some (.int v2), some (.int v3)] [] (mkS x S) (fun v h => v = none ∧ h = mkS x S') := by
    unfold bfJ7_fill_53178_77_5 at hm
    refine Ev.steps tokJ7_fill_53178 3 (P := True) (pc' := if v3 ≤ v2 then 20 else 10) (lv' := [some (.ref 77), some (.int v1), some (.int v2), some (.int v3)]) (st' := []) (h' := mkS x S) rfl trivial ?_
    refine Ev.ite (fun c1 => ?_) (fun c1 => ?_)
    · rw [if_pos c1] at hm
      cases hm
      exact Ev.retv tokJ7_fill_53178 rfl rfl ⟨rfl, rfl⟩
    · rw [if_neg c1] at hm
      obtain ⟨o2, hm⟩ := oblk hm
      refine Ev.steps tokJ7_fill_53178 6 (P := vp_in v2 120 ∧ True) (pc' := 5) (lv' := [some (.ref 77), some (.int v1), some (.int (v2 + 1)), some (.int v3)]) (st' := []) (h' := mkS x (S.1, (u2 S.2.1 77 v2.toNatClampNeg v1), S.2.2.1, S.2.2.2)) rfl ⟨inb_ok o2, trivial⟩ ?_
      exact hk5 (S.1, (u2 S.2.1 77 v2.toNatClampNeg v1), S.2.2.1, S.2.2.2) v1 (v2 + 1) v3 _ _ hm
theorem lpJ7_fill_53178_77_5 (x : XT)  : ∀ (n : Nat) (S : ST) (v1 : Int32) (v2 : Int32) (v3 : Int32) (r : Unit) (S' : ST), lfJ7_fill_53178_77_5 x  n S v1 v2 v3 = some (r, S') → Ev mJ7_fill_53178 1 0 0 5 [some (.ref 77), some (.int v1), some (.int v2), some (.int v3)] [] (mkS x S) (fun v h => v = none ∧ h = mkS x S')
  | 0, _, _, _, _, _, _, hm => by cases hm
  | n + 1, S, v1, v2, v3, r, S', hm => bpJ7_fill_53178_77_5 x (lfJ7_fill_53178_77_5 x  n) (lpJ7_fill_53178_77_5 x  n) S v1 v2 v3 r S' hm
set_option maxHeartbeats 4000000 in
set_option maxRecDepth 20000 in
theorem bpJ7_fill_53178_77_0 (x : XT)  (S : ST) (p1 : Int32) (r : Unit) (S' : ST) (hm : bfJ7_fill_53178_77_0 x  S p1 = some (r, S')) : Ev mJ7_fill_53178 1 0 0 0 [some (.ref 77), some (.int p1), none, none] [] (mkS x S) (fun v h => v = none ∧ h = mkS x S') := by
    unfold bfJ7_fill_53178_77_0 at hm
    refine Ev.steps tokJ7_fill_53178 5 (P := True) (pc' := 5) (lv' := [some (.ref 77), some (.int p1), some (.int 0), some (.int 120)]) (st' := []) (h' := mkS x S) rfl trivial ?_
    exact lpJ7_fill_53178_77_5 x  20000 S p1 0 120 _ _ hm
theorem gpJ7_fill_53178_77 (x : XT) (S : ST) (p1 : Int32) (r : Unit) (S' : ST) (hm : gfJ7_fill_53178_77 x S p1 = some (r, S')) : Ct mJ7_fill_53178 1 0 0 [.ref 77, .int p1] (mkS x S) (fun v h => v = none ∧ h = mkS x S') :=
  Ct.of (lv := [some (.ref 77), some (.int p1), none, none]) rfl rfl rfl (show (_ : Nat) ≤ _ from Nat.le_of_ble_eq_true rfl) (fun G => rfl) (bpJ7_fill_53178_77_0 x S p1 r S' hm)
set_option maxHeartbeats 4000000 in
set_option maxRecDepth 20000 in
theorem bpX6_leastToll_54_73 (x : XT)  (S : ST) (t0 : Int32) (r : Int32) (S' : ST) (hm : bfX6_leastToll_54_73 x  S t0 = some (r, S')) : Ev mX6_leastToll 6 0 0 73 [none, none, none, none, none, none] [.int t0] (mkS x S) (fun v h => v = some (.int r) ∧ h = mkS x S') := by
    unfold bfX6_leastToll_54_73 at hm
    cases hm
    exact Ev.reti tokX6_leastToll rfl rfl ⟨rfl, rfl⟩
set_option maxHeartbeats 4000000 in
set_option maxRecDepth 20000 in
theorem bpX6_leastToll_54_56 (x : XT)  (S : ST) (v4 : Int32) (r : Int32) (S' : ST) (hm : bfX6_leastToll_54_56 x  S v4 = some (r, S')) : Ev mX6_leastToll 6 0 0 56 [some (.ref 54), none, none, none, some (.int v4), none] [] (mkS x S) (fun v h => v = some (.int r) ∧ h = mkS x S') := by
    unfold bfX6_leastToll_54_56 at hm
    refine Ev.steps tokX6_leastToll 3 (P := True) (pc' := if ¬ v4 = (-1) then 66 else 62) (lv' := [some (.ref 54), none, none, none, some (.int v4), none]) (st' := []) (h' := mkS x S) rfl trivial ?_
    refine Ev.ite (fun c1 => ?_) (fun c1 => ?_)
    · rw [if_pos c1] at hm
      obtain ⟨o2, hm⟩ := oblk hm
      refine Ev.steps tokX6_leastToll 4 (P := vp_in v4 120 ∧ True) (pc' := 73) (lv' := [some (.ref 54), none, none, none, some (.int v4), none]) (st' := [.int (S.2.1 76 v4.toNatClampNeg)]) (h' := mkS x S) rfl ⟨inb_ok o2, trivial⟩ ?_
      refine Ev.fgt (lv' := [none, none, none, none, none, none]) trivial ?_
      exact bpX6_leastToll_54_73 x S (S.2.1 76 v4.toNatClampNeg) _ _ hm
    · rw [if_neg c1] at hm
      refine Ev.steps tokX6_leastToll 2 (P := True) (pc' := 73) (lv' := [some (.ref 54), none, none, none, some (.int v4), none]) (st' := [.int (-1)]) (h' := mkS x S) rfl trivial ?_
      refine Ev.fgt (lv' := [none, none, none, none, none, none]) trivial ?_
      exact bpX6_leastToll_54_73 x S (-1) _ _ hm
set_option maxHeartbeats 4000000 in
set_option maxRecDepth 20000 in
theorem bpX6_leastToll_54_85 (x : XT) (k28 : ST → Int32 → Int32 → Int32 → Option (Int32 × ST)) (hk28 : ∀ (S : ST) (v1 : Int32) (v2 : Int32) (v3 : Int32) (r : Int32) (S' : ST), k28 S v1 v2 v3 = some (r, S') → Ev mX6_leastToll 6 0 0 28 [some (.ref 54), some (.int v1), some (.int v2), some (.int v3), none, none] [] (mkS x S) (fun v h => v = some (.int r) ∧ h = mkS x S')) (k85 : ST → Int32 → Int32 → Int32 → Int32 → Int32 → Option (Int32 × ST)) (hk85 : ∀ (S : ST) (v1 : Int32) (v2 : Int32) (v3 : Int32) (v4 : Int32) (v5 : Int32) (r : Int32) (S' : ST), k85 S v1 v2 v3 v4 v5 = some (r, S') → Ev mX6_leastToll 6 0 0 85 [some (.ref 54), some (.int v1), some (.int v2), some (.int v3), some (.int v4), some (.int v5)] [] (mkS x S) (fun v h => v = some (.int r) ∧ h = mkS x S')) (S : ST) (v1 : Int32) (v2 : Int32) (v3 : Int32) (v4 : Int32) (v5 : Int32) (r : Int32) (S' : ST) (hm : bfX6_leastToll_54_85 x k28 k85 S v1 v2 v3 v4 v5 = some (r, S')) : Ev mX6_leastToll 6 0 0 85 [some (.ref 54), some (.int v1), some (.int v2), some (.int v3), some (.int v4), some (.int v5)] [] (mkS x S) (fun v h => v = some (.int r) ∧ h = mkS x S') := by
    unfold bfX6_leastToll_54_85 at hm
    refine Ev.steps tokX6_leastToll 5 (P := True) (pc' := if (S.1 55 0) ≤ v5 then 111 else 97) (lv' := [some (.ref 54), some (.int v1), some (.int v2), some (.int v3), some (.int v4), some (.int v5)]) (st' := []) (h' := mkS x S) rfl trivial ?_
    refine Ev.ite (fun c1 => ?_) (fun c1 => ?_)
    · rw [if_pos c1] at hm
      refine Ev.steps tokX6_leastToll 2 (P := True) (pc' := 28) (lv' := [some (.ref 54), some (.int v1), some (.int v2), some (.int (v3 + 1)), some (.int v4), some (.int v5)]) (st' := []) (h' := mkS x S) rfl trivial ?_
      refine Ev.fgt (lv' := [some (.ref 54), some (.int v1), some (.int v2), some (.int (v3 + 1)), none, none]) ⟨rfl, rfl, rfl, rfl, trivial⟩ ?_
      exact hk28 S v1 v2 (v3 + 1) _ _ hm
    · rw [if_neg c1] at hm
      refine Ev.steps tokX6_leastToll 3 (P := True) (pc' := 102) (lv' := [some (.ref 54), some (.int v1), some (.int v2), some (.int v3), some (.int v4), some (.int v5)]) (st' := [.int v4, .int v5, .ref 54]) (h' := mkS x S) rfl trivial ?_
      cases h2 : gfX6_payInto_54 x S v5 v4 with
      | none => rw [h2] at hm; cases hm
      | some q3 =>
        obtain ⟨r4, S5⟩ := q3
        rw [h2] at hm
        dsimp only at hm
        refine ev_callV (N := mX6_payInto) (d' := 5) (bc := 0) (bs := 0) (bc' := 0) (bs' := 0) (as := [.int v5, .int v4]) (rest := []) (a := 54) (ci := 6) (dcd tokX6_leastToll rfl) okX6_payInto inX6_payInto seX6_payInto lk6_124 rfl (by decide) (Nat.le_of_ble_eq_true rfl) rfl ⟨by decide, rfl⟩ (gpX6_payInto_54 x S v5 v4 _ _ h2) (fun v h' hq hn => ?_)
        obtain ⟨rfl, rfl⟩ := hq
        refine Ev.steps tokX6_leastToll 2 (P := True) (pc' := 85) (lv' := [some (.ref 54), some (.int v1), some (.int v2), some (.int v3), some (.int v4), some (.int (v5 + 1))]) (st' := []) (h' := mkS x S5) rfl trivial ?_
        exact hk85 S5 v1 v2 v3 v4 (v5 + 1) _ _ hm
theorem lpX6_leastToll_54_85 (x : XT) (k28 : ST → Int32 → Int32 → Int32 → Option (Int32 × ST)) (hk28 : ∀ (S : ST) (v1 : Int32) (v2 : Int32) (v3 : Int32) (r : Int32) (S' : ST), k28 S v1 v2 v3 = some (r, S') → Ev mX6_leastToll 6 0 0 28 [some (.ref 54), some (.int v1), some (.int v2), some (.int v3), none, none] [] (mkS x S) (fun v h => v = some (.int r) ∧ h = mkS x S')) : ∀ (n : Nat) (S : ST) (v1 : Int32) (v2 : Int32) (v3 : Int32) (v4 : Int32) (v5 : Int32) (r : Int32) (S' : ST), lfX6_leastToll_54_85 x k28 n S v1 v2 v3 v4 v5 = some (r, S') → Ev mX6_leastToll 6 0 0 85 [some (.ref 54), some (.int v1), some (.int v2), some (.int v3), some (.int v4), some (.int v5)] [] (mkS x S) (fun v h => v = some (.int r) ∧ h = mkS x S')
  | 0, _, _, _, _, _, _, _, _, hm => by cases hm
  | n + 1, S, v1, v2, v3, v4, v5, r, S', hm => bpX6_leastToll_54_85 x k28 hk28 (lfX6_leastToll_54_85 x k28 n) (lpX6_leastToll_54_85 x k28 hk28 n) S v1 v2 v3 v4 v5 r S' hm
set_option maxHeartbeats 4000000 in
set_option maxRecDepth 20000 in
theorem bpX6_leastToll_54_28 (x : XT) (k28 : ST → Int32 → Int32 → Int32 → Option (Int32 × ST)) (hk28 : ∀ (S : ST) (v1 : Int32) (v2 : Int32) (v3 : Int32) (r : Int32) (S' : ST), k28 S v1 v2 v3 = some (r, S') → Ev mX6_leastToll 6 0 0 28 [some (.ref 54), some (.int v1), some (.int v2), some (.int v3), none, none] [] (mkS x S) (fun v h => v = some (.int r) ∧ h = mkS x S')) (S : ST) (v1 : Int32) (v2 : Int32) (v3 : Int32) (r : Int32) (S' : ST) (hm : bfX6_leastToll_54_28 x k28 S v1 v2 v3 = some (r, S')) : Ev mX6_leastToll 6 0 0 28 [some (.ref 54), some (.int v1), some (.int v2), some (.int v3), none, none] [] (mkS x S) (fun v h => v = some (.int r) ∧ h = mkS x S') := by
    unfold bfX6_leastToll_54_28 at hm
    refine Ev.steps tokX6_leastToll 3 (P := True) (pc' := if 120 ≤ v3 then 117 else 34) (lv' := [some (.ref 54), some (.int v1), some (.int v2), some (.int v3), none, none]) (st' := []) (h' := mkS x S) rfl trivial ?_
    refine Ev.ite (fun c1 => ?_) (fun c1 => ?_)
    · rw [if_pos c1] at hm
      refine Ev.steps tokX6_leastToll 1 (P := True) (pc' := 118) (lv' := [some (.ref 54), some (.int v1), some (.int v2), some (.int v3), none, none]) (st' := [.int (-1)]) (h' := mkS x S) rfl trivial ?_
      cases hm
      exact Ev.reti tokX6_leastToll rfl rfl ⟨rfl, rfl⟩
    · rw [if_neg c1] at hm
      refine Ev.steps tokX6_leastToll 1 (P := True) (pc' := 35) (lv' := [some (.ref 54), some (.int v1), some (.int v2), some (.int v3), none, none]) (st' := [.ref 54]) (h' := mkS x S) rfl trivial ?_
      cases h2 : gfX6_cheapestUnsettled_54 x S with
      | none => rw [h2] at hm; cases hm
      | some q3 =>
        obtain ⟨r4, S5⟩ := q3
        rw [h2] at hm
        dsimp only at hm
        refine ev_callV (N := mX6_cheapestUnsettled) (d' := 1) (bc := 0) (bs := 0) (bc' := 0) (bs' := 0) (as := []) (rest := []) (a := 54) (ci := 6) (dcd tokX6_leastToll rfl) okX6_cheapestUnsettled inX6_cheapestUnsettled seX6_cheapestUnsettled lk6_121 rfl (by decide) (Nat.le_of_ble_eq_true rfl) rfl ⟨by decide, rfl⟩ (gpX6_cheapestUnsettled_54 x S _ _ h2) (fun v h' hq hn => ?_)
        obtain ⟨rfl, rfl⟩ := hq
        refine Ev.steps tokX6_leastToll 4 (P := True) (pc' := if r4 = (-1) then 56 else 46) (lv' := [some (.ref 54), some (.int v1), some (.int v2), some (.int v3), some (.int r4), none]) (st' := []) (h' := mkS x S5) rfl trivial ?_
        refine Ev.ite (fun c6 => ?_) (fun c6 => ?_)
        · rw [if_pos c6] at hm
          refine Ev.fgt (lv' := [some (.ref 54), none, none, none, some (.int r4), none]) ⟨rfl, rfl, trivial⟩ ?_
          exact bpX6_leastToll_54_56 x S5 r4 _ _ hm
        · rw [if_neg c6] at hm
          refine Ev.steps tokX6_leastToll 3 (P := True) (pc' := 50) (lv' := [some (.ref 54), some (.int v1), some (.int v2), some (.int v3), some (.int r4), none]) (st' := [.int v2, .int v1, .int r4]) (h' := mkS x S5) rfl trivial ?_
          cases h7 : gfX6_isAt x S5 r4 v1 v2 with
          | none => rw [h7] at hm; cases hm
          | some q8 =>
            obtain ⟨r9, S10⟩ := q8
            rw [h7] at hm
            dsimp only at hm
            refine ev_callS (N := mX6_isAt) (d' := 1) (bc := 0) (bs := 0) (bc' := 0) (bs' := 0) (as := [.int r4, .int v1, .int v2]) (rest := []) (dcd tokX6_leastToll rfl) okX6_isAt inX6_isAt lk6_104 rfl (by decide) (Nat.le_of_ble_eq_true rfl) (gpX6_isAt x S5 r4 v1 v2 _ _ h7) (fun v h' hq hn => ?_)
            obtain ⟨rfl, rfl⟩ := hq
            refine Ev.steps tokX6_leastToll 1 (P := True) (pc' := if r9 = 0 then 74 else 56) (lv' := [some (.ref 54), some (.int v1), some (.int v2), some (.int v3), some (.int r4), none]) (st' := []) (h' := mkS x S10) rfl trivial ?_
            refine Ev.ite (fun c11 => ?_) (fun c11 => ?_)
            · rw [if_pos c11] at hm
              obtain ⟨o12, hm⟩ := oblk hm
              refine Ev.steps tokX6_leastToll 7 (P := vp_in r4 120 ∧ True) (pc' := 85) (lv' := [some (.ref 54), some (.int v1), some (.int v2), some (.int v3), some (.int r4), some (.int 0)]) (st' := []) (h' := mkS x (S10.1, (u2 S10.2.1 77 r4.toNatClampNeg 1), S10.2.2.1, S10.2.2.2)) rfl ⟨inb_ok o12, trivial⟩ ?_
              exact lpX6_leastToll_54_85 x k28 hk28 20000 (S10.1, (u2 S10.2.1 77 r4.toNatClampNeg 1), S10.2.2.1, S10.2.2.2) v1 v2 v3 r4 0 _ _ hm
            · rw [if_neg c11] at hm
              refine Ev.fgt (lv' := [some (.ref 54), none, none, none, some (.int r4), none]) ⟨rfl, rfl, trivial⟩ ?_
              exact bpX6_leastToll_54_56 x S10 r4 _ _ hm
theorem lpX6_leastToll_54_28 (x : XT)  : ∀ (n : Nat) (S : ST) (v1 : Int32) (v2 : Int32) (v3 : Int32) (r : Int32) (S' : ST), lfX6_leastToll_54_28 x  n S v1 v2 v3 = some (r, S') → Ev mX6_leastToll 6 0 0 28 [some (.ref 54), some (.int v1), some (.int v2), some (.int v3), none, none] [] (mkS x S) (fun v h => v = some (.int r) ∧ h = mkS x S')
  | 0, _, _, _, _, _, _, hm => by cases hm
  | n + 1, S, v1, v2, v3, r, S', hm => bpX6_leastToll_54_28 x (lfX6_leastToll_54_28 x  n) (lpX6_leastToll_54_28 x  n) S v1 v2 v3 r S' hm
set_option maxHeartbeats 4000000 in
set_option maxRecDepth 20000 in
theorem bpX6_leastToll_54_0 (x : XT)  (S : ST) (p1 : Int32) (p2 : Int32) (r : Int32) (S' : ST) (hm : bfX6_leastToll_54_0 x  S p1 p2 = some (r, S')) : Ev mX6_leastToll 6 0 0 0 [some (.ref 54), some (.int p1), some (.int p2), none, none, none] [] (mkS x S) (fun v h => v = some (.int r) ∧ h = mkS x S') := by
    unfold bfX6_leastToll_54_0 at hm
    refine Ev.steps tokX6_leastToll 3 (P := True) (pc' := 5) (lv' := [some (.ref 54), some (.int p1), some (.int p2), none, none, none]) (st' := [.int (-1), .ref 76]) (h' := mkS x S) rfl trivial ?_
    cases h1 : gfJ7_fill_53178_76 x S (-1) with
    | none => rw [h1] at hm; cases hm
    | some q2 =>
      obtain ⟨r3, S4⟩ := q2
      rw [h1] at hm
      dsimp only at hm
      refine ev_callS (N := mJ7_fill_53178) (d' := 1) (bc := 0) (bs := 0) (bc' := 0) (bs' := 0) (as := [.ref 76, .int (-1)]) (rest := []) (dcd tokX6_leastToll rfl) okJ7_fill_53178 inJ7_fill_53178 lk6_62 rfl (by decide) (Nat.le_of_ble_eq_true rfl) (gpJ7_fill_53178_76 x S (-1) _ _ h1) (fun v h' hq hn => ?_)
      obtain ⟨rfl, rfl⟩ := hq
      refine Ev.steps tokX6_leastToll 3 (P := True) (pc' := 13) (lv' := [some (.ref 54), some (.int p1), some (.int p2), none, none, none]) (st' := [.int 0, .ref 77]) (h' := mkS x S4) rfl trivial ?_
      cases h5 : gfJ7_fill_53178_77 x S4 0 with
      | none => rw [h5] at hm; cases hm
      | some q6 =>
        obtain ⟨r7, S8⟩ := q6
        rw [h5] at hm
        dsimp only at hm
        refine ev_callS (N := mJ7_fill_53178) (d' := 1) (bc := 0) (bs := 0) (bc' := 0) (bs' := 0) (as := [.ref 77, .int 0]) (rest := []) (dcd tokX6_leastToll rfl) okJ7_fill_53178 inJ7_fill_53178 lk6_62 rfl (by decide) (Nat.le_of_ble_eq_true rfl) (gpJ7_fill_53178_77 x S4 0 _ _ h5) (fun v h' hq hn => ?_)
        obtain ⟨rfl, rfl⟩ := hq
        refine Ev.steps tokX6_leastToll 3 (P := True) (pc' := 21) (lv' := [some (.ref 54), some (.int p1), some (.int p2), none, none, none]) (st' := [.ref 54, .ref 76]) (h' := mkS x S8) rfl trivial ?_
        cases h9 : gfX6_start_54 x S8 with
        | none => rw [h9] at hm; cases hm
        | some q10 =>
          obtain ⟨r11, S12⟩ := q10
          rw [h9] at hm
          dsimp only at hm
          refine ev_callV (N := mX6_start) (d' := 1) (bc := 0) (bs := 0) (bc' := 0) (bs' := 0) (as := []) (rest := [.ref 76]) (a := 54) (ci := 6) (dcd tokX6_leastToll rfl) okX6_start inX6_start seX6_start lk6_100 rfl (by decide) (Nat.le_of_ble_eq_true rfl) rfl ⟨by decide, rfl⟩ (gpX6_start_54 x S8 _ _ h9) (fun v h' hq hn => ?_)
          obtain ⟨rfl, rfl⟩ := hq
          obtain ⟨o13, hm⟩ := oblk hm
          refine Ev.steps tokX6_leastToll 4 (P := vp_in r11 120 ∧ True) (pc' := 28) (lv' := [some (.ref 54), some (.int p1), some (.int p2), some (.int 0), none, none]) (st' := []) (h' := mkS x (S12.1, (u2 S12.2.1 76 r11.toNatClampNeg 0), S12.2.2.1, S12.2.2.2)) rfl ⟨inb_ok o13, trivial⟩ ?_
          exact lpX6_leastToll_54_28 x  20000 (S12.1, (u2 S12.2.1 76 r11.toNatClampNeg 0), S12.2.2.1, S12.2.2.2) p1 p2 0 _ _ hm
theorem gpX6_leastToll_54 (x : XT) (S : ST) (p1 : Int32) (p2 : Int32) (r : Int32) (S' : ST) (hm : gfX6_leastToll_54 x S p1 p2 = some (r, S')) : Ct mX6_leastToll 6 0 0 [.ref 54, .int p1, .int p2] (mkS x S) (fun v h => v = some (.int r) ∧ h = mkS x S') :=
  Ct.of (lv := [some (.ref 54), some (.int p1), some (.int p2), none, none, none]) rfl rfl rfl (show (_ : Nat) ≤ _ from Nat.le_of_ble_eq_true rfl) (fun G => rfl) (bpX6_leastToll_54_0 x S p1 p2 r S' hm)
set_option maxHeartbeats 4000000 in
set_option maxRecDepth 20000 in
theorem bpX10_cheap_0_0 (x : XT)  (S : ST) (p1 : Int32) (p2 : Int32) (p3 : Int32) (r : Int32) (S' : ST) (hm : bfX10_cheap_0_0 x  S p1 p2 p3 = some (r, S')) : Ev mX10_cheap 7 0 0 0 [some (.ref 0), some (.int p1), some (.int p2), some (.int p3)] [] (mkS x S) (fun v h => v = some (.int r) ∧ h = mkS x S') := by
    unfold bfX10_cheap_0_0 at hm
    refine Ev.steps tokX10_cheap 4 (P := True) (pc' := 4) (lv' := [some (.ref 0), some (.int p1), some (.int p2), some (.int p3)]) (st' := [.int p3, .int p2, .int p1, .ref 0]) (h' := mkS x S) rfl trivial ?_
    cases h1 : gfX10_canSeek_0 x S p1 p2 p3 with
    | none => rw [h1] at hm; cases hm
    | some q2 =>
      obtain ⟨r3, S4⟩ := q2
      rw [h1] at hm
      dsimp only at hm
      refine ev_callV (N := mX10_canSeek) (d' := 2) (bc := 0) (bs := 0) (bc' := 0) (bs' := 0) (as := [.int p1, .int p2, .int p3]) (rest := []) (a := 0) (ci := 10) (dcd tokX10_cheap rfl) okX10_canSeek inX10_canSeek seX10_canSeek lk10_241 rfl (by decide) (Nat.le_of_ble_eq_true rfl) rfl ⟨by decide, rfl⟩ (gpX10_canSeek_0 x S p1 p2 p3 _ _ h1) (fun v h' hq hn => ?_)
      obtain ⟨rfl, rfl⟩ := hq
      refine Ev.steps tokX10_cheap 1 (P := True) (pc' := if ¬ r3 = 0 then 12 else 10) (lv' := [some (.ref 0), some (.int p1), some (.int p2), some (.int p3)]) (st' := []) (h' := mkS x S4) rfl trivial ?_
      refine Ev.ite (fun c5 => ?_) (fun c5 => ?_)
      · rw [if_pos c5] at hm
        refine Ev.steps tokX10_cheap 5 (P := True) (pc' := 21) (lv' := [some (.ref 0), some (.int p1), some (.int p2), some (.int p3)]) (st' := [.int p1, .ref 1, .ref 54]) (h' := mkS x S4) rfl trivial ?_
        cases h6 : gfX6_begin_54_1 x S4 p1 with
        | none => rw [h6] at hm; cases hm
        | some q7 =>
          obtain ⟨r8, S9⟩ := q7
          rw [h6] at hm
          dsimp only at hm
          refine ev_callV (N := mX6_begin) (d' := 2) (bc := 0) (bs := 0) (bc' := 0) (bs' := 0) (as := [.ref 1, .int p1]) (rest := []) (a := 54) (ci := 6) (dcd tokX10_cheap rfl) okX6_begin inX6_begin seX6_begin lk10_245 rfl (by decide) (Nat.le_of_ble_eq_true rfl) rfl ⟨by decide, rfl⟩ (gpX6_begin_54_1 x S4 p1 _ _ h6) (fun v h' hq hn => ?_)
          obtain ⟨rfl, rfl⟩ := hq
          refine Ev.steps tokX10_cheap 4 (P := True) (pc' := 30) (lv' := [some (.ref 0), some (.int p1), some (.int p2), some (.int p3)]) (st' := [.int p3, .int p2, .ref 54]) (h' := mkS x S9) rfl trivial ?_
          cases h10 : gfX6_leastToll_54 x S9 p2 p3 with
          | none => rw [h10] at hm; cases hm
          | some q11 =>
            obtain ⟨r12, S13⟩ := q11
            rw [h10] at hm
            dsimp only at hm
            refine ev_callV (N := mX6_leastToll) (d' := 6) (bc := 0) (bs := 0) (bc' := 0) (bs' := 0) (as := [.int p2, .int p3]) (rest := []) (a := 54) (ci := 6) (dcd tokX10_cheap rfl) okX6_leastToll inX6_leastToll seX6_leastToll lk10_255 rfl (by decide) (Nat.le_of_ble_eq_true rfl) rfl ⟨by decide, rfl⟩ (gpX6_leastToll_54 x S9 p2 p3 _ _ h10) (fun v h' hq hn => ?_)
            obtain ⟨rfl, rfl⟩ := hq
            cases hm
            exact Ev.reti tokX10_cheap rfl rfl ⟨rfl, rfl⟩
      · rw [if_neg c5] at hm
        refine Ev.steps tokX10_cheap 1 (P := True) (pc' := 11) (lv' := [some (.ref 0), some (.int p1), some (.int p2), some (.int p3)]) (st' := [.int (-1)]) (h' := mkS x S4) rfl trivial ?_
        cases hm
        exact Ev.reti tokX10_cheap rfl rfl ⟨rfl, rfl⟩
theorem gpX10_cheap_0 (x : XT) (S : ST) (p1 : Int32) (p2 : Int32) (p3 : Int32) (r : Int32) (S' : ST) (hm : gfX10_cheap_0 x S p1 p2 p3 = some (r, S')) : Ct mX10_cheap 7 0 0 [.ref 0, .int p1, .int p2, .int p3] (mkS x S) (fun v h => v = some (.int r) ∧ h = mkS x S') :=
  Ct.of (lv := [some (.ref 0), some (.int p1), some (.int p2), some (.int p3)]) rfl rfl rfl (show (_ : Nat) ≤ _ from Nat.le_of_ble_eq_true rfl) (fun G => rfl) (bpX10_cheap_0_0 x S p1 p2 p3 r S' hm)
set_option maxHeartbeats 4000000 in
set_option maxRecDepth 20000 in
theorem bpX6_findAll_54_0 (x : XT)  (S : ST)  (r : Unit) (S' : ST) (hm : bfX6_findAll_54_0 x  S  = some (r, S')) : Ev mX6_findAll 6 0 0 0 [some (.ref 54)] [] (mkS x S) (fun v h => v = none ∧ h = mkS x S') := by
    unfold bfX6_findAll_54_0 at hm
    refine Ev.steps tokX6_findAll 3 (P := True) (pc' := 3) (lv' := [some (.ref 54)]) (st' := [.int (-1), .int (-1), .ref 54]) (h' := mkS x S) rfl trivial ?_
    cases h1 : gfX6_find_54 x S (-1) (-1) with
    | none => rw [h1] at hm; cases hm
    | some q2 =>
      obtain ⟨r3, S4⟩ := q2
      rw [h1] at hm
      dsimp only at hm
      refine ev_callV (N := mX6_find) (d' := 5) (bc := 0) (bs := 0) (bc' := 0) (bs' := 0) (as := [.int (-1), .int (-1)]) (rest := []) (a := 54) (ci := 6) (dcd tokX6_findAll rfl) okX6_find inX6_find seX6_find lk6_115 rfl (by decide) (Nat.le_of_ble_eq_true rfl) rfl ⟨by decide, rfl⟩ (gpX6_find_54 x S (-1) (-1) _ _ h1) (fun v h' hq hn => ?_)
      obtain ⟨rfl, rfl⟩ := hq
      refine Ev.steps tokX6_findAll 1 (P := True) (pc' := 7) (lv' := [some (.ref 54)]) (st' := []) (h' := mkS x S4) rfl trivial ?_
      cases hm
      exact Ev.retv tokX6_findAll rfl rfl ⟨rfl, rfl⟩
theorem gpX6_findAll_54 (x : XT) (S : ST)  (r : Unit) (S' : ST) (hm : gfX6_findAll_54 x S  = some (r, S')) : Ct mX6_findAll 6 0 0 [.ref 54] (mkS x S) (fun v h => v = none ∧ h = mkS x S') :=
  Ct.of (lv := [some (.ref 54)]) rfl rfl rfl (show (_ : Nat) ≤ _ from Nat.le_of_ble_eq_true rfl) (fun G => rfl) (bpX6_findAll_54_0 x S  r S' hm)
set_option maxHeartbeats 4000000 in
set_option maxRecDepth 20000 in
theorem bpX6_manyBits_54_35 (x : XT) (k8 : ST → Int32 → Int32 → Int32 → Option (Int32 × ST)) (hk8 : ∀ (S : ST) (v1 : Int32) (v2 : Int32) (v3 : Int32) (r : Int32) (S' : ST), k8 S v1 v2 v3 = some (r, S') → Ev mX6_manyBits 7 0 0 8 [some (.ref 54), some (.int v1), some (.int v2), some (.int v3)] [] (mkS x S) (fun v h => v = some (.int r) ∧ h = mkS x S')) (S : ST) (v1 : Int32) (v2 : Int32) (v3 : Int32) (r : Int32) (S' : ST) (hm : bfX6_manyBits_54_35 x k8 S v1 v2 v3 = some (r, S')) : Ev mX6_manyBits 7 0 0 35 [some (.ref 54), some (.int v1), some (.int v2), some (.int v3)] [] (mkS x S) (fun v h => v = some (.int r) ∧ h = mkS x S') := by
    unfold bfX6_manyBits_54_35 at hm
    refine Ev.steps tokX6_manyBits 2 (P := True) (pc' := 8) (lv' := [some (.ref 54), some (.int v1), some (.int v2), some (.int (v3 + 1))]) (st' := []) (h' := mkS x S) rfl trivial ?_
    exact hk8 S v1 v2 (v3 + 1) _ _ hm
set_option maxHeartbeats 4000000 in
set_option maxRecDepth 20000 in
theorem bpX6_manyBits_54_8 (x : XT) (k8 : ST → Int32 → Int32 → Int32 → Option (Int32 × ST)) (hk8 : ∀ (S : ST) (v1 : Int32) (v2 : Int32) (v3 : Int32) (r : Int32) (S' : ST), k8 S v1 v2 v3 = some (r, S') → Ev mX6_manyBits 7 0 0 8 [some (.ref 54), some (.int v1), some (.int v2), some (.int v3)] [] (mkS x S) (fun v h => v = some (.int r) ∧ h = mkS x S')) (S : ST) (v1 : Int32) (v2 : Int32) (v3 : Int32) (r : Int32) (S' : ST) (hm : bfX6_manyBits_54_8 x k8 S v1 v2 v3 = some (r, S')) : Ev mX6_manyBits 7 0 0 8 [some (.ref 54), some (.int v1), some (.int v2), some (.int v3)] [] (mkS x S) (fun v h => v = some (.int r) ∧ h = mkS x S') := by
    unfold bfX6_manyBits_54_8 at hm
    refine Ev.steps tokX6_manyBits 3 (P := True) (pc' := if 20 ≤ v3 then 41 else 14) (lv' := [some (.ref 54), some (.int v1), some (.int v2), some (.int v3)]) (st' := []) (h' := mkS x S) rfl trivial ?_
    refine Ev.ite (fun c1 => ?_) (fun c1 => ?_)
    · rw [if_pos c1] at hm
      refine Ev.steps tokX6_manyBits 1 (P := True) (pc' := 42) (lv' := [some (.ref 54), some (.int v1), some (.int v2), some (.int v3)]) (st' := [.int v2]) (h' := mkS x S) rfl trivial ?_
      cases hm
      exact Ev.reti tokX6_manyBits rfl rfl ⟨rfl, rfl⟩
    · rw [if_neg c1] at hm
      obtain ⟨o2, hm⟩ := oblk hm
      refine Ev.steps tokX6_manyBits 10 (P := vp_in ((v1 * 20) + v3) 120 ∧ True) (pc' := if (S.2.1 72 (((v1 * 20) + v3).toNatClampNeg)) = (-1) then 35 else 29) (lv' := [some (.ref 54), some (.int v1), some (.int v2), some (.int v3)]) (st' := []) (h' := mkS x S) rfl ⟨inb_ok o2, trivial⟩ ?_
      refine Ev.ite (fun c3 => ?_) (fun c3 => ?_)
      · rw [if_pos c3] at hm
        exact bpX6_manyBits_54_35 x k8 hk8 S v1 v2 v3 _ _ hm
      · rw [if_neg c3] at hm
        refine Ev.steps tokX6_manyBits 6 (P := True) (pc' := 35) (lv' := [some (.ref 54), some (.int v1), some (.int (v2 ||| (1 <<< (v3 &&& 31)))), some (.int v3)]) (st' := []) (h' := mkS x S) rfl trivial ?_
        exact bpX6_manyBits_54_35 x k8 hk8 S v1 (v2 ||| (1 <<< (v3 &&& 31))) v3 _ _ hm
theorem lpX6_manyBits_54_8 (x : XT)  : ∀ (n : Nat) (S : ST) (v1 : Int32) (v2 : Int32) (v3 : Int32) (r : Int32) (S' : ST), lfX6_manyBits_54_8 x  n S v1 v2 v3 = some (r, S') → Ev mX6_manyBits 7 0 0 8 [some (.ref 54), some (.int v1), some (.int v2), some (.int v3)] [] (mkS x S) (fun v h => v = some (.int r) ∧ h = mkS x S')
  | 0, _, _, _, _, _, _, hm => by cases hm
  | n + 1, S, v1, v2, v3, r, S', hm => bpX6_manyBits_54_8 x (lfX6_manyBits_54_8 x  n) (lpX6_manyBits_54_8 x  n) S v1 v2 v3 r S' hm
set_option maxHeartbeats 4000000 in
set_option maxRecDepth 20000 in
theorem bpX6_manyBits_54_0 (x : XT)  (S : ST) (p1 : Int32) (r : Int32) (S' : ST) (hm : bfX6_manyBits_54_0 x  S p1 = some (r, S')) : Ev mX6_manyBits 7 0 0 0 [some (.ref 54), some (.int p1), none, none] [] (mkS x S) (fun v h => v = some (.int r) ∧ h = mkS x S') := by
    unfold bfX6_manyBits_54_0 at hm
    refine Ev.steps tokX6_manyBits 1 (P := True) (pc' := 1) (lv' := [some (.ref 54), some (.int p1), none, none]) (st' := [.ref 54]) (h' := mkS x S) rfl trivial ?_
    cases h1 : gfX6_findAll_54 x S with
    | none => rw [h1] at hm; cases hm
    | some q2 =>
      obtain ⟨r3, S4⟩ := q2
      rw [h1] at hm
      dsimp only at hm
      refine ev_callV (N := mX6_findAll) (d' := 6) (bc := 0) (bs := 0) (bc' := 0) (bs' := 0) (as := []) (rest := []) (a := 54) (ci := 6) (dcd tokX6_manyBits rfl) okX6_findAll inX6_findAll seX6_findAll lk6_118 rfl (by decide) (Nat.le_of_ble_eq_true rfl) rfl ⟨by decide, rfl⟩ (gpX6_findAll_54 x S _ _ h1) (fun v h' hq hn => ?_)
      obtain ⟨rfl, rfl⟩ := hq
      refine Ev.steps tokX6_manyBits 4 (P := True) (pc' := 8) (lv' := [some (.ref 54), some (.int p1), some (.int 0), some (.int 0)]) (st' := []) (h' := mkS x S4) rfl trivial ?_
      exact lpX6_manyBits_54_8 x  20000 S4 p1 0 0 _ _ hm
theorem gpX6_manyBits_54 (x : XT) (S : ST) (p1 : Int32) (r : Int32) (S' : ST) (hm : gfX6_manyBits_54 x S p1 = some (r, S')) : Ct mX6_manyBits 7 0 0 [.ref 54, .int p1] (mkS x S) (fun v h => v = some (.int r) ∧ h = mkS x S') :=
  Ct.of (lv := [some (.ref 54), some (.int p1), none, none]) rfl rfl rfl (show (_ : Nat) ≤ _ from Nat.le_of_ble_eq_true rfl) (fun G => rfl) (bpX6_manyBits_54_0 x S p1 r S' hm)
set_option maxHeartbeats 4000000 in
set_option maxRecDepth 20000 in
theorem bpX10_manys_0_0 (x : XT)  (S : ST) (p1 : Int32) (p2 : Int32) (r : Int32) (S' : ST) (hm : bfX10_manys_0_0 x  S p1 p2 = some (r, S')) : Ev mX10_manys 8 0 0 0 [some (.ref 0), some (.int p1), some (.int p2)] [] (mkS x S) (fun v h => v = some (.int r) ∧ h = mkS x S') := by
    unfold bfX10_manys_0_0 at hm
    refine Ev.steps tokX10_manys 4 (P := True) (pc' := 4) (lv' := [some (.ref 0), some (.int p1), some (.int p2)]) (st' := [.int (-1), .int p2, .int p1, .ref 0]) (h' := mkS x S) rfl trivial ?_
    cases h1 : gfX10_canSeek_0 x S p1 p2 (-1) with
    | none => rw [h1] at hm; cases hm
    | some q2 =>
      obtain ⟨r3, S4⟩ := q2
      rw [h1] at hm
      dsimp only at hm
      refine ev_callV (N := mX10_canSeek) (d' := 2) (bc := 0) (bs := 0) (bc' := 0) (bs' := 0) (as := [.int p1, .int p2, .int (-1)]) (rest := []) (a := 0) (ci := 10) (dcd tokX10_manys rfl) okX10_canSeek inX10_canSeek seX10_canSeek lk10_241 rfl (by decide) (Nat.le_of_ble_eq_true rfl) rfl ⟨by decide, rfl⟩ (gpX10_canSeek_0 x S p1 p2 (-1) _ _ h1) (fun v h' hq hn => ?_)
      obtain ⟨rfl, rfl⟩ := hq
      refine Ev.steps tokX10_manys 1 (P := True) (pc' := if ¬ r3 = 0 then 12 else 10) (lv' := [some (.ref 0), some (.int p1), some (.int p2)]) (st' := []) (h' := mkS x S4) rfl trivial ?_
      refine Ev.ite (fun c5 => ?_) (fun c5 => ?_)
      · rw [if_pos c5] at hm
        refine Ev.steps tokX10_manys 5 (P := True) (pc' := 21) (lv' := [some (.ref 0), some (.int p1), some (.int p2)]) (st' := [.int p1, .ref 1, .ref 54]) (h' := mkS x S4) rfl trivial ?_
        cases h6 : gfX6_begin_54_1 x S4 p1 with
        | none => rw [h6] at hm; cases hm
        | some q7 =>
          obtain ⟨r8, S9⟩ := q7
          rw [h6] at hm
          dsimp only at hm
          refine ev_callV (N := mX6_begin) (d' := 2) (bc := 0) (bs := 0) (bc' := 0) (bs' := 0) (as := [.ref 1, .int p1]) (rest := []) (a := 54) (ci := 6) (dcd tokX10_manys rfl) okX6_begin inX6_begin seX6_begin lk10_245 rfl (by decide) (Nat.le_of_ble_eq_true rfl) rfl ⟨by decide, rfl⟩ (gpX6_begin_54_1 x S4 p1 _ _ h6) (fun v h' hq hn => ?_)
          obtain ⟨rfl, rfl⟩ := hq
          refine Ev.steps tokX10_manys 3 (P := True) (pc' := 29) (lv' := [some (.ref 0), some (.int p1), some (.int p2)]) (st' := [.int p2, .ref 54]) (h' := mkS x S9) rfl trivial ?_
          cases h10 : gfX6_manyBits_54 x S9 p2 with
          | none => rw [h10] at hm; cases hm
          | some q11 =>
            obtain ⟨r12, S13⟩ := q11
            rw [h10] at hm
            dsimp only at hm
            refine ev_callV (N := mX6_manyBits) (d' := 7) (bc := 0) (bs := 0) (bc' := 0) (bs' := 0) (as := [.int p2]) (rest := []) (a := 54) (ci := 6) (dcd tokX10_manys rfl) okX6_manyBits inX6_manyBits seX6_manyBits lk10_258 rfl (by decide) (Nat.le_of_ble_eq_true rfl) rfl ⟨by decide, rfl⟩ (gpX6_manyBits_54 x S9 p2 _ _ h10) (fun v h' hq hn => ?_)
            obtain ⟨rfl, rfl⟩ := hq
            cases hm
            exact Ev.reti tokX10_manys rfl rfl ⟨rfl, rfl⟩
      · rw [if_neg c5] at hm
        refine Ev.steps tokX10_manys 1 (P := True) (pc' := 11) (lv' := [some (.ref 0), some (.int p1), some (.int p2)]) (st' := [.int (-1)]) (h' := mkS x S4) rfl trivial ?_
        cases hm
        exact Ev.reti tokX10_manys rfl rfl ⟨rfl, rfl⟩
theorem gpX10_manys_0 (x : XT) (S : ST) (p1 : Int32) (p2 : Int32) (r : Int32) (S' : ST) (hm : gfX10_manys_0 x S p1 p2 = some (r, S')) : Ct mX10_manys 8 0 0 [.ref 0, .int p1, .int p2] (mkS x S) (fun v h => v = some (.int r) ∧ h = mkS x S') :=
  Ct.of (lv := [some (.ref 0), some (.int p1), some (.int p2)]) rfl rfl rfl (show (_ : Nat) ≤ _ from Nat.le_of_ble_eq_true rfl) (fun G => rfl) (bpX10_manys_0_0 x S p1 p2 r S' hm)
set_option maxHeartbeats 4000000 in
set_option maxRecDepth 20000 in
theorem bpX6_parkBits_54_33 (x : XT) (k8 : ST → Int32 → Int32 → Option (Int32 × ST)) (hk8 : ∀ (S : ST) (v1 : Int32) (v2 : Int32) (r : Int32) (S' : ST), k8 S v1 v2 = some (r, S') → Ev mX6_parkBits 7 0 0 8 [some (.ref 54), some (.int v1), some (.int v2)] [] (mkS x S) (fun v h => v = some (.int r) ∧ h = mkS x S')) (S : ST) (v1 : Int32) (v2 : Int32) (r : Int32) (S' : ST) (hm : bfX6_parkBits_54_33 x k8 S v1 v2 = some (r, S')) : Ev mX6_parkBits 7 0 0 33 [some (.ref 54), some (.int v1), some (.int v2)] [] (mkS x S) (fun v h => v = some (.int r) ∧ h = mkS x S') := by
    unfold bfX6_parkBits_54_33 at hm
    refine Ev.steps tokX6_parkBits 2 (P := True) (pc' := 8) (lv' := [some (.ref 54), some (.int v1), some (.int (v2 + 1))]) (st' := []) (h' := mkS x S) rfl trivial ?_
    exact hk8 S v1 (v2 + 1) _ _ hm
set_option maxHeartbeats 4000000 in
set_option maxRecDepth 20000 in
theorem bpX6_parkBits_54_8 (x : XT) (k8 : ST → Int32 → Int32 → Option (Int32 × ST)) (hk8 : ∀ (S : ST) (v1 : Int32) (v2 : Int32) (r : Int32) (S' : ST), k8 S v1 v2 = some (r, S') → Ev mX6_parkBits 7 0 0 8 [some (.ref 54), some (.int v1), some (.int v2)] [] (mkS x S) (fun v h => v = some (.int r) ∧ h = mkS x S')) (S : ST) (v1 : Int32) (v2 : Int32) (r : Int32) (S' : ST) (hm : bfX6_parkBits_54_8 x k8 S v1 v2 = some (r, S')) : Ev mX6_parkBits 7 0 0 8 [some (.ref 54), some (.int v1), some (.int v2)] [] (mkS x S) (fun v h => v = some (.int r) ∧ h = mkS x S') := by
    unfold bfX6_parkBits_54_8 at hm
    refine Ev.steps tokX6_parkBits 3 (P := True) (pc' := if 120 ≤ v2 then 39 else 14) (lv' := [some (.ref 54), some (.int v1), some (.int v2)]) (st' := []) (h' := mkS x S) rfl trivial ?_
    refine Ev.ite (fun c1 => ?_) (fun c1 => ?_)
    · rw [if_pos c1] at hm
      refine Ev.steps tokX6_parkBits 1 (P := True) (pc' := 40) (lv' := [some (.ref 54), some (.int v1), some (.int v2)]) (st' := [.int v1]) (h' := mkS x S) rfl trivial ?_
      cases hm
      exact Ev.reti tokX6_parkBits rfl rfl ⟨rfl, rfl⟩
    · rw [if_neg c1] at hm
      obtain ⟨o2, hm⟩ := oblk hm
      refine Ev.steps tokX6_parkBits 6 (P := vp_in v2 120 ∧ True) (pc' := if (S.2.1 72 v2.toNatClampNeg) = (-1) then 33 else 24) (lv' := [some (.ref 54), some (.int v1), some (.int v2)]) (st' := []) (h' := mkS x S) rfl ⟨inb_ok o2, trivial⟩ ?_
      refine Ev.ite (fun c3 => ?_) (fun c3 => ?_)
      · rw [if_pos c3] at hm
        exact bpX6_parkBits_54_33 x k8 hk8 S v1 v2 _ _ hm
      · rw [if_neg c3] at hm
        refine Ev.steps tokX6_parkBits 8 (P := ¬ 20 = 0 ∧ True) (pc' := 33) (lv' := [some (.ref 54), some (.int (v1 ||| (1 <<< ((v2 / 20) &&& 31)))), some (.int v2)]) (st' := []) (h' := mkS x S) rfl ⟨(by decide), trivial⟩ ?_
        exact bpX6_parkBits_54_33 x k8 hk8 S (v1 ||| (1 <<< ((v2 / 20) &&& 31))) v2 _ _ hm
theorem lpX6_parkBits_54_8 (x : XT)  : ∀ (n : Nat) (S : ST) (v1 : Int32) (v2 : Int32) (r : Int32) (S' : ST), lfX6_parkBits_54_8 x  n S v1 v2 = some (r, S') → Ev mX6_parkBits 7 0 0 8 [some (.ref 54), some (.int v1), some (.int v2)] [] (mkS x S) (fun v h => v = some (.int r) ∧ h = mkS x S')
  | 0, _, _, _, _, _, hm => by cases hm
  | n + 1, S, v1, v2, r, S', hm => bpX6_parkBits_54_8 x (lfX6_parkBits_54_8 x  n) (lpX6_parkBits_54_8 x  n) S v1 v2 r S' hm
set_option maxHeartbeats 4000000 in
set_option maxRecDepth 20000 in
theorem bpX6_parkBits_54_0 (x : XT)  (S : ST)  (r : Int32) (S' : ST) (hm : bfX6_parkBits_54_0 x  S  = some (r, S')) : Ev mX6_parkBits 7 0 0 0 [some (.ref 54), none, none] [] (mkS x S) (fun v h => v = some (.int r) ∧ h = mkS x S') := by
    unfold bfX6_parkBits_54_0 at hm
    refine Ev.steps tokX6_parkBits 1 (P := True) (pc' := 1) (lv' := [some (.ref 54), none, none]) (st' := [.ref 54]) (h' := mkS x S) rfl trivial ?_
    cases h1 : gfX6_findAll_54 x S with
    | none => rw [h1] at hm; cases hm
    | some q2 =>
      obtain ⟨r3, S4⟩ := q2
      rw [h1] at hm
      dsimp only at hm
      refine ev_callV (N := mX6_findAll) (d' := 6) (bc := 0) (bs := 0) (bc' := 0) (bs' := 0) (as := []) (rest := []) (a := 54) (ci := 6) (dcd tokX6_parkBits rfl) okX6_findAll inX6_findAll seX6_findAll lk6_118 rfl (by decide) (Nat.le_of_ble_eq_true rfl) rfl ⟨by decide, rfl⟩ (gpX6_findAll_54 x S _ _ h1) (fun v h' hq hn => ?_)
      obtain ⟨rfl, rfl⟩ := hq
      refine Ev.steps tokX6_parkBits 4 (P := True) (pc' := 8) (lv' := [some (.ref 54), some (.int 0), some (.int 0)]) (st' := []) (h' := mkS x S4) rfl trivial ?_
      exact lpX6_parkBits_54_8 x  20000 S4 0 0 _ _ hm
theorem gpX6_parkBits_54 (x : XT) (S : ST)  (r : Int32) (S' : ST) (hm : gfX6_parkBits_54 x S  = some (r, S')) : Ct mX6_parkBits 7 0 0 [.ref 54] (mkS x S) (fun v h => v = some (.int r) ∧ h = mkS x S') :=
  Ct.of (lv := [some (.ref 54), none, none]) rfl rfl rfl (show (_ : Nat) ≤ _ from Nat.le_of_ble_eq_true rfl) (fun G => rfl) (bpX6_parkBits_54_0 x S  r S' hm)
set_option maxHeartbeats 4000000 in
set_option maxRecDepth 20000 in
theorem bpX10_reach_0_0 (x : XT)  (S : ST) (p1 : Int32) (r : Int32) (S' : ST) (hm : bfX10_reach_0_0 x  S p1 = some (r, S')) : Ev mX10_reach 8 0 0 0 [some (.ref 0), some (.int p1)] [] (mkS x S) (fun v h => v = some (.int r) ∧ h = mkS x S') := by
    unfold bfX10_reach_0_0 at hm
    refine Ev.steps tokX10_reach 3 (P := True) (pc' := 5) (lv' := [some (.ref 0), some (.int p1)]) (st' := [.int p1, .ref 1]) (h' := mkS x S) rfl trivial ?_
    cases h1 : gfX7_hasGoer_1 x S p1 with
    | none => rw [h1] at hm; cases hm
    | some q2 =>
      obtain ⟨r3, S4⟩ := q2
      rw [h1] at hm
      dsimp only at hm
      refine ev_callV (N := mX7_hasGoer) (d' := 1) (bc := 0) (bs := 0) (bc' := 0) (bs' := 0) (as := [.int p1]) (rest := []) (a := 1) (ci := 7) (dcd tokX10_reach rfl) okX7_hasGoer inX7_hasGoer seX7_hasGoer lk10_134 rfl (by decide) (Nat.le_of_ble_eq_true rfl) rfl ⟨by decide, rfl⟩ (gpX7_hasGoer_1 x S p1 _ _ h1) (fun v h' hq hn => ?_)
      obtain ⟨rfl, rfl⟩ := hq
      refine Ev.steps tokX10_reach 1 (P := True) (pc' := if ¬ r3 = 0 then 13 else 11) (lv' := [some (.ref 0), some (.int p1)]) (st' := []) (h' := mkS x S4) rfl trivial ?_
      refine Ev.ite (fun c5 => ?_) (fun c5 => ?_)
      · rw [if_pos c5] at hm
        refine Ev.steps tokX10_reach 5 (P := True) (pc' := 22) (lv' := [some (.ref 0), some (.int p1)]) (st' := [.int p1, .ref 1, .ref 54]) (h' := mkS x S4) rfl trivial ?_
        cases h6 : gfX6_begin_54_1 x S4 p1 with
        | none => rw [h6] at hm; cases hm
        | some q7 =>
          obtain ⟨r8, S9⟩ := q7
          rw [h6] at hm
          dsimp only at hm
          refine ev_callV (N := mX6_begin) (d' := 2) (bc := 0) (bs := 0) (bc' := 0) (bs' := 0) (as := [.ref 1, .int p1]) (rest := []) (a := 54) (ci := 6) (dcd tokX10_reach rfl) okX6_begin inX6_begin seX6_begin lk10_245 rfl (by decide) (Nat.le_of_ble_eq_true rfl) rfl ⟨by decide, rfl⟩ (gpX6_begin_54_1 x S4 p1 _ _ h6) (fun v h' hq hn => ?_)
          obtain ⟨rfl, rfl⟩ := hq
          refine Ev.steps tokX10_reach 2 (P := True) (pc' := 29) (lv' := [some (.ref 0), some (.int p1)]) (st' := [.ref 54]) (h' := mkS x S9) rfl trivial ?_
          cases h10 : gfX6_parkBits_54 x S9 with
          | none => rw [h10] at hm; cases hm
          | some q11 =>
            obtain ⟨r12, S13⟩ := q11
            rw [h10] at hm
            dsimp only at hm
            refine ev_callV (N := mX6_parkBits) (d' := 7) (bc := 0) (bs := 0) (bc' := 0) (bs' := 0) (as := []) (rest := []) (a := 54) (ci := 6) (dcd tokX10_reach rfl) okX6_parkBits inX6_parkBits seX6_parkBits lk10_261 rfl (by decide) (Nat.le_of_ble_eq_true rfl) rfl ⟨by decide, rfl⟩ (gpX6_parkBits_54 x S9 _ _ h10) (fun v h' hq hn => ?_)
            obtain ⟨rfl, rfl⟩ := hq
            cases hm
            exact Ev.reti tokX10_reach rfl rfl ⟨rfl, rfl⟩
      · rw [if_neg c5] at hm
        refine Ev.steps tokX10_reach 1 (P := True) (pc' := 12) (lv' := [some (.ref 0), some (.int p1)]) (st' := [.int (-1)]) (h' := mkS x S4) rfl trivial ?_
        cases hm
        exact Ev.reti tokX10_reach rfl rfl ⟨rfl, rfl⟩
theorem gpX10_reach_0 (x : XT) (S : ST) (p1 : Int32) (r : Int32) (S' : ST) (hm : gfX10_reach_0 x S p1 = some (r, S')) : Ct mX10_reach 8 0 0 [.ref 0, .int p1] (mkS x S) (fun v h => v = some (.int r) ∧ h = mkS x S') :=
  Ct.of (lv := [some (.ref 0), some (.int p1)]) rfl rfl rfl (show (_ : Nat) ≤ _ from Nat.le_of_ble_eq_true rfl) (fun G => rfl) (bpX10_reach_0_0 x S p1 r S' hm)
set_option maxHeartbeats 4000000 in
set_option maxRecDepth 20000 in
theorem bpX6_flowFrom_54_136 (x : XT) (k97 : ST → Int32 → Int64 → Int32 → Option (Unit × ST)) (hk97 : ∀ (S : ST) (v1 : Int32) (v4 : Int64) (v6 : Int32) (r : Unit) (S' : ST), k97 S v1 v4 v6 = some (r, S') → Ev mX6_flowFrom 5 0 0 97 [some (.ref 54), some (.int v1), none, none, some (.long v4), none, some (.int v6), none] [] (mkS x S) (fun v h => v = none ∧ h = mkS x S')) (S : ST) (v1 : Int32) (v4 : Int64) (v6 : Int32) (r : Unit) (S' : ST) (hm : bfX6_flowFrom_54_136 x k97 S v1 v4 v6 = some (r, S')) : Ev mX6_flowFrom 5 0 0 136 [some (.ref 54), some (.int v1), none, none, some (.long v4), none, some (.int v6), none] [] (mkS x S) (fun v h => v = none ∧ h = mkS x S') := by
    unfold bfX6_flowFrom_54_136 at hm
    refine Ev.steps tokX6_flowFrom 2 (P := True) (pc' := 97) (lv' := [some (.ref 54), some (.int v1), none, none, some (.long v4), none, some (.int (v6 + 1)), none]) (st' := []) (h' := mkS x S) rfl trivial ?_
    exact hk97 S v1 v4 (v6 + 1) _ _ hm
set_option maxHeartbeats 4000000 in
set_option maxRecDepth 20000 in
theorem bpX6_flowFrom_54_97 (x : XT) (k97 : ST → Int32 → Int64 → Int32 → Option (Unit × ST)) (hk97 : ∀ (S : ST) (v1 : Int32) (v4 : Int64) (v6 : Int32) (r : Unit) (S' : ST), k97 S v1 v4 v6 = some (r, S') → Ev mX6_flowFrom 5 0 0 97 [some (.ref 54), some (.int v1), none, none, some (.long v4), none, some (.int v6), none] [] (mkS x S) (fun v h => v = none ∧ h = mkS x S')) (S : ST) (v1 : Int32) (v4 : Int64) (v6 : Int32) (r : Unit) (S' : ST) (hm : bfX6_flowFrom_54_97 x k97 S v1 v4 v6 = some (r, S')) : Ev mX6_flowFrom 5 0 0 97 [some (.ref 54), some (.int v1), none, none, some (.long v4), none, some (.int v6), none] [] (mkS x S) (fun v h => v = none ∧ h = mkS x S') := by
    unfold bfX6_flowFrom_54_97 at hm
    refine Ev.steps tokX6_flowFrom 5 (P := True) (pc' := if (S.1 55 0) ≤ v6 then 142 else 109) (lv' := [some (.ref 54), some (.int v1), none, none, some (.long v4), none, some (.int v6), none]) (st' := []) (h' := mkS x S) rfl trivial ?_
    refine Ev.ite (fun c1 => ?_) (fun c1 => ?_)
    · rw [if_pos c1] at hm
      cases hm
      exact Ev.retv tokX6_flowFrom rfl rfl ⟨rfl, rfl⟩
    · rw [if_neg c1] at hm
      refine Ev.steps tokX6_flowFrom 3 (P := True) (pc' := 113) (lv' := [some (.ref 54), some (.int v1), none, none, some (.long v4), none, some (.int v6), none]) (st' := [.int v1, .int v6, .ref 54]) (h' := mkS x S) rfl trivial ?_
      cases h2 : gfX6_behind_54 x S v6 v1 with
      | none => rw [h2] at hm; cases hm
      | some q3 =>
        obtain ⟨r4, S5⟩ := q3
        rw [h2] at hm
        dsimp only at hm
        refine ev_callV (N := mX6_behind) (d' := 4) (bc := 0) (bs := 0) (bc' := 0) (bs' := 0) (as := [.int v6, .int v1]) (rest := []) (a := 54) (ci := 6) (dcd tokX6_flowFrom rfl) okX6_behind inX6_behind seX6_behind lk6_111 rfl (by decide) (Nat.le_of_ble_eq_true rfl) rfl ⟨by decide, rfl⟩ (gpX6_behind_54 x S v6 v1 _ _ h2) (fun v h' hq hn => ?_)
        obtain ⟨rfl, rfl⟩ := hq
        refine Ev.steps tokX6_flowFrom 4 (P := True) (pc' := if r4 = (-1) then 136 else 124) (lv' := [some (.ref 54), some (.int v1), none, none, some (.long v4), none, some (.int v6), some (.int r4)]) (st' := []) (h' := mkS x S5) rfl trivial ?_
        refine Ev.ite (fun c6 => ?_) (fun c6 => ?_)
        · rw [if_pos c6] at hm
          refine Ev.fgt (lv' := [some (.ref 54), some (.int v1), none, none, some (.long v4), none, some (.int v6), none]) ⟨rfl, rfl, rfl, rfl, trivial⟩ ?_
          exact bpX6_flowFrom_54_136 x k97 hk97 S5 v1 v4 v6 _ _ hm
        · rw [if_neg c6] at hm
          obtain ⟨o7, hm⟩ := oblk hm
          obtain ⟨o8, hm⟩ := oblk hm
          refine Ev.steps tokX6_flowFrom 8 (P := vp_in r4 120 ∧ vp_in r4 120 ∧ True) (pc' := 136) (lv' := [some (.ref 54), some (.int v1), none, none, some (.long v4), none, some (.int v6), some (.int r4)]) (st' := []) (h' := mkS x (S5.1, S5.2.1, (u2 S5.2.2.1 79 r4.toNatClampNeg ((S5.2.2.1 79 r4.toNatClampNeg) + v4)), S5.2.2.2)) rfl ⟨inb_ok o7, inb_ok o8, trivial⟩ ?_
          refine Ev.fgt (lv' := [some (.ref 54), some (.int v1), none, none, some (.long v4), none, some (.int v6), none]) ⟨rfl, rfl, rfl, rfl, trivial⟩ ?_
          exact bpX6_flowFrom_54_136 x k97 hk97 (S5.1, S5.2.1, (u2 S5.2.2.1 79 r4.toNatClampNeg ((S5.2.2.1 79 r4.toNatClampNeg) + v4)), S5.2.2.2) v1 v4 v6 _ _ hm
theorem lpX6_flowFrom_54_97 (x : XT)  : ∀ (n : Nat) (S : ST) (v1 : Int32) (v4 : Int64) (v6 : Int32) (r : Unit) (S' : ST), lfX6_flowFrom_54_97 x  n S v1 v4 v6 = some (r, S') → Ev mX6_flowFrom 5 0 0 97 [some (.ref 54), some (.int v1), none, none, some (.long v4), none, some (.int v6), none] [] (mkS x S) (fun v h => v = none ∧ h = mkS x S')
  | 0, _, _, _, _, _, _, hm => by cases hm
  | n + 1, S, v1, v4, v6, r, S', hm => bpX6_flowFrom_54_97 x (lfX6_flowFrom_54_97 x  n) (lpX6_flowFrom_54_97 x  n) S v1 v4 v6 r S' hm
set_option maxHeartbeats 4000000 in
set_option maxRecDepth 20000 in
theorem bpX6_flowFrom_54_92 (x : XT)  (S : ST) (v1 : Int32) (t0 : Int64) (r : Unit) (S' : ST) (hm : bfX6_flowFrom_54_92 x  S v1 t0 = some (r, S')) : Ev mX6_flowFrom 5 0 0 92 [some (.ref 54), some (.int v1), none, none, none, none, none, none] [.long t0] (mkS x S) (fun v h => v = none ∧ h = mkS x S') := by
    unfold bfX6_flowFrom_54_92 at hm
    refine Ev.steps tokX6_flowFrom 3 (P := True) (pc' := 97) (lv' := [some (.ref 54), some (.int v1), none, none, some (.long t0), none, some (.int 0), none]) (st' := []) (h' := mkS x S) rfl trivial ?_
    exact lpX6_flowFrom_54_97 x  20000 S v1 t0 0 _ _ hm
set_option maxHeartbeats 4000000 in
set_option maxRecDepth 20000 in
theorem bpX6_flowFrom_54_67 (x : XT)  (S : ST) (t1 : Int32) (t2 : Int64) (t3 : Int64) (r : Unit) (S' : ST) (hm : bfX6_flowFrom_54_67 x  S t1 t2 t3 = some (r, S')) : Ev mX6_flowFrom 5 0 0 67 [none, none, none, none, none, none, none, none] [.long t3, .long t2, .int t1, .ref 79] (mkS x S) (fun v h => v = none ∧ h = mkS x S') := by
    unfold bfX6_flowFrom_54_67 at hm
    obtain ⟨o1, hm⟩ := oblk hm
    refine Ev.steps tokX6_flowFrom 2 (P := vp_in t1 120 ∧ True) (pc' := 69) (lv' := [none, none, none, none, none, none, none, none]) (st' := []) (h' := mkS x (S.1, S.2.1, (u2 S.2.2.1 79 t1.toNatClampNeg (t2 + t3)), S.2.2.2)) rfl ⟨inb_ok o1, trivial⟩ ?_
    cases hm
    exact Ev.retv tokX6_flowFrom rfl rfl ⟨rfl, rfl⟩
set_option maxHeartbeats 4000000 in
set_option maxRecDepth 20000 in
theorem bpX6_flowFrom_54_34 (x : XT) (k5 : ST → Int32 → Int32 → Int32 → Int32 → Option (Unit × ST)) (hk5 : ∀ (S : ST) (v1 : Int32) (v2 : Int32) (v3 : Int32) (v4 : Int32) (r : Unit) (S' : ST), k5 S v1 v2 v3 v4 = some (r, S') → Ev mX6_flowFrom 5 0 0 5 [some (.ref 54), some (.int v1), some (.int v2), some (.int v3), some (.int v4), none, none, none] [] (mkS x S) (fun v h => v = none ∧ h = mkS x S')) (S : ST) (v1 : Int32) (v2 : Int32) (v4 : Int32) (t0 : Int32) (t1 : Int32) (r : Unit) (S' : ST) (hm : bfX6_flowFrom_54_34 x k5 S v1 v2 v4 t0 t1 = some (r, S')) : Ev mX6_flowFrom 5 0 0 34 [some (.ref 54), some (.int v1), some (.int v2), none, some (.int v4), none, none, none] [.int t1, .int t0] (mkS x S) (fun v h => v = none ∧ h = mkS x S') := by
    unfold bfX6_flowFrom_54_34 at hm
    refine Ev.steps tokX6_flowFrom 4 (P := True) (pc' := 5) (lv' := [some (.ref 54), some (.int v1), some (.int v2), some (.int (t0 + t1)), some (.int (v4 + 1)), none, none, none]) (st' := []) (h' := mkS x S) rfl trivial ?_
    exact hk5 S v1 v2 (t0 + t1) (v4 + 1) _ _ hm
set_option maxHeartbeats 4000000 in
set_option maxRecDepth 20000 in
theorem bpX6_flowFrom_54_5 (x : XT) (k5 : ST → Int32 → Int32 → Int32 → Int32 → Option (Unit × ST)) (hk5 : ∀ (S : ST) (v1 : Int32) (v2 : Int32) (v3 : Int32) (v4 : Int32) (r : Unit) (S' : ST), k5 S v1 v2 v3 v4 = some (r, S') → Ev mX6_flowFrom 5 0 0 5 [some (.ref 54), some (.int v1), some (.int v2), some (.int v3), some (.int v4), none, none, none] [] (mkS x S) (fun v h => v = none ∧ h = mkS x S')) (S : ST) (v1 : Int32) (v2 : Int32) (v3 : Int32) (v4 : Int32) (r : Unit) (S' : ST) (hm : bfX6_flowFrom_54_5 x k5 S v1 v2 v3 v4 = some (r, S')) : Ev mX6_flowFrom 5 0 0 5 [some (.ref 54), some (.int v1), some (.int v2), some (.int v3), some (.int v4), none, none, none] [] (mkS x S) (fun v h => v = none ∧ h = mkS x S') := by
    unfold bfX6_flowFrom_54_5 at hm
    refine Ev.steps tokX6_flowFrom 5 (P := True) (pc' := if (S.1 55 0) ≤ v4 then 42 else 17) (lv' := [some (.ref 54), some (.int v1), some (.int v2), some (.int v3), some (.int v4), none, none, none]) (st' := []) (h' := mkS x S) rfl trivial ?_
    refine Ev.ite (fun c1 => ?_) (fun c1 => ?_)
    · rw [if_pos c1] at hm
      refine Ev.steps tokX6_flowFrom 2 (P := True) (pc' := if ¬ v3 = 0 then 70 else 46) (lv' := [some (.ref 54), some (.int v1), some (.int v2), some (.int v3), some (.int v4), none, none, none]) (st' := []) (h' := mkS x S) rfl trivial ?_
      refine Ev.ite (fun c2 => ?_) (fun c2 => ?_)
      · rw [if_pos c2] at hm
        refine Ev.steps tokX6_flowFrom 2 (P := True) (pc' := if v2 = 0 then 86 else 74) (lv' := [some (.ref 54), some (.int v1), some (.int v2), some (.int v3), some (.int v4), none, none, none]) (st' := []) (h' := mkS x S) rfl trivial ?_
        refine Ev.ite (fun c3 => ?_) (fun c3 => ?_)
        · rw [if_pos c3] at hm
          obtain ⟨o4, hm⟩ := oblk hm
          refine Ev.steps tokX6_flowFrom 4 (P := vp_in v1 120 ∧ True) (pc' := 92) (lv' := [some (.ref 54), some (.int v1), some (.int v2), some (.int v3), some (.int v4), none, none, none]) (st' := [.long (S.2.2.1 78 v1.toNatClampNeg)]) (h' := mkS x S) rfl ⟨inb_ok o4, trivial⟩ ?_
          refine Ev.fgt (lv' := [some (.ref 54), some (.int v1), none, none, none, none, none, none]) ⟨rfl, rfl, trivial⟩ ?_
          exact bpX6_flowFrom_54_92 x S v1 (S.2.2.1 78 v1.toNatClampNeg) _ _ hm
        · rw [if_neg c3] at hm
          obtain ⟨o5, hm⟩ := oblk hm
          obtain ⟨o6, hm⟩ := oblk hm
          refine Ev.steps tokX6_flowFrom 8 (P := vp_in v1 120 ∧ ¬ v3.toInt64 = 0 ∧ True) (pc' := 92) (lv' := [some (.ref 54), some (.int v1), some (.int v2), some (.int v3), some (.int v4), none, none, none]) (st' := [.long ((S.2.2.1 78 v1.toNatClampNeg) / v3.toInt64)]) (h' := mkS x S) rfl ⟨inb_ok o5, nzl_ok o6, trivial⟩ ?_
          refine Ev.fgt (lv' := [some (.ref 54), some (.int v1), none, none, none, none, none, none]) ⟨rfl, rfl, trivial⟩ ?_
          exact bpX6_flowFrom_54_92 x S v1 ((S.2.2.1 78 v1.toNatClampNeg) / v3.toInt64) _ _ hm
      · rw [if_neg c2] at hm
        obtain ⟨o7, hm⟩ := oblk hm
        refine Ev.steps tokX6_flowFrom 7 (P := vp_in v1 120 ∧ True) (pc' := if v2 = 0 then 66 else 57) (lv' := [some (.ref 54), some (.int v1), some (.int v2), some (.int v3), some (.int v4), none, none, none]) (st' := [.long (S.2.2.1 79 v1.toNatClampNeg), .int v1, .ref 79]) (h' := mkS x S) rfl ⟨inb_ok o7, trivial⟩ ?_
        refine Ev.ite (fun c8 => ?_) (fun c8 => ?_)
        · rw [if_pos c8] at hm
          refine Ev.steps tokX6_flowFrom 1 (P := True) (pc' := 67) (lv' := [some (.ref 54), some (.int v1), some (.int v2), some (.int v3), some (.int v4), none, none, none]) (st' := [.long 0, .long (S.2.2.1 79 v1.toNatClampNeg), .int v1, .ref 79]) (h' := mkS x S) rfl trivial ?_
          refine Ev.fgt (lv' := [none, none, none, none, none, none, none, none]) trivial ?_
          exact bpX6_flowFrom_54_67 x S v1 (S.2.2.1 79 v1.toNatClampNeg) 0 _ _ hm
        · rw [if_neg c8] at hm
          obtain ⟨o9, hm⟩ := oblk hm
          refine Ev.steps tokX6_flowFrom 5 (P := vp_in v1 120 ∧ True) (pc' := 67) (lv' := [some (.ref 54), some (.int v1), some (.int v2), some (.int v3), some (.int v4), none, none, none]) (st' := [.long (S.2.2.1 78 v1.toNatClampNeg), .long (S.2.2.1 79 v1.toNatClampNeg), .int v1, .ref 79]) (h' := mkS x S) rfl ⟨inb_ok o9, trivial⟩ ?_
          refine Ev.fgt (lv' := [none, none, none, none, none, none, none, none]) trivial ?_
          exact bpX6_flowFrom_54_67 x S v1 (S.2.2.1 79 v1.toNatClampNeg) (S.2.2.1 78 v1.toNatClampNeg) _ _ hm
    · rw [if_neg c1] at hm
      refine Ev.steps tokX6_flowFrom 4 (P := True) (pc' := 22) (lv' := [some (.ref 54), some (.int v1), some (.int v2), some (.int v3), some (.int v4), none, none, none]) (st' := [.int v1, .int v4, .ref 54, .int v3]) (h' := mkS x S) rfl trivial ?_
      cases h10 : gfX6_behind_54 x S v4 v1 with
      | none => rw [h10] at hm; cases hm
      | some q11 =>
        obtain ⟨r12, S13⟩ := q11
        rw [h10] at hm
        dsimp only at hm
        refine ev_callV (N := mX6_behind) (d' := 4) (bc := 0) (bs := 0) (bc' := 0) (bs' := 0) (as := [.int v4, .int v1]) (rest := [.int v3]) (a := 54) (ci := 6) (dcd tokX6_flowFrom rfl) okX6_behind inX6_behind seX6_behind lk6_111 rfl (by decide) (Nat.le_of_ble_eq_true rfl) rfl ⟨by decide, rfl⟩ (gpX6_behind_54 x S v4 v1 _ _ h10) (fun v h' hq hn => ?_)
        obtain ⟨rfl, rfl⟩ := hq
        refine Ev.steps tokX6_flowFrom 2 (P := True) (pc' := if ¬ r12 = (-1) then 33 else 29) (lv' := [some (.ref 54), some (.int v1), some (.int v2), some (.int v3), some (.int v4), none, none, none]) (st' := [.int v3]) (h' := mkS x S13) rfl trivial ?_
        refine Ev.ite (fun c14 => ?_) (fun c14 => ?_)
        · rw [if_pos c14] at hm
          refine Ev.steps tokX6_flowFrom 1 (P := True) (pc' := 34) (lv' := [some (.ref 54), some (.int v1), some (.int v2), some (.int v3), some (.int v4), none, none, none]) (st' := [.int 1, .int v3]) (h' := mkS x S13) rfl trivial ?_
          refine Ev.fgt (lv' := [some (.ref 54), some (.int v1), some (.int v2), none, some (.int v4), none, none, none]) ⟨rfl, rfl, rfl, rfl, trivial⟩ ?_
          exact bpX6_flowFrom_54_34 x k5 hk5 S13 v1 v2 v4 v3 1 _ _ hm
        · rw [if_neg c14] at hm
          refine Ev.steps tokX6_flowFrom 2 (P := True) (pc' := 34) (lv' := [some (.ref 54), some (.int v1), some (.int v2), some (.int v3), some (.int v4), none, none, none]) (st' := [.int 0, .int v3]) (h' := mkS x S13) rfl trivial ?_
          refine Ev.fgt (lv' := [some (.ref 54), some (.int v1), some (.int v2), none, some (.int v4), none, none, none]) ⟨rfl, rfl, rfl, rfl, trivial⟩ ?_
          exact bpX6_flowFrom_54_34 x k5 hk5 S13 v1 v2 v4 v3 0 _ _ hm
theorem lpX6_flowFrom_54_5 (x : XT)  : ∀ (n : Nat) (S : ST) (v1 : Int32) (v2 : Int32) (v3 : Int32) (v4 : Int32) (r : Unit) (S' : ST), lfX6_flowFrom_54_5 x  n S v1 v2 v3 v4 = some (r, S') → Ev mX6_flowFrom 5 0 0 5 [some (.ref 54), some (.int v1), some (.int v2), some (.int v3), some (.int v4), none, none, none] [] (mkS x S) (fun v h => v = none ∧ h = mkS x S')
  | 0, _, _, _, _, _, _, _, hm => by cases hm
  | n + 1, S, v1, v2, v3, v4, r, S', hm => bpX6_flowFrom_54_5 x (lfX6_flowFrom_54_5 x  n) (lpX6_flowFrom_54_5 x  n) S v1 v2 v3 v4 r S' hm
set_option maxHeartbeats 4000000 in
set_option maxRecDepth 20000 in
theorem bpX6_flowFrom_54_0 (x : XT)  (S : ST) (p1 : Int32) (p2 : Int32) (r : Unit) (S' : ST) (hm : bfX6_flowFrom_54_0 x  S p1 p2 = some (r, S')) : Ev mX6_flowFrom 5 0 0 0 [some (.ref 54), some (.int p1), some (.int p2), none, none, none, none, none] [] (mkS x S) (fun v h => v = none ∧ h = mkS x S') := by
    unfold bfX6_flowFrom_54_0 at hm
    refine Ev.steps tokX6_flowFrom 4 (P := True) (pc' := 5) (lv' := [some (.ref 54), some (.int p1), some (.int p2), some (.int 0), some (.int 0), none, none, none]) (st' := []) (h' := mkS x S) rfl trivial ?_
    exact lpX6_flowFrom_54_5 x  20000 S p1 p2 0 0 _ _ hm
theorem gpX6_flowFrom_54 (x : XT) (S : ST) (p1 : Int32) (p2 : Int32) (r : Unit) (S' : ST) (hm : gfX6_flowFrom_54 x S p1 p2 = some (r, S')) : Ct mX6_flowFrom 5 0 0 [.ref 54, .int p1, .int p2] (mkS x S) (fun v h => v = none ∧ h = mkS x S') :=
  Ct.of (lv := [some (.ref 54), some (.int p1), some (.int p2), none, none, none, none, none]) rfl rfl rfl (show (_ : Nat) ≤ _ from Nat.le_of_ble_eq_true rfl) (fun G => rfl) (bpX6_flowFrom_54_0 x S p1 p2 r S' hm)
set_option maxHeartbeats 4000000 in
set_option maxRecDepth 20000 in
theorem bpJ7_fill_d0a16_79_6 (x : XT) (k6 : ST → Int64 → Int32 → Int32 → Option (Unit × ST)) (hk6 : ∀ (S : ST) (v1 : Int64) (v3 : Int32) (v4 : Int32) (r : Unit) (S' : ST), k6 S v1 v3 v4 = some (r, S') → Ev mJ7_fill_d0a16 1 0 0 6 [some (.ref 79), some (.long v1), none, some (.int v3), some (.int v4)] [] (mkS x S) (fun v h => v = none ∧ h = mkS x S')) (S : ST) (v1 : Int64) (v3 : Int32) (v4 : Int32) (r : Unit) (S' : ST) (hm : bfJ7_fill_d0a16_79_6 x k6 S v1 v3 v4 = some (r, S')) : Ev mJ7_fill_d0a16 1 0 0 6 [some (.ref 79), some (.long v1), none, some (.int v3), some (.int v4)] [] (mkS x S) (fun v h => v = none ∧ h = mkS x S') := by
    unfold bfJ7_fill_d0a16_79_6 at hm
    refine Ev.steps tokJ7_fill_d0a16 3 (P := True) (pc' := if v4 ≤ v3 then 22 else 12) (lv' := [some (.ref 79), some (.long v1), none, some (.int v3), some (.int v4)]) (st' := []) (h' := mkS x S) rfl trivial ?_
    refine Ev.ite (fun c1 => ?_) (fun c1 => ?_)
    · rw [if_pos c1] at hm
      cases hm
      exact Ev.retv tokJ7_fill_d0a16 rfl rfl ⟨rfl, rfl⟩
    · rw [if_neg c1] at hm
      obtain ⟨o2, hm⟩ := oblk hm
      refine Ev.steps tokJ7_fill_d0a16 6 (P := vp_in v3 120 ∧ True) (pc' := 6) (lv' := [some (.ref 79), some (.long v1), none, some (.int (v3 + 1)), some (.int v4)]) (st' := []) (h' := mkS x (S.1, S.2.1, (u2 S.2.2.1 79 v3.toNatClampNeg v1), S.2.2.2)) rfl ⟨inb_ok o2, trivial⟩ ?_
      exact hk6 (S.1, S.2.1, (u2 S.2.2.1 79 v3.toNatClampNeg v1), S.2.2.2) v1 (v3 + 1) v4 _ _ hm
theorem lpJ7_fill_d0a16_79_6 (x : XT)  : ∀ (n : Nat) (S : ST) (v1 : Int64) (v3 : Int32) (v4 : Int32) (r : Unit) (S' : ST), lfJ7_fill_d0a16_79_6 x  n S v1 v3 v4 = some (r, S') → Ev mJ7_fill_d0a16 1 0 0 6 [some (.ref 79), some (.long v1), none, some (.int v3), some (.int v4)] [] (mkS x S) (fun v h => v = none ∧ h = mkS x S')
  | 0, _, _, _, _, _, _, hm => by cases hm
  | n + 1, S, v1, v3, v4, r, S', hm => bpJ7_fill_d0a16_79_6 x (lfJ7_fill_d0a16_79_6 x  n) (lpJ7_fill_d0a16_79_6 x  n) S v1 v3 v4 r S' hm
set_option maxHeartbeats 4000000 in
set_option maxRecDepth 20000 in
theorem bpJ7_fill_d0a16_79_0 (x : XT)  (S : ST) (p1 : Int64) (r : Unit) (S' : ST) (hm : bfJ7_fill_d0a16_79_0 x  S p1 = some (r, S')) : Ev mJ7_fill_d0a16 1 0 0 0 [some (.ref 79), some (.long p1), none, none, none] [] (mkS x S) (fun v h => v = none ∧ h = mkS x S') := by
    unfold bfJ7_fill_d0a16_79_0 at hm
    refine Ev.steps tokJ7_fill_d0a16 5 (P := True) (pc' := 6) (lv' := [some (.ref 79), some (.long p1), none, some (.int 0), some (.int 120)]) (st' := []) (h' := mkS x S) rfl trivial ?_
    exact lpJ7_fill_d0a16_79_6 x  20000 S p1 0 120 _ _ hm
theorem gpJ7_fill_d0a16_79 (x : XT) (S : ST) (p1 : Int64) (r : Unit) (S' : ST) (hm : gfJ7_fill_d0a16_79 x S p1 = some (r, S')) : Ct mJ7_fill_d0a16 1 0 0 [.ref 79, .long p1] (mkS x S) (fun v h => v = none ∧ h = mkS x S') :=
  Ct.of (lv := [some (.ref 79), some (.long p1), none, none, none]) rfl rfl rfl (show (_ : Nat) ≤ _ from Nat.le_of_ble_eq_true rfl) (fun G => rfl) (bpJ7_fill_d0a16_79_0 x S p1 r S' hm)
end MIR
