section MIR
set_option maxHeartbeats 4000000 in
set_option maxRecDepth 20000 in
theorem bpJ7_fill_d0a16_78_6 (x : XT) (k6 : ST → Int64 → Int32 → Int32 → Option (Unit × ST)) (hk6 : ∀ (S : ST) (v1 : Int64) (v3 : Int32) (v4 : Int32) (r : Unit) (S' : ST), k6 S v1 v3 v4 = some (r, S') → Ev mJ7_fill_d0a16 1 0 0 6 [some (.ref 78), some (.long v1), none, some (.int v3), some (.int v4)] [] (mkS x S) (fun v h => v = none ∧ h = mkS x S')) (S : ST) (v1 : Int64) (v3 : Int32) (v4 : Int32) (r : Unit) (S' : ST) (hm : bfJ7_fill_d0a16_78_6 x k6 S v1 v3 v4 = some (r, S')) : Ev mJ7_fill_d0a16 1 0 0 6 [some (.ref 78), some (.long v1), none, some (.int v3), some (.int v4)] [] (mkS x S) (fun v h => v = none ∧ h = mkS x S') := by
    unfold bfJ7_fill_d0a16_78_6 at hm
    refine Ev.steps tokJ7_fill_d0a16 3 (P := True) (pc' := if v4 ≤ v3 then 22 else 12) (lv' := [some (.ref 78), some (.long v1), none, some (.int v3), some (.int v4)]) (st' := []) (h' := mkS x S) rfl trivial ?_
    refine Ev.ite (fun c1 => ?_) (fun c1 => ?_)
    · rw [if_pos c1] at hm
      cases hm
      exact Ev.retv tokJ7_fill_d0a16 rfl rfl ⟨rfl, rfl⟩
    · rw [if_neg c1] at hm
      obtain ⟨o2, hm⟩ := oblk hm
      refine Ev.steps tokJ7_fill_d0a16 6 (P := vp_in v3 120 ∧ True) (pc' := 6) (lv' := [some (.ref 78), some (.long v1), none, some (.int (v3 + 1)), some (.int v4)]) (st' := []) (h' := mkS x (S.1, S.2.1, (u2 S.2.2.1 78 v3.toNatClampNeg v1), S.2.2.2)) rfl ⟨inb_ok o2, trivial⟩ ?_
      exact hk6 (S.1, S.2.1, (u2 S.2.2.1 78 v3.toNatClampNeg v1), S.2.2.2) v1 (v3 + 1) v4 _ _ hm
theorem lpJ7_fill_d0a16_78_6 (x : XT)  : ∀ (n : Nat) (S : ST) (v1 : Int64) (v3 : Int32) (v4 : Int32) (r : Unit) (S' : ST), lfJ7_fill_d0a16_78_6 x  n S v1 v3 v4 = some (r, S') → Ev mJ7_fill_d0a16 1 0 0 6 [some (.ref 78), some (.long v1), none, some (.int v3), some (.int v4)] [] (mkS x S) (fun v h => v = none ∧ h = mkS x S')
  | 0, _, _, _, _, _, _, hm => by cases hm
  | n + 1, S, v1, v3, v4, r, S', hm => bpJ7_fill_d0a16_78_6 x (lfJ7_fill_d0a16_78_6 x  n) (lpJ7_fill_d0a16_78_6 x  n) S v1 v3 v4 r S' hm
set_option maxHeartbeats 4000000 in
set_option maxRecDepth 20000 in
theorem bpJ7_fill_d0a16_78_0 (x : XT)  (S : ST) (p1 : Int64) (r : Unit) (S' : ST) (hm : bfJ7_fill_d0a16_78_0 x  S p1 = some (r, S')) : Ev mJ7_fill_d0a16 1 0 0 0 [some (.ref 78), some (.long p1), none, none, none] [] (mkS x S) (fun v h => v = none ∧ h = mkS x S') := by
    unfold bfJ7_fill_d0a16_78_0 at hm
    refine Ev.steps tokJ7_fill_d0a16 5 (P := True) (pc' := 6) (lv' := [some (.ref 78), some (.long p1), none, some (.int 0), some (.int 120)]) (st' := []) (h' := mkS x S) rfl trivial ?_
    exact lpJ7_fill_d0a16_78_6 x  20000 S p1 0 120 _ _ hm
theorem gpJ7_fill_d0a16_78 (x : XT) (S : ST) (p1 : Int64) (r : Unit) (S' : ST) (hm : gfJ7_fill_d0a16_78 x S p1 = some (r, S')) : Ct mJ7_fill_d0a16 1 0 0 [.ref 78, .long p1] (mkS x S) (fun v h => v = none ∧ h = mkS x S') :=
  Ct.of (lv := [some (.ref 78), some (.long p1), none, none, none]) rfl rfl rfl (show (_ : Nat) ≤ _ from Nat.le_of_ble_eq_true rfl) (fun G => rfl) (bpJ7_fill_d0a16_78_0 x S p1 r S' hm)
set_option maxHeartbeats 4000000 in
set_option maxRecDepth 20000 in
theorem bpX6_flow_54_65 (x : XT) (k21 : ST → Int32 → Int32 → Int32 → Option (Unit × ST)) (hk21 : ∀ (S : ST) (v3 : Int32) (v4 : Int32) (v5 : Int32) (r : Unit) (S' : ST), k21 S v3 v4 v5 = some (r, S') → Ev mX6_flow 6 0 0 21 [some (.ref 54), none, none, some (.int v3), some (.int v4), some (.int v5), none] [] (mkS x S) (fun v h => v = none ∧ h = mkS x S')) (k38 : ST → Int32 → Int32 → Int32 → Int32 → Option (Unit × ST)) (hk38 : ∀ (S : ST) (v3 : Int32) (v4 : Int32) (v5 : Int32) (v6 : Int32) (r : Unit) (S' : ST), k38 S v3 v4 v5 v6 = some (r, S') → Ev mX6_flow 6 0 0 38 [some (.ref 54), none, none, some (.int v3), some (.int v4), some (.int v5), some (.int v6)] [] (mkS x S) (fun v h => v = none ∧ h = mkS x S')) (S : ST) (v3 : Int32) (v4 : Int32) (v5 : Int32) (v6 : Int32) (r : Unit) (S' : ST) (hm : bfX6_flow_54_65 x k21 k38 S v3 v4 v5 v6 = some (r, S')) : Ev mX6_flow 6 0 0 65 [some (.ref 54), none, none, some (.int v3), some (.int v4), some (.int v5), some (.int v6)] [] (mkS x S) (fun v h => v = none ∧ h = mkS x S') := by
    unfold bfX6_flow_54_65 at hm
    refine Ev.steps tokX6_flow 2 (P := True) (pc' := 38) (lv' := [some (.ref 54), none, none, some (.int v3), some (.int v4), some (.int v5), some (.int (v6 + 1))]) (st' := []) (h' := mkS x S) rfl trivial ?_
    exact hk38 S v3 v4 v5 (v6 + 1) _ _ hm
set_option maxHeartbeats 4000000 in
set_option maxRecDepth 20000 in
theorem bpX6_flow_54_38 (x : XT) (k21 : ST → Int32 → Int32 → Int32 → Option (Unit × ST)) (hk21 : ∀ (S : ST) (v3 : Int32) (v4 : Int32) (v5 : Int32) (r : Unit) (S' : ST), k21 S v3 v4 v5 = some (r, S') → Ev mX6_flow 6 0 0 21 [some (.ref 54), none, none, some (.int v3), some (.int v4), some (.int v5), none] [] (mkS x S) (fun v h => v = none ∧ h = mkS x S')) (k38 : ST → Int32 → Int32 → Int32 → Int32 → Option (Unit × ST)) (hk38 : ∀ (S : ST) (v3 : Int32) (v4 : Int32) (v5 : Int32) (v6 : Int32) (r : Unit) (S' : ST), k38 S v3 v4 v5 v6 = some (r, S') → Ev mX6_flow 6 0 0 38 [some (.ref 54), none, none, some (.int v3), some (.int v4), some (.int v5), some (.int v6)] [] (mkS x S) (fun v h => v = none ∧ h = mkS x S')) (S : ST) (v3 : Int32) (v4 : Int32) (v5 : Int32) (v6 : Int32) (r : Unit) (S' : ST) (hm : bfX6_flow_54_38 x k21 k38 S v3 v4 v5 v6 = some (r, S')) : Ev mX6_flow 6 0 0 38 [some (.ref 54), none, none, some (.int v3), some (.int v4), some (.int v5), some (.int v6)] [] (mkS x S) (fun v h => v = none ∧ h = mkS x S') := by
    unfold bfX6_flow_54_38 at hm
    refine Ev.steps tokX6_flow 3 (P := True) (pc' := if 120 ≤ v6 then 71 else 45) (lv' := [some (.ref 54), none, none, some (.int v3), some (.int v4), some (.int v5), some (.int v6)]) (st' := []) (h' := mkS x S) rfl trivial ?_
    refine Ev.ite (fun c1 => ?_) (fun c1 => ?_)
    · rw [if_pos c1] at hm
      refine Ev.steps tokX6_flow 7 (P := True) (pc' := 83) (lv' := [some (.ref 54), none, none, some (.int v3), some (.int v4), some (.int v5), some (.int v6)]) (st' := [.int 120, .int 0, .ref 78, .int 0, .ref 79]) (h' := mkS x S) rfl trivial ?_
      refine ev_copyl (sp' := 0) (dp' := 0) (n' := 120) (dcd tokX6_flow rfl) lk6_135 mt_ac.2 mt_ac.1 mt_in.2 (by decide) (Nat.le_of_ble_eq_true rfl) rfl rfl (by decide) (by decide) (by decide) (by decide) (by decide) (by decide) (Nat.le_of_ble_eq_true rfl) (Nat.le_of_ble_eq_true rfl) ?_
      refine Ev.steps tokX6_flow 2 (P := True) (pc' := 21) (lv' := [some (.ref 54), none, none, some (.int v3), some (.int v4), some (.int (v5 + 1)), some (.int v6)]) (st' := []) (h' := mkS x (S.1, S.2.1, (u1 S.2.2.1 78 (va_cpy (S.2.2.1 79) (S.2.2.1 78) 0 0 120)), S.2.2.2)) rfl trivial ?_
      refine Ev.fgt (lv' := [some (.ref 54), none, none, some (.int v3), some (.int v4), some (.int (v5 + 1)), none]) ⟨rfl, rfl, rfl, rfl, trivial⟩ ?_
      exact hk21 (S.1, S.2.1, (u1 S.2.2.1 78 (va_cpy (S.2.2.1 79) (S.2.2.1 78) 0 0 120)), S.2.2.2) v3 v4 (v5 + 1) _ _ hm
    · rw [if_neg c1] at hm
      obtain ⟨o2, hm⟩ := oblk hm
      refine Ev.steps tokX6_flow 7 (P := vp_in v6 120 ∧ True) (pc' := if (lg_cmp (S.2.2.1 78 v6.toNatClampNeg) 0) ≤ 0 then 65 else 57) (lv' := [some (.ref 54), none, none, some (.int v3), some (.int v4), some (.int v5), some (.int v6)]) (st' := []) (h' := mkS x S) rfl ⟨inb_ok o2, trivial⟩ ?_
      refine Ev.ite (fun c3 => ?_) (fun c3 => ?_)
      · rw [if_pos c3] at hm
        exact bpX6_flow_54_65 x k21 hk21 k38 hk38 S v3 v4 v5 v6 _ _ hm
      · rw [if_neg c3] at hm
        refine Ev.steps tokX6_flow 3 (P := True) (pc' := 62) (lv' := [some (.ref 54), none, none, some (.int v3), some (.int v4), some (.int v5), some (.int v6)]) (st' := [.int v4, .int v6, .ref 54]) (h' := mkS x S) rfl trivial ?_
        cases h4 : gfX6_flowFrom_54 x S v6 v4 with
        | none => rw [h4] at hm; cases hm
        | some q5 =>
          obtain ⟨r6, S7⟩ := q5
          rw [h4] at hm
          dsimp only at hm
          refine ev_callV (N := mX6_flowFrom) (d' := 5) (bc := 0) (bs := 0) (bc' := 0) (bs' := 0) (as := [.int v6, .int v4]) (rest := []) (a := 54) (ci := 6) (dcd tokX6_flow rfl) okX6_flowFrom inX6_flowFrom seX6_flowFrom lk6_131 rfl (by decide) (Nat.le_of_ble_eq_true rfl) rfl ⟨by decide, rfl⟩ (gpX6_flowFrom_54 x S v6 v4 _ _ h4) (fun v h' hq hn => ?_)
          obtain ⟨rfl, rfl⟩ := hq
          exact bpX6_flow_54_65 x k21 hk21 k38 hk38 S7 v3 v4 v5 v6 _ _ hm
theorem lpX6_flow_54_38 (x : XT) (k21 : ST → Int32 → Int32 → Int32 → Option (Unit × ST)) (hk21 : ∀ (S : ST) (v3 : Int32) (v4 : Int32) (v5 : Int32) (r : Unit) (S' : ST), k21 S v3 v4 v5 = some (r, S') → Ev mX6_flow 6 0 0 21 [some (.ref 54), none, none, some (.int v3), some (.int v4), some (.int v5), none] [] (mkS x S) (fun v h => v = none ∧ h = mkS x S')) : ∀ (n : Nat) (S : ST) (v3 : Int32) (v4 : Int32) (v5 : Int32) (v6 : Int32) (r : Unit) (S' : ST), lfX6_flow_54_38 x k21 n S v3 v4 v5 v6 = some (r, S') → Ev mX6_flow 6 0 0 38 [some (.ref 54), none, none, some (.int v3), some (.int v4), some (.int v5), some (.int v6)] [] (mkS x S) (fun v h => v = none ∧ h = mkS x S')
  | 0, _, _, _, _, _, _, _, hm => by cases hm
  | n + 1, S, v3, v4, v5, v6, r, S', hm => bpX6_flow_54_38 x k21 hk21 (lfX6_flow_54_38 x k21 n) (lpX6_flow_54_38 x k21 hk21 n) S v3 v4 v5 v6 r S' hm
set_option maxHeartbeats 4000000 in
set_option maxRecDepth 20000 in
theorem bpX6_flow_54_21 (x : XT) (k21 : ST → Int32 → Int32 → Int32 → Option (Unit × ST)) (hk21 : ∀ (S : ST) (v3 : Int32) (v4 : Int32) (v5 : Int32) (r : Unit) (S' : ST), k21 S v3 v4 v5 = some (r, S') → Ev mX6_flow 6 0 0 21 [some (.ref 54), none, none, some (.int v3), some (.int v4), some (.int v5), none] [] (mkS x S) (fun v h => v = none ∧ h = mkS x S')) (S : ST) (v3 : Int32) (v4 : Int32) (v5 : Int32) (r : Unit) (S' : ST) (hm : bfX6_flow_54_21 x k21 S v3 v4 v5 = some (r, S')) : Ev mX6_flow 6 0 0 21 [some (.ref 54), none, none, some (.int v3), some (.int v4), some (.int v5), none] [] (mkS x S) (fun v h => v = none ∧ h = mkS x S') := by
    unfold bfX6_flow_54_21 at hm
    refine Ev.steps tokX6_flow 3 (P := True) (pc' := if v3 ≤ v5 then 92 else 27) (lv' := [some (.ref 54), none, none, some (.int v3), some (.int v4), some (.int v5), none]) (st' := []) (h' := mkS x S) rfl trivial ?_
    refine Ev.ite (fun c1 => ?_) (fun c1 => ?_)
    · rw [if_pos c1] at hm
      cases hm
      exact Ev.retv tokX6_flow rfl rfl ⟨rfl, rfl⟩
    · rw [if_neg c1] at hm
      refine Ev.steps tokX6_flow 3 (P := True) (pc' := 32) (lv' := [some (.ref 54), none, none, some (.int v3), some (.int v4), some (.int v5), none]) (st' := [.long 0, .ref 79]) (h' := mkS x S) rfl trivial ?_
      cases h2 : gfJ7_fill_d0a16_79 x S 0 with
      | none => rw [h2] at hm; cases hm
      | some q3 =>
        obtain ⟨r4, S5⟩ := q3
        rw [h2] at hm
        dsimp only at hm
        refine ev_callS (N := mJ7_fill_d0a16) (d' := 1) (bc := 0) (bs := 0) (bc' := 0) (bs' := 0) (as := [.ref 79, .long 0]) (rest := []) (dcd tokX6_flow rfl) okJ7_fill_d0a16 inJ7_fill_d0a16 lk6_128 rfl (by decide) (Nat.le_of_ble_eq_true rfl) (gpJ7_fill_d0a16_79 x S 0 _ _ h2) (fun v h' hq hn => ?_)
        obtain ⟨rfl, rfl⟩ := hq
        refine Ev.steps tokX6_flow 2 (P := True) (pc' := 38) (lv' := [some (.ref 54), none, none, some (.int v3), some (.int v4), some (.int v5), some (.int 0)]) (st' := []) (h' := mkS x S5) rfl trivial ?_
        exact lpX6_flow_54_38 x k21 hk21 20000 S5 v3 v4 v5 0 _ _ hm
theorem lpX6_flow_54_21 (x : XT)  : ∀ (n : Nat) (S : ST) (v3 : Int32) (v4 : Int32) (v5 : Int32) (r : Unit) (S' : ST), lfX6_flow_54_21 x  n S v3 v4 v5 = some (r, S') → Ev mX6_flow 6 0 0 21 [some (.ref 54), none, none, some (.int v3), some (.int v4), some (.int v5), none] [] (mkS x S) (fun v h => v = none ∧ h = mkS x S')
  | 0, _, _, _, _, _, _, hm => by cases hm
  | n + 1, S, v3, v4, v5, r, S', hm => bpX6_flow_54_21 x (lfX6_flow_54_21 x  n) (lpX6_flow_54_21 x  n) S v3 v4 v5 r S' hm
set_option maxHeartbeats 4000000 in
set_option maxRecDepth 20000 in
theorem bpX6_flow_54_0 (x : XT)  (S : ST) (p1 : Int64) (p3 : Int32) (p4 : Int32) (r : Unit) (S' : ST) (hm : bfX6_flow_54_0 x  S p1 p3 p4 = some (r, S')) : Ev mX6_flow 6 0 0 0 [some (.ref 54), some (.long p1), none, some (.int p3), some (.int p4), none, none] [] (mkS x S) (fun v h => v = none ∧ h = mkS x S') := by
    unfold bfX6_flow_54_0 at hm
    refine Ev.steps tokX6_flow 3 (P := True) (pc' := 5) (lv' := [some (.ref 54), some (.long p1), none, some (.int p3), some (.int p4), none, none]) (st' := [.long 0, .ref 78]) (h' := mkS x S) rfl trivial ?_
    cases h1 : gfJ7_fill_d0a16_78 x S 0 with
    | none => rw [h1] at hm; cases hm
    | some q2 =>
      obtain ⟨r3, S4⟩ := q2
      rw [h1] at hm
      dsimp only at hm
      refine ev_callS (N := mJ7_fill_d0a16) (d' := 1) (bc := 0) (bs := 0) (bc' := 0) (bs' := 0) (as := [.ref 78, .long 0]) (rest := []) (dcd tokX6_flow rfl) okJ7_fill_d0a16 inJ7_fill_d0a16 lk6_128 rfl (by decide) (Nat.le_of_ble_eq_true rfl) (gpJ7_fill_d0a16_78 x S 0 _ _ h1) (fun v h' hq hn => ?_)
      obtain ⟨rfl, rfl⟩ := hq
      refine Ev.steps tokX6_flow 3 (P := True) (pc' := 13) (lv' := [some (.ref 54), some (.long p1), none, some (.int p3), some (.int p4), none, none]) (st' := [.ref 54, .ref 78]) (h' := mkS x S4) rfl trivial ?_
      cases h5 : gfX6_start_54 x S4 with
      | none => rw [h5] at hm; cases hm
      | some q6 =>
        obtain ⟨r7, S8⟩ := q6
        rw [h5] at hm
        dsimp only at hm
        refine ev_callV (N := mX6_start) (d' := 1) (bc := 0) (bs := 0) (bc' := 0) (bs' := 0) (as := []) (rest := [.ref 78]) (a := 54) (ci := 6) (dcd tokX6_flow rfl) okX6_start inX6_start seX6_start lk6_100 rfl (by decide) (Nat.le_of_ble_eq_true rfl) rfl ⟨by decide, rfl⟩ (gpX6_start_54 x S4 _ _ h5) (fun v h' hq hn => ?_)
        obtain ⟨rfl, rfl⟩ := hq
        obtain ⟨o9, hm⟩ := oblk hm
        refine Ev.steps tokX6_flow 4 (P := vp_in r7 120 ∧ True) (pc' := 21) (lv' := [some (.ref 54), some (.long p1), none, some (.int p3), some (.int p4), some (.int 0), none]) (st' := []) (h' := mkS x (S8.1, S8.2.1, (u2 S8.2.2.1 78 r7.toNatClampNeg p1), S8.2.2.2)) rfl ⟨inb_ok o9, trivial⟩ ?_
        refine Ev.fgt (lv' := [some (.ref 54), none, none, some (.int p3), some (.int p4), some (.int 0), none]) ⟨rfl, rfl, rfl, rfl, trivial⟩ ?_
        exact lpX6_flow_54_21 x  20000 (S8.1, S8.2.1, (u2 S8.2.2.1 78 r7.toNatClampNeg p1), S8.2.2.2) p3 p4 0 _ _ hm
theorem gpX6_flow_54 (x : XT) (S : ST) (p1 : Int64) (p3 : Int32) (p4 : Int32) (r : Unit) (S' : ST) (hm : gfX6_flow_54 x S p1 p3 p4 = some (r, S')) : Ct mX6_flow 6 0 0 [.ref 54, .long p1, .int p3, .int p4] (mkS x S) (fun v h => v = none ∧ h = mkS x S') :=
  Ct.of (lv := [some (.ref 54), some (.long p1), none, some (.int p3), some (.int p4), none, none]) rfl rfl rfl (show (_ : Nat) ≤ _ from Nat.le_of_ble_eq_true rfl) (fun G => rfl) (bpX6_flow_54_0 x S p1 p3 p4 r S' hm)
set_option maxHeartbeats 4000000 in
set_option maxRecDepth 20000 in
theorem bpX6_flowed_54_34 (x : XT) (k5 : ST → Int32 → Int32 → Int64 → Int32 → Option (Int64 × ST)) (hk5 : ∀ (S : ST) (v1 : Int32) (v2 : Int32) (v3 : Int64) (v5 : Int32) (r : Int64) (S' : ST), k5 S v1 v2 v3 v5 = some (r, S') → Ev mX6_flowed 2 0 0 5 [some (.ref 54), some (.int v1), some (.int v2), some (.long v3), none, some (.int v5)] [] (mkS x S) (fun v h => v = some (.long r) ∧ h = mkS x S')) (S : ST) (v1 : Int32) (v2 : Int32) (v5 : Int32) (t0 : Int64) (t1 : Int64) (r : Int64) (S' : ST) (hm : bfX6_flowed_54_34 x k5 S v1 v2 v5 t0 t1 = some (r, S')) : Ev mX6_flowed 2 0 0 34 [some (.ref 54), some (.int v1), some (.int v2), none, none, some (.int v5)] [.long t1, .long t0] (mkS x S) (fun v h => v = some (.long r) ∧ h = mkS x S') := by
    unfold bfX6_flowed_54_34 at hm
    refine Ev.steps tokX6_flowed 4 (P := True) (pc' := 5) (lv' := [some (.ref 54), some (.int v1), some (.int v2), some (.long (t0 + t1)), none, some (.int (v5 + 1))]) (st' := []) (h' := mkS x S) rfl trivial ?_
    exact hk5 S v1 v2 (t0 + t1) (v5 + 1) _ _ hm
set_option maxHeartbeats 4000000 in
set_option maxRecDepth 20000 in
theorem bpX6_flowed_54_5 (x : XT) (k5 : ST → Int32 → Int32 → Int64 → Int32 → Option (Int64 × ST)) (hk5 : ∀ (S : ST) (v1 : Int32) (v2 : Int32) (v3 : Int64) (v5 : Int32) (r : Int64) (S' : ST), k5 S v1 v2 v3 v5 = some (r, S') → Ev mX6_flowed 2 0 0 5 [some (.ref 54), some (.int v1), some (.int v2), some (.long v3), none, some (.int v5)] [] (mkS x S) (fun v h => v = some (.long r) ∧ h = mkS x S')) (S : ST) (v1 : Int32) (v2 : Int32) (v3 : Int64) (v5 : Int32) (r : Int64) (S' : ST) (hm : bfX6_flowed_54_5 x k5 S v1 v2 v3 v5 = some (r, S')) : Ev mX6_flowed 2 0 0 5 [some (.ref 54), some (.int v1), some (.int v2), some (.long v3), none, some (.int v5)] [] (mkS x S) (fun v h => v = some (.long r) ∧ h = mkS x S') := by
    unfold bfX6_flowed_54_5 at hm
    refine Ev.steps tokX6_flowed 3 (P := True) (pc' := if 120 ≤ v5 then 42 else 12) (lv' := [some (.ref 54), some (.int v1), some (.int v2), some (.long v3), none, some (.int v5)]) (st' := []) (h' := mkS x S) rfl trivial ?_
    refine Ev.ite (fun c1 => ?_) (fun c1 => ?_)
    · rw [if_pos c1] at hm
      refine Ev.steps tokX6_flowed 1 (P := True) (pc' := 43) (lv' := [some (.ref 54), some (.int v1), some (.int v2), some (.long v3), none, some (.int v5)]) (st' := [.long v3]) (h' := mkS x S) rfl trivial ?_
      cases hm
      exact Ev.retl tokX6_flowed rfl rfl ⟨rfl, rfl⟩
    · rw [if_neg c1] at hm
      refine Ev.steps tokX6_flowed 4 (P := True) (pc' := 17) (lv' := [some (.ref 54), some (.int v1), some (.int v2), some (.long v3), none, some (.int v5)]) (st' := [.int v2, .int v1, .int v5, .long v3]) (h' := mkS x S) rfl trivial ?_
      cases h2 : gfX6_isAt x S v5 v1 v2 with
      | none => rw [h2] at hm; cases hm
      | some q3 =>
        obtain ⟨r4, S5⟩ := q3
        rw [h2] at hm
        dsimp only at hm
        refine ev_callS (N := mX6_isAt) (d' := 1) (bc := 0) (bs := 0) (bc' := 0) (bs' := 0) (as := [.int v5, .int v1, .int v2]) (rest := [.long v3]) (dcd tokX6_flowed rfl) okX6_isAt inX6_isAt lk6_104 rfl (by decide) (Nat.le_of_ble_eq_true rfl) (gpX6_isAt x S v5 v1 v2 _ _ h2) (fun v h' hq hn => ?_)
        obtain ⟨rfl, rfl⟩ := hq
        refine Ev.steps tokX6_flowed 1 (P := True) (pc' := if r4 = 0 then 33 else 23) (lv' := [some (.ref 54), some (.int v1), some (.int v2), some (.long v3), none, some (.int v5)]) (st' := [.long v3]) (h' := mkS x S5) rfl trivial ?_
        refine Ev.ite (fun c6 => ?_) (fun c6 => ?_)
        · rw [if_pos c6] at hm
          refine Ev.steps tokX6_flowed 1 (P := True) (pc' := 34) (lv' := [some (.ref 54), some (.int v1), some (.int v2), some (.long v3), none, some (.int v5)]) (st' := [.long 0, .long v3]) (h' := mkS x S5) rfl trivial ?_
          refine Ev.fgt (lv' := [some (.ref 54), some (.int v1), some (.int v2), none, none, some (.int v5)]) ⟨rfl, rfl, rfl, rfl, trivial⟩ ?_
          exact bpX6_flowed_54_34 x k5 hk5 S5 v1 v2 v5 v3 0 _ _ hm
        · rw [if_neg c6] at hm
          obtain ⟨o7, hm⟩ := oblk hm
          refine Ev.steps tokX6_flowed 5 (P := vp_in v5 120 ∧ True) (pc' := 34) (lv' := [some (.ref 54), some (.int v1), some (.int v2), some (.long v3), none, some (.int v5)]) (st' := [.long (S5.2.2.1 78 v5.toNatClampNeg), .long v3]) (h' := mkS x S5) rfl ⟨inb_ok o7, trivial⟩ ?_
          refine Ev.fgt (lv' := [some (.ref 54), some (.int v1), some (.int v2), none, none, some (.int v5)]) ⟨rfl, rfl, rfl, rfl, trivial⟩ ?_
          exact bpX6_flowed_54_34 x k5 hk5 S5 v1 v2 v5 v3 (S5.2.2.1 78 v5.toNatClampNeg) _ _ hm
theorem lpX6_flowed_54_5 (x : XT)  : ∀ (n : Nat) (S : ST) (v1 : Int32) (v2 : Int32) (v3 : Int64) (v5 : Int32) (r : Int64) (S' : ST), lfX6_flowed_54_5 x  n S v1 v2 v3 v5 = some (r, S') → Ev mX6_flowed 2 0 0 5 [some (.ref 54), some (.int v1), some (.int v2), some (.long v3), none, some (.int v5)] [] (mkS x S) (fun v h => v = some (.long r) ∧ h = mkS x S')
  | 0, _, _, _, _, _, _, _, hm => by cases hm
  | n + 1, S, v1, v2, v3, v5, r, S', hm => bpX6_flowed_54_5 x (lfX6_flowed_54_5 x  n) (lpX6_flowed_54_5 x  n) S v1 v2 v3 v5 r S' hm
set_option maxHeartbeats 4000000 in
set_option maxRecDepth 20000 in
theorem bpX6_flowed_54_0 (x : XT)  (S : ST) (p1 : Int32) (p2 : Int32) (r : Int64) (S' : ST) (hm : bfX6_flowed_54_0 x  S p1 p2 = some (r, S')) : Ev mX6_flowed 2 0 0 0 [some (.ref 54), some (.int p1), some (.int p2), none, none, none] [] (mkS x S) (fun v h => v = some (.long r) ∧ h = mkS x S') := by
    unfold bfX6_flowed_54_0 at hm
    refine Ev.steps tokX6_flowed 4 (P := True) (pc' := 5) (lv' := [some (.ref 54), some (.int p1), some (.int p2), some (.long 0), none, some (.int 0)]) (st' := []) (h' := mkS x S) rfl trivial ?_
    exact lpX6_flowed_54_5 x  20000 S p1 p2 0 0 _ _ hm
theorem gpX6_flowed_54 (x : XT) (S : ST) (p1 : Int32) (p2 : Int32) (r : Int64) (S' : ST) (hm : gfX6_flowed_54 x S p1 p2 = some (r, S')) : Ct mX6_flowed 2 0 0 [.ref 54, .int p1, .int p2] (mkS x S) (fun v h => v = some (.long r) ∧ h = mkS x S') :=
  Ct.of (lv := [some (.ref 54), some (.int p1), some (.int p2), none, none, none]) rfl rfl rfl (show (_ : Nat) ≤ _ from Nat.le_of_ble_eq_true rfl) (fun G => rfl) (bpX6_flowed_54_0 x S p1 p2 r S' hm)
set_option maxHeartbeats 4000000 in
set_option maxRecDepth 20000 in
theorem bpX10_ways_0_22 (x : XT)  (S : ST)  (r : Int64) (S' : ST) (hm : bfX10_ways_0_22 x  S  = some (r, S')) : Ev mX10_ways 7 0 0 22 [none, none, none, none, none] [] (mkS x S) (fun v h => v = some (.long r) ∧ h = mkS x S') := by
    unfold bfX10_ways_0_22 at hm
    refine Ev.steps tokX10_ways 1 (P := True) (pc' := 25) (lv' := [none, none, none, none, none]) (st' := [.long (-1)]) (h' := mkS x S) rfl trivial ?_
    cases hm
    exact Ev.retl tokX10_ways rfl rfl ⟨rfl, rfl⟩
set_option maxHeartbeats 4000000 in
set_option maxRecDepth 20000 in
theorem bpX10_ways_0_0 (x : XT)  (S : ST) (p1 : Int32) (p2 : Int32) (p3 : Int32) (p4 : Int32) (r : Int64) (S' : ST) (hm : bfX10_ways_0_0 x  S p1 p2 p3 p4 = some (r, S')) : Ev mX10_ways 7 0 0 0 [some (.ref 0), some (.int p1), some (.int p2), some (.int p3), some (.int p4)] [] (mkS x S) (fun v h => v = some (.long r) ∧ h = mkS x S') := by
    unfold bfX10_ways_0_0 at hm
    refine Ev.steps tokX10_ways 4 (P := True) (pc' := 4) (lv' := [some (.ref 0), some (.int p1), some (.int p2), some (.int p3), some (.int p4)]) (st' := [.int p3, .int p2, .int p1, .ref 0]) (h' := mkS x S) rfl trivial ?_
    cases h1 : gfX10_canSeek_0 x S p1 p2 p3 with
    | none => rw [h1] at hm; cases hm
    | some q2 =>
      obtain ⟨r3, S4⟩ := q2
      rw [h1] at hm
      dsimp only at hm
      refine ev_callV (N := mX10_canSeek) (d' := 2) (bc := 0) (bs := 0) (bc' := 0) (bs' := 0) (as := [.int p1, .int p2, .int p3]) (rest := []) (a := 0) (ci := 10) (dcd tokX10_ways rfl) okX10_canSeek inX10_canSeek seX10_canSeek lk10_241 rfl (by decide) (Nat.le_of_ble_eq_true rfl) rfl ⟨by decide, rfl⟩ (gpX10_canSeek_0 x S p1 p2 p3 _ _ h1) (fun v h' hq hn => ?_)
      obtain ⟨rfl, rfl⟩ := hq
      refine Ev.steps tokX10_ways 1 (P := True) (pc' := if r3 = 0 then 22 else 10) (lv' := [some (.ref 0), some (.int p1), some (.int p2), some (.int p3), some (.int p4)]) (st' := []) (h' := mkS x S4) rfl trivial ?_
      refine Ev.ite (fun c5 => ?_) (fun c5 => ?_)
      · rw [if_pos c5] at hm
        refine Ev.fgt (lv' := [none, none, none, none, none]) trivial ?_
        exact bpX10_ways_0_22 x S4 _ _ hm
      · rw [if_neg c5] at hm
        refine Ev.steps tokX10_ways 2 (P := True) (pc' := if p4 < 0 then 22 else 15) (lv' := [some (.ref 0), some (.int p1), some (.int p2), some (.int p3), some (.int p4)]) (st' := []) (h' := mkS x S4) rfl trivial ?_
        refine Ev.ite (fun c6 => ?_) (fun c6 => ?_)
        · rw [if_pos c6] at hm
          refine Ev.fgt (lv' := [none, none, none, none, none]) trivial ?_
          exact bpX10_ways_0_22 x S4 _ _ hm
        · rw [if_neg c6] at hm
          refine Ev.steps tokX10_ways 3 (P := True) (pc' := if p4 ≤ 12 then 26 else 22) (lv' := [some (.ref 0), some (.int p1), some (.int p2), some (.int p3), some (.int p4)]) (st' := []) (h' := mkS x S4) rfl trivial ?_
          refine Ev.ite (fun c7 => ?_) (fun c7 => ?_)
          · rw [if_pos c7] at hm
            refine Ev.steps tokX10_ways 5 (P := True) (pc' := 35) (lv' := [some (.ref 0), some (.int p1), some (.int p2), some (.int p3), some (.int p4)]) (st' := [.int p1, .ref 1, .ref 54]) (h' := mkS x S4) rfl trivial ?_
            cases h8 : gfX6_begin_54_1 x S4 p1 with
            | none => rw [h8] at hm; cases hm
            | some q9 =>
              obtain ⟨r10, S11⟩ := q9
              rw [h8] at hm
              dsimp only at hm
              refine ev_callV (N := mX6_begin) (d' := 2) (bc := 0) (bs := 0) (bc' := 0) (bs' := 0) (as := [.ref 1, .int p1]) (rest := []) (a := 54) (ci := 6) (dcd tokX10_ways rfl) okX6_begin inX6_begin seX6_begin lk10_245 rfl (by decide) (Nat.le_of_ble_eq_true rfl) rfl ⟨by decide, rfl⟩ (gpX6_begin_54_1 x S4 p1 _ _ h8) (fun v h' hq hn => ?_)
              obtain ⟨rfl, rfl⟩ := hq
              refine Ev.steps tokX10_ways 5 (P := True) (pc' := 46) (lv' := [some (.ref 0), some (.int p1), some (.int p2), some (.int p3), some (.int p4)]) (st' := [.int 0, .int p4, .long 1, .ref 54]) (h' := mkS x S11) rfl trivial ?_
              cases h12 : gfX6_flow_54 x S11 1 p4 0 with
              | none => rw [h12] at hm; cases hm
              | some q13 =>
                obtain ⟨r14, S15⟩ := q13
                rw [h12] at hm
                dsimp only at hm
                refine ev_callV (N := mX6_flow) (d' := 6) (bc := 0) (bs := 0) (bc' := 0) (bs' := 0) (as := [.long 1, .int p4, .int 0]) (rest := []) (a := 54) (ci := 6) (dcd tokX10_ways rfl) okX6_flow inX6_flow seX6_flow lk10_266 rfl (by decide) (Nat.le_of_ble_eq_true rfl) rfl ⟨by decide, rfl⟩ (gpX6_flow_54 x S11 1 p4 0 _ _ h12) (fun v h' hq hn => ?_)
                obtain ⟨rfl, rfl⟩ := hq
                refine Ev.steps tokX10_ways 4 (P := True) (pc' := 55) (lv' := [some (.ref 0), some (.int p1), some (.int p2), some (.int p3), some (.int p4)]) (st' := [.int p3, .int p2, .ref 54]) (h' := mkS x S15) rfl trivial ?_
                cases h16 : gfX6_flowed_54 x S15 p2 p3 with
                | none => rw [h16] at hm; cases hm
                | some q17 =>
                  obtain ⟨r18, S19⟩ := q17
                  rw [h16] at hm
                  dsimp only at hm
                  refine ev_callV (N := mX6_flowed) (d' := 2) (bc := 0) (bs := 0) (bc' := 0) (bs' := 0) (as := [.int p2, .int p3]) (rest := []) (a := 54) (ci := 6) (dcd tokX10_ways rfl) okX6_flowed inX6_flowed seX6_flowed lk10_270 rfl (by decide) (Nat.le_of_ble_eq_true rfl) rfl ⟨by decide, rfl⟩ (gpX6_flowed_54 x S15 p2 p3 _ _ h16) (fun v h' hq hn => ?_)
                  obtain ⟨rfl, rfl⟩ := hq
                  cases hm
                  exact Ev.retl tokX10_ways rfl rfl ⟨rfl, rfl⟩
          · rw [if_neg c7] at hm
            refine Ev.fgt (lv' := [none, none, none, none, none]) trivial ?_
            exact bpX10_ways_0_22 x S4 _ _ hm
theorem gpX10_ways_0 (x : XT) (S : ST) (p1 : Int32) (p2 : Int32) (p3 : Int32) (p4 : Int32) (r : Int64) (S' : ST) (hm : gfX10_ways_0 x S p1 p2 p3 p4 = some (r, S')) : Ct mX10_ways 7 0 0 [.ref 0, .int p1, .int p2, .int p3, .int p4] (mkS x S) (fun v h => v = some (.long r) ∧ h = mkS x S') :=
  Ct.of (lv := [some (.ref 0), some (.int p1), some (.int p2), some (.int p3), some (.int p4)]) rfl rfl rfl (show (_ : Nat) ≤ _ from Nat.le_of_ble_eq_true rfl) (fun G => rfl) (bpX10_ways_0_0 x S p1 p2 p3 p4 r S' hm)
set_option maxHeartbeats 4000000 in
set_option maxRecDepth 20000 in
theorem bpX10_likely_0_22 (x : XT)  (S : ST)  (r : Int64) (S' : ST) (hm : bfX10_likely_0_22 x  S  = some (r, S')) : Ev mX10_likely 7 0 0 22 [none, none, none, none, none] [] (mkS x S) (fun v h => v = some (.long r) ∧ h = mkS x S') := by
    unfold bfX10_likely_0_22 at hm
    refine Ev.steps tokX10_likely 1 (P := True) (pc' := 25) (lv' := [none, none, none, none, none]) (st' := [.long (-1)]) (h' := mkS x S) rfl trivial ?_
    cases hm
    exact Ev.retl tokX10_likely rfl rfl ⟨rfl, rfl⟩
set_option maxHeartbeats 4000000 in
set_option maxRecDepth 20000 in
theorem bpX10_likely_0_0 (x : XT)  (S : ST) (p1 : Int32) (p2 : Int32) (p3 : Int32) (p4 : Int32) (r : Int64) (S' : ST) (hm : bfX10_likely_0_0 x  S p1 p2 p3 p4 = some (r, S')) : Ev mX10_likely 7 0 0 0 [some (.ref 0), some (.int p1), some (.int p2), some (.int p3), some (.int p4)] [] (mkS x S) (fun v h => v = some (.long r) ∧ h = mkS x S') := by
    unfold bfX10_likely_0_0 at hm
    refine Ev.steps tokX10_likely 4 (P := True) (pc' := 4) (lv' := [some (.ref 0), some (.int p1), some (.int p2), some (.int p3), some (.int p4)]) (st' := [.int p3, .int p2, .int p1, .ref 0]) (h' := mkS x S) rfl trivial ?_
    cases h1 : gfX10_canSeek_0 x S p1 p2 p3 with
    | none => rw [h1] at hm; cases hm
    | some q2 =>
      obtain ⟨r3, S4⟩ := q2
      rw [h1] at hm
      dsimp only at hm
      refine ev_callV (N := mX10_canSeek) (d' := 2) (bc := 0) (bs := 0) (bc' := 0) (bs' := 0) (as := [.int p1, .int p2, .int p3]) (rest := []) (a := 0) (ci := 10) (dcd tokX10_likely rfl) okX10_canSeek inX10_canSeek seX10_canSeek lk10_241 rfl (by decide) (Nat.le_of_ble_eq_true rfl) rfl ⟨by decide, rfl⟩ (gpX10_canSeek_0 x S p1 p2 p3 _ _ h1) (fun v h' hq hn => ?_)
      obtain ⟨rfl, rfl⟩ := hq
      refine Ev.steps tokX10_likely 1 (P := True) (pc' := if r3 = 0 then 22 else 10) (lv' := [some (.ref 0), some (.int p1), some (.int p2), some (.int p3), some (.int p4)]) (st' := []) (h' := mkS x S4) rfl trivial ?_
      refine Ev.ite (fun c5 => ?_) (fun c5 => ?_)
      · rw [if_pos c5] at hm
        refine Ev.fgt (lv' := [none, none, none, none, none]) trivial ?_
        exact bpX10_likely_0_22 x S4 _ _ hm
      · rw [if_neg c5] at hm
        refine Ev.steps tokX10_likely 2 (P := True) (pc' := if p4 < 0 then 22 else 15) (lv' := [some (.ref 0), some (.int p1), some (.int p2), some (.int p3), some (.int p4)]) (st' := []) (h' := mkS x S4) rfl trivial ?_
        refine Ev.ite (fun c6 => ?_) (fun c6 => ?_)
        · rw [if_pos c6] at hm
          refine Ev.fgt (lv' := [none, none, none, none, none]) trivial ?_
          exact bpX10_likely_0_22 x S4 _ _ hm
        · rw [if_neg c6] at hm
          refine Ev.steps tokX10_likely 3 (P := True) (pc' := if p4 ≤ 30 then 26 else 22) (lv' := [some (.ref 0), some (.int p1), some (.int p2), some (.int p3), some (.int p4)]) (st' := []) (h' := mkS x S4) rfl trivial ?_
          refine Ev.ite (fun c7 => ?_) (fun c7 => ?_)
          · rw [if_pos c7] at hm
            refine Ev.steps tokX10_likely 5 (P := True) (pc' := 35) (lv' := [some (.ref 0), some (.int p1), some (.int p2), some (.int p3), some (.int p4)]) (st' := [.int p1, .ref 1, .ref 54]) (h' := mkS x S4) rfl trivial ?_
            cases h8 : gfX6_begin_54_1 x S4 p1 with
            | none => rw [h8] at hm; cases hm
            | some q9 =>
              obtain ⟨r10, S11⟩ := q9
              rw [h8] at hm
              dsimp only at hm
              refine ev_callV (N := mX6_begin) (d' := 2) (bc := 0) (bs := 0) (bc' := 0) (bs' := 0) (as := [.ref 1, .int p1]) (rest := []) (a := 54) (ci := 6) (dcd tokX10_likely rfl) okX6_begin inX6_begin seX6_begin lk10_245 rfl (by decide) (Nat.le_of_ble_eq_true rfl) rfl ⟨by decide, rfl⟩ (gpX6_begin_54_1 x S4 p1 _ _ h8) (fun v h' hq hn => ?_)
              obtain ⟨rfl, rfl⟩ := hq
              refine Ev.steps tokX10_likely 5 (P := True) (pc' := 48) (lv' := [some (.ref 0), some (.int p1), some (.int p2), some (.int p3), some (.int p4)]) (st' := [.int 1, .int p4, .long 1000000000000, .ref 54]) (h' := mkS x S11) rfl trivial ?_
              cases h12 : gfX6_flow_54 x S11 1000000000000 p4 1 with
              | none => rw [h12] at hm; cases hm
              | some q13 =>
                obtain ⟨r14, S15⟩ := q13
                rw [h12] at hm
                dsimp only at hm
                refine ev_callV (N := mX6_flow) (d' := 6) (bc := 0) (bs := 0) (bc' := 0) (bs' := 0) (as := [.long 1000000000000, .int p4, .int 1]) (rest := []) (a := 54) (ci := 6) (dcd tokX10_likely rfl) okX6_flow inX6_flow seX6_flow lk10_266 rfl (by decide) (Nat.le_of_ble_eq_true rfl) rfl ⟨by decide, rfl⟩ (gpX6_flow_54 x S11 1000000000000 p4 1 _ _ h12) (fun v h' hq hn => ?_)
                obtain ⟨rfl, rfl⟩ := hq
                refine Ev.steps tokX10_likely 4 (P := True) (pc' := 57) (lv' := [some (.ref 0), some (.int p1), some (.int p2), some (.int p3), some (.int p4)]) (st' := [.int p3, .int p2, .ref 54]) (h' := mkS x S15) rfl trivial ?_
                cases h16 : gfX6_flowed_54 x S15 p2 p3 with
                | none => rw [h16] at hm; cases hm
                | some q17 =>
                  obtain ⟨r18, S19⟩ := q17
                  rw [h16] at hm
                  dsimp only at hm
                  refine ev_callV (N := mX6_flowed) (d' := 2) (bc := 0) (bs := 0) (bc' := 0) (bs' := 0) (as := [.int p2, .int p3]) (rest := []) (a := 54) (ci := 6) (dcd tokX10_likely rfl) okX6_flowed inX6_flowed seX6_flowed lk10_270 rfl (by decide) (Nat.le_of_ble_eq_true rfl) rfl ⟨by decide, rfl⟩ (gpX6_flowed_54 x S15 p2 p3 _ _ h16) (fun v h' hq hn => ?_)
                  obtain ⟨rfl, rfl⟩ := hq
                  cases hm
                  exact Ev.retl tokX10_likely rfl rfl ⟨rfl, rfl⟩
          · rw [if_neg c7] at hm
            refine Ev.fgt (lv' := [none, none, none, none, none]) trivial ?_
            exact bpX10_likely_0_22 x S4 _ _ hm
theorem gpX10_likely_0 (x : XT) (S : ST) (p1 : Int32) (p2 : Int32) (p3 : Int32) (p4 : Int32) (r : Int64) (S' : ST) (hm : gfX10_likely_0 x S p1 p2 p3 p4 = some (r, S')) : Ct mX10_likely 7 0 0 [.ref 0, .int p1, .int p2, .int p3, .int p4] (mkS x S) (fun v h => v = some (.long r) ∧ h = mkS x S') :=
  Ct.of (lv := [some (.ref 0), some (.int p1), some (.int p2), some (.int p3), some (.int p4)]) rfl rfl rfl (show (_ : Nat) ≤ _ from Nat.le_of_ble_eq_true rfl) (fun G => rfl) (bpX10_likely_0_0 x S p1 p2 p3 p4 r S' hm)
set_option maxHeartbeats 4000000 in
set_option maxRecDepth 20000 in
theorem bpJ7_fill_53178_23_5 (x : XT) (k5 : ST → Int32 → Int32 → Int32 → Option (Unit × ST)) (hk5 : ∀ (S : ST) (v1 : Int32) (v2 : Int32) (v3 : Int32) (r : Unit) (S' : ST), k5 S v1 v2 v3 = some (r, S') → Ev mJ7_fill_53178 1 0 0 5 [some (.ref 23), some (.int v1), some (.int v2), some (.int v3)] [] (mkS x S) (fun v h => v = none ∧ h = mkS x S')) (S : ST) (v1 : Int32) (v2 : Int32) (v3 : Int32) (r : Unit) (S' : ST) (hm : bfJ7_fill_53178_23_5 x k5 S v1 v2 v3 = some (r, S')) : Ev mJ7_fill_53178 1 0 0 5 [some (.ref 23), some (.int v1), some (.int v2), some (.int v3)] [] (mkS x S) (fun v h => v = none ∧ h = mkS x S') := by
    unfold bfJ7_fill_53178_23_5 at hm
    refine Ev.steps tokJ7_fill_53178 3 (P := True) (pc' := if v3 ≤ v2 then 20 else 10) (lv' := [some (.ref 23), some (.int v1), some (.int v2), some (.int v3)]) (st' := []) (h' := mkS x S) rfl trivial ?_
    refine Ev.ite (fun c1 => ?_) (fun c1 => ?_)
    · rw [if_pos c1] at hm
      cases hm
      exact Ev.retv tokJ7_fill_53178 rfl rfl ⟨rfl, rfl⟩
    · rw [if_neg c1] at hm
      obtain ⟨o2, hm⟩ := oblk hm
      refine Ev.steps tokJ7_fill_53178 6 (P := vp_in v2 20 ∧ True) (pc' := 5) (lv' := [some (.ref 23), some (.int v1), some (.int (v2 + 1)), some (.int v3)]) (st' := []) (h' := mkS x (S.1, (u2 S.2.1 23 v2.toNatClampNeg v1), S.2.2.1, S.2.2.2)) rfl ⟨inb_ok o2, trivial⟩ ?_
      exact hk5 (S.1, (u2 S.2.1 23 v2.toNatClampNeg v1), S.2.2.1, S.2.2.2) v1 (v2 + 1) v3 _ _ hm
theorem lpJ7_fill_53178_23_5 (x : XT)  : ∀ (n : Nat) (S : ST) (v1 : Int32) (v2 : Int32) (v3 : Int32) (r : Unit) (S' : ST), lfJ7_fill_53178_23_5 x  n S v1 v2 v3 = some (r, S') → Ev mJ7_fill_53178 1 0 0 5 [some (.ref 23), some (.int v1), some (.int v2), some (.int v3)] [] (mkS x S) (fun v h => v = none ∧ h = mkS x S')
  | 0, _, _, _, _, _, _, hm => by cases hm
  | n + 1, S, v1, v2, v3, r, S', hm => bpJ7_fill_53178_23_5 x (lfJ7_fill_53178_23_5 x  n) (lpJ7_fill_53178_23_5 x  n) S v1 v2 v3 r S' hm
set_option maxHeartbeats 4000000 in
set_option maxRecDepth 20000 in
theorem bpJ7_fill_53178_23_0 (x : XT)  (S : ST) (p1 : Int32) (r : Unit) (S' : ST) (hm : bfJ7_fill_53178_23_0 x  S p1 = some (r, S')) : Ev mJ7_fill_53178 1 0 0 0 [some (.ref 23), some (.int p1), none, none] [] (mkS x S) (fun v h => v = none ∧ h = mkS x S') := by
    unfold bfJ7_fill_53178_23_0 at hm
    refine Ev.steps tokJ7_fill_53178 5 (P := True) (pc' := 5) (lv' := [some (.ref 23), some (.int p1), some (.int 0), some (.int 20)]) (st' := []) (h' := mkS x S) rfl trivial ?_
    exact lpJ7_fill_53178_23_5 x  20000 S p1 0 20 _ _ hm
theorem gpJ7_fill_53178_23 (x : XT) (S : ST) (p1 : Int32) (r : Unit) (S' : ST) (hm : gfJ7_fill_53178_23 x S p1 = some (r, S')) : Ct mJ7_fill_53178 1 0 0 [.ref 23, .int p1] (mkS x S) (fun v h => v = none ∧ h = mkS x S') :=
  Ct.of (lv := [some (.ref 23), some (.int p1), none, none]) rfl rfl rfl (show (_ : Nat) ≤ _ from Nat.le_of_ble_eq_true rfl) (fun G => rfl) (bpJ7_fill_53178_23_0 x S p1 r S' hm)
set_option maxHeartbeats 4000000 in
set_option maxRecDepth 20000 in
theorem bpX0_roundAndRound_20_1_62 (x : XT)  (S : ST) (t0 : Int32) (r : Int32) (S' : ST) (hm : bfX0_roundAndRound_20_1_62 x  S t0 = some (r, S')) : Ev mX0_roundAndRound 4 0 0 62 [none, none, none, none, none, none, none] [.int t0] (mkS x S) (fun v h => v = some (.int r) ∧ h = mkS x S') := by
    unfold bfX0_roundAndRound_20_1_62 at hm
    cases hm
    exact Ev.reti tokX0_roundAndRound rfl rfl ⟨rfl, rfl⟩
set_option maxHeartbeats 4000000 in
set_option maxRecDepth 20000 in
theorem bpX0_roundAndRound_20_1_19 (x : XT) (k19 : ST → Int32 → Int32 → Int32 → Int32 → Int32 → Option (Int32 × ST)) (hk19 : ∀ (S : ST) (v2 : Int32) (v3 : Int32) (v4 : Int32) (v5 : Int32) (v6 : Int32) (r : Int32) (S' : ST), k19 S v2 v3 v4 v5 v6 = some (r, S') → Ev mX0_roundAndRound 4 0 0 19 [some (.ref 20), some (.ref 1), some (.int v2), some (.int v3), some (.int v4), some (.int v5), some (.int v6)] [] (mkS x S) (fun v h => v = some (.int r) ∧ h = mkS x S')) (S : ST) (v2 : Int32) (v3 : Int32) (v4 : Int32) (v5 : Int32) (v6 : Int32) (r : Int32) (S' : ST) (hm : bfX0_roundAndRound_20_1_19 x k19 S v2 v3 v4 v5 v6 = some (r, S')) : Ev mX0_roundAndRound 4 0 0 19 [some (.ref 20), some (.ref 1), some (.int v2), some (.int v3), some (.int v4), some (.int v5), some (.int v6)] [] (mkS x S) (fun v h => v = some (.int r) ∧ h = mkS x S') := by
    unfold bfX0_roundAndRound_20_1_19 at hm
    refine Ev.steps tokX0_roundAndRound 3 (P := True) (pc' := if 20 < v6 then 97 else 26) (lv' := [some (.ref 20), some (.ref 1), some (.int v2), some (.int v3), some (.int v4), some (.int v5), some (.int v6)]) (st' := []) (h' := mkS x S) rfl trivial ?_
    refine Ev.ite (fun c1 => ?_) (fun c1 => ?_)
    · rw [if_pos c1] at hm
      refine Ev.steps tokX0_roundAndRound 1 (P := True) (pc' := 98) (lv' := [some (.ref 20), some (.ref 1), some (.int v2), some (.int v3), some (.int v4), some (.int v5), some (.int v6)]) (st' := [.int (-1)]) (h' := mkS x S) rfl trivial ?_
      cases hm
      exact Ev.reti tokX0_roundAndRound rfl rfl ⟨rfl, rfl⟩
    · rw [if_neg c1] at hm
      obtain ⟨o2, hm⟩ := oblk hm
      refine Ev.steps tokX0_roundAndRound 6 (P := vp_in v5 20 ∧ True) (pc' := if (S.2.1 23 v5.toNatClampNeg) = (-1) then 63 else 37) (lv' := [some (.ref 20), some (.ref 1), some (.int v2), some (.int v3), some (.int v4), some (.int v5), some (.int v6)]) (st' := []) (h' := mkS x S) rfl ⟨inb_ok o2, trivial⟩ ?_
      refine Ev.ite (fun c3 => ?_) (fun c3 => ?_)
      · rw [if_pos c3] at hm
        obtain ⟨o4, hm⟩ := oblk hm
        refine Ev.steps tokX0_roundAndRound 10 (P := vp_in v5 20 ∧ True) (pc' := 78) (lv' := [some (.ref 20), some (.ref 1), some (.int v2), some (.int v3), some (.int v4), some (.int v5), some (.int v6)]) (st' := [.int v5, .int v3, .int v2, .ref 1, .ref 20]) (h' := mkS x (S.1, (u2 S.2.1 23 v5.toNatClampNeg v6), S.2.2.1, S.2.2.2)) rfl ⟨inb_ok o4, trivial⟩ ?_
        cases h5 : gfX0_regard_20_1 x (S.1, (u2 S.2.1 23 v5.toNatClampNeg v6), S.2.2.1, S.2.2.2) v2 v3 v5 with
        | none => rw [h5] at hm; cases hm
        | some q6 =>
          obtain ⟨r7, S8⟩ := q6
          rw [h5] at hm
          dsimp only at hm
          refine ev_callV (N := mX0_regard) (d' := 2) (bc := 0) (bs := 0) (bc' := 0) (bs' := 0) (as := [.ref 1, .int v2, .int v3, .int v5]) (rest := []) (a := 20) (ci := 0) (dcd tokX0_roundAndRound rfl) okX0_regard inX0_regard seX0_regard lk0_83 rfl (by decide) (Nat.le_of_ble_eq_true rfl) rfl ⟨by decide, rfl⟩ (gpX0_regard_20_1 x (S.1, (u2 S.2.1 23 v5.toNatClampNeg v6), S.2.2.1, S.2.2.2) v2 v3 v5 _ _ h5) (fun v h' hq hn => ?_)
          obtain ⟨rfl, rfl⟩ := hq
          refine Ev.steps tokX0_roundAndRound 3 (P := True) (pc' := 86) (lv' := [some (.ref 20), some (.ref 1), some (.int v2), some (.int v3), some (.int v4), some (.int v5), some (.int v6)]) (st' := [.int 260, .ref 1, .ref 20]) (h' := mkS x S8) rfl trivial ?_
          cases h9 : gfX0_told_20_1 x S8 260 with
          | none => rw [h9] at hm; cases hm
          | some q10 =>
            obtain ⟨r11, S12⟩ := q10
            rw [h9] at hm
            dsimp only at hm
            refine ev_callV (N := mX0_told) (d' := 3) (bc := 0) (bs := 0) (bc' := 0) (bs' := 0) (as := [.ref 1, .int 260]) (rest := []) (a := 20) (ci := 0) (dcd tokX0_roundAndRound rfl) okX0_told inX0_told seX0_told lk0_86 rfl (by decide) (Nat.le_of_ble_eq_true rfl) rfl ⟨by decide, rfl⟩ (gpX0_told_20_1 x S8 260 _ _ h9) (fun v h' hq hn => ?_)
            obtain ⟨rfl, rfl⟩ := hq
            refine Ev.steps tokX0_roundAndRound 3 (P := True) (pc' := 19) (lv' := [some (.ref 20), some (.ref 1), some (.int v2), some (.int v3), some (.int v4), some (.int r11), some (.int (v6 + 1))]) (st' := []) (h' := mkS x S12) rfl trivial ?_
            exact hk19 S12 v2 v3 v4 r11 (v6 + 1) _ _ hm
      · rw [if_neg c3] at hm
        refine Ev.steps tokX0_roundAndRound 2 (P := True) (pc' := if v4 = 0 then 52 else 42) (lv' := [some (.ref 20), some (.ref 1), some (.int v2), some (.int v3), some (.int v4), some (.int v5), some (.int v6)]) (st' := []) (h' := mkS x S) rfl trivial ?_
        refine Ev.ite (fun c13 => ?_) (fun c13 => ?_)
        · rw [if_pos c13] at hm
          obtain ⟨o14, hm⟩ := oblk hm
          refine Ev.steps tokX0_roundAndRound 6 (P := vp_in v5 20 ∧ True) (pc' := 62) (lv' := [some (.ref 20), some (.ref 1), some (.int v2), some (.int v3), some (.int v4), some (.int v5), some (.int v6)]) (st' := [.int (v6 - (S.2.1 23 v5.toNatClampNeg))]) (h' := mkS x S) rfl ⟨inb_ok o14, trivial⟩ ?_
          refine Ev.fgt (lv' := [none, none, none, none, none, none, none]) trivial ?_
          exact bpX0_roundAndRound_20_1_62 x S (v6 - (S.2.1 23 v5.toNatClampNeg)) _ _ hm
        · rw [if_neg c13] at hm
          obtain ⟨o15, hm⟩ := oblk hm
          refine Ev.steps tokX0_roundAndRound 5 (P := vp_in v5 20 ∧ True) (pc' := 62) (lv' := [some (.ref 20), some (.ref 1), some (.int v2), some (.int v3), some (.int v4), some (.int v5), some (.int v6)]) (st' := [.int (S.2.1 23 v5.toNatClampNeg)]) (h' := mkS x S) rfl ⟨inb_ok o15, trivial⟩ ?_
          refine Ev.fgt (lv' := [none, none, none, none, none, none, none]) trivial ?_
          exact bpX0_roundAndRound_20_1_62 x S (S.2.1 23 v5.toNatClampNeg) _ _ hm
theorem lpX0_roundAndRound_20_1_19 (x : XT)  : ∀ (n : Nat) (S : ST) (v2 : Int32) (v3 : Int32) (v4 : Int32) (v5 : Int32) (v6 : Int32) (r : Int32) (S' : ST), lfX0_roundAndRound_20_1_19 x  n S v2 v3 v4 v5 v6 = some (r, S') → Ev mX0_roundAndRound 4 0 0 19 [some (.ref 20), some (.ref 1), some (.int v2), some (.int v3), some (.int v4), some (.int v5), some (.int v6)] [] (mkS x S) (fun v h => v = some (.int r) ∧ h = mkS x S')
  | 0, _, _, _, _, _, _, _, _, hm => by cases hm
  | n + 1, S, v2, v3, v4, v5, v6, r, S', hm => bpX0_roundAndRound_20_1_19 x (lfX0_roundAndRound_20_1_19 x  n) (lpX0_roundAndRound_20_1_19 x  n) S v2 v3 v4 v5 v6 r S' hm
set_option maxHeartbeats 4000000 in
set_option maxRecDepth 20000 in
theorem bpX0_roundAndRound_20_1_0 (x : XT)  (S : ST) (p2 : Int32) (p3 : Int32) (p4 : Int32) (r : Int32) (S' : ST) (hm : bfX0_roundAndRound_20_1_0 x  S p2 p3 p4 = some (r, S')) : Ev mX0_roundAndRound 4 0 0 0 [some (.ref 20), some (.ref 1), some (.int p2), some (.int p3), some (.int p4), none, none] [] (mkS x S) (fun v h => v = some (.int r) ∧ h = mkS x S') := by
    unfold bfX0_roundAndRound_20_1_0 at hm
    refine Ev.steps tokX0_roundAndRound 3 (P := True) (pc' := 5) (lv' := [some (.ref 20), some (.ref 1), some (.int p2), some (.int p3), some (.int p4), none, none]) (st' := [.int (-1), .ref 23]) (h' := mkS x S) rfl trivial ?_
    cases h1 : gfJ7_fill_53178_23 x S (-1) with
    | none => rw [h1] at hm; cases hm
    | some q2 =>
      obtain ⟨r3, S4⟩ := q2
      rw [h1] at hm
      dsimp only at hm
      refine ev_callS (N := mJ7_fill_53178) (d' := 1) (bc := 0) (bs := 0) (bc' := 0) (bs' := 0) (as := [.ref 23, .int (-1)]) (rest := []) (dcd tokX0_roundAndRound rfl) okJ7_fill_53178 inJ7_fill_53178 lk0_103 rfl (by decide) (Nat.le_of_ble_eq_true rfl) (gpJ7_fill_53178_23 x S (-1) _ _ h1) (fun v h' hq hn => ?_)
      obtain ⟨rfl, rfl⟩ := hq
      obtain ⟨o5, hm⟩ := oblk hm
      refine Ev.steps tokX0_roundAndRound 7 (P := vp_in p2 5 ∧ True) (pc' := 19) (lv' := [some (.ref 20), some (.ref 1), some (.int p2), some (.int p3), some (.int p4), some (.int (S4.2.1 8 p2.toNatClampNeg)), some (.int 0)]) (st' := []) (h' := mkS x S4) rfl ⟨inb_ok o5, trivial⟩ ?_
      exact lpX0_roundAndRound_20_1_19 x  20000 S4 p2 p3 p4 (S4.2.1 8 p2.toNatClampNeg) 0 _ _ hm
theorem gpX0_roundAndRound_20_1 (x : XT) (S : ST) (p2 : Int32) (p3 : Int32) (p4 : Int32) (r : Int32) (S' : ST) (hm : gfX0_roundAndRound_20_1 x S p2 p3 p4 = some (r, S')) : Ct mX0_roundAndRound 4 0 0 [.ref 20, .ref 1, .int p2, .int p3, .int p4] (mkS x S) (fun v h => v = some (.int r) ∧ h = mkS x S') :=
  Ct.of (lv := [some (.ref 20), some (.ref 1), some (.int p2), some (.int p3), some (.int p4), none, none]) rfl rfl rfl (show (_ : Nat) ≤ _ from Nat.le_of_ble_eq_true rfl) (fun G => rfl) (bpX0_roundAndRound_20_1_0 x S p2 p3 p4 r S' hm)
set_option maxHeartbeats 4000000 in
set_option maxRecDepth 20000 in
theorem bpX10_again_0_30 (x : XT)  (S : ST)  (r : Int32) (S' : ST) (hm : bfX10_again_0_30 x  S  = some (r, S')) : Ev mX10_again 5 0 0 30 [none, none, none, none] [] (mkS x S) (fun v h => v = some (.int r) ∧ h = mkS x S') := by
    unfold bfX10_again_0_30 at hm
    refine Ev.steps tokX10_again 1 (P := True) (pc' := 31) (lv' := [none, none, none, none]) (st' := [.int (-1)]) (h' := mkS x S) rfl trivial ?_
    cases hm
    exact Ev.reti tokX10_again rfl rfl ⟨rfl, rfl⟩
set_option maxHeartbeats 4000000 in
set_option maxRecDepth 20000 in
theorem bpX10_again_0_51 (x : XT)  (S : ST) (t2 : Int32) (t3 : Int32) (t4 : Int32) (r : Int32) (S' : ST) (hm : bfX10_again_0_51 x  S t2 t3 t4 = some (r, S')) : Ev mX10_again 5 0 0 51 [none, none, none, none] [.int t4, .int t3, .int t2, .ref 1, .ref 20] (mkS x S) (fun v h => v = some (.int r) ∧ h = mkS x S') := by
    unfold bfX10_again_0_51 at hm
    cases h1 : gfX0_roundAndRound_20_1 x S t2 t3 t4 with
    | none => rw [h1] at hm; cases hm
    | some q2 =>
      obtain ⟨r3, S4⟩ := q2
      rw [h1] at hm
      dsimp only at hm
      refine ev_callV (N := mX0_roundAndRound) (d' := 4) (bc := 0) (bs := 0) (bc' := 0) (bs' := 0) (as := [.ref 1, .int t2, .int t3, .int t4]) (rest := []) (a := 20) (ci := 0) (dcd tokX10_again rfl) okX0_roundAndRound inX0_roundAndRound seX0_roundAndRound lk10_276 rfl (by decide) (Nat.le_of_ble_eq_true rfl) rfl ⟨by decide, rfl⟩ (gpX0_roundAndRound_20_1 x S t2 t3 t4 _ _ h1) (fun v h' hq hn => ?_)
      obtain ⟨rfl, rfl⟩ := hq
      cases hm
      exact Ev.reti tokX10_again rfl rfl ⟨rfl, rfl⟩
set_option maxHeartbeats 4000000 in
set_option maxRecDepth 20000 in
theorem bpX10_again_0_0 (x : XT)  (S : ST) (p1 : Int32) (p2 : Int32) (p3 : Int32) (r : Int32) (S' : ST) (hm : bfX10_again_0_0 x  S p1 p2 p3 = some (r, S')) : Ev mX10_again 5 0 0 0 [some (.ref 0), some (.int p1), some (.int p2), some (.int p3)] [] (mkS x S) (fun v h => v = some (.int r) ∧ h = mkS x S') := by
    unfold bfX10_again_0_0 at hm
    refine Ev.steps tokX10_again 3 (P := True) (pc' := 5) (lv' := [some (.ref 0), some (.int p1), some (.int p2), some (.int p3)]) (st' := [.int p1, .ref 1]) (h' := mkS x S) rfl trivial ?_
    cases h1 : gfX7_hasGoer_1 x S p1 with
    | none => rw [h1] at hm; cases hm
    | some q2 =>
      obtain ⟨r3, S4⟩ := q2
      rw [h1] at hm
      dsimp only at hm
      refine ev_callV (N := mX7_hasGoer) (d' := 1) (bc := 0) (bs := 0) (bc' := 0) (bs' := 0) (as := [.int p1]) (rest := []) (a := 1) (ci := 7) (dcd tokX10_again rfl) okX7_hasGoer inX7_hasGoer seX7_hasGoer lk10_134 rfl (by decide) (Nat.le_of_ble_eq_true rfl) rfl ⟨by decide, rfl⟩ (gpX7_hasGoer_1 x S p1 _ _ h1) (fun v h' hq hn => ?_)
      obtain ⟨rfl, rfl⟩ := hq
      refine Ev.steps tokX10_again 1 (P := True) (pc' := if r3 = 0 then 30 else 11) (lv' := [some (.ref 0), some (.int p1), some (.int p2), some (.int p3)]) (st' := []) (h' := mkS x S4) rfl trivial ?_
      refine Ev.ite (fun c5 => ?_) (fun c5 => ?_)
      · rw [if_pos c5] at hm
        refine Ev.fgt (lv' := [none, none, none, none]) trivial ?_
        exact bpX10_again_0_30 x S4 _ _ hm
      · rw [if_neg c5] at hm
        refine Ev.steps tokX10_again 3 (P := True) (pc' := 16) (lv' := [some (.ref 0), some (.int p1), some (.int p2), some (.int p3)]) (st' := [.int p2, .ref 1]) (h' := mkS x S4) rfl trivial ?_
        cases h6 : gfX7_hasGate_1 x S4 p2 with
        | none => rw [h6] at hm; cases hm
        | some q7 =>
          obtain ⟨r8, S9⟩ := q7
          rw [h6] at hm
          dsimp only at hm
          refine ev_callV (N := mX7_hasGate) (d' := 1) (bc := 0) (bs := 0) (bc' := 0) (bs' := 0) (as := [.int p2]) (rest := []) (a := 1) (ci := 7) (dcd tokX10_again rfl) okX7_hasGate inX7_hasGate seX7_hasGate lk10_111 rfl (by decide) (Nat.le_of_ble_eq_true rfl) rfl ⟨by decide, rfl⟩ (gpX7_hasGate_1 x S4 p2 _ _ h6) (fun v h' hq hn => ?_)
          obtain ⟨rfl, rfl⟩ := hq
          refine Ev.steps tokX10_again 1 (P := True) (pc' := if r8 = 0 then 30 else 22) (lv' := [some (.ref 0), some (.int p1), some (.int p2), some (.int p3)]) (st' := []) (h' := mkS x S9) rfl trivial ?_
          refine Ev.ite (fun c10 => ?_) (fun c10 => ?_)
          · rw [if_pos c10] at hm
            refine Ev.fgt (lv' := [none, none, none, none]) trivial ?_
            exact bpX10_again_0_30 x S9 _ _ hm
          · rw [if_neg c10] at hm
            refine Ev.steps tokX10_again 2 (P := True) (pc' := 24) (lv' := [some (.ref 0), some (.int p1), some (.int p2), some (.int p3)]) (st' := [.int 2, .int p3]) (h' := mkS x S9) rfl trivial ?_
            cases h11 : gfX10_within x S9 p3 2 with
            | none => rw [h11] at hm; cases hm
            | some q12 =>
              obtain ⟨r13, S14⟩ := q12
              rw [h11] at hm
              dsimp only at hm
              refine ev_callS (N := mX10_within) (d' := 1) (bc := 0) (bs := 0) (bc' := 0) (bs' := 0) (as := [.int p3, .int 2]) (rest := []) (dcd tokX10_again rfl) okX10_within inX10_within lk10_153 rfl (by decide) (Nat.le_of_ble_eq_true rfl) (gpX10_within x S9 p3 2 _ _ h11) (fun v h' hq hn => ?_)
              obtain ⟨rfl, rfl⟩ := hq
              refine Ev.steps tokX10_again 1 (P := True) (pc' := if ¬ r13 = 0 then 32 else 30) (lv' := [some (.ref 0), some (.int p1), some (.int p2), some (.int p3)]) (st' := []) (h' := mkS x S14) rfl trivial ?_
              refine Ev.ite (fun c15 => ?_) (fun c15 => ?_)
              · rw [if_pos c15] at hm
                refine Ev.steps tokX10_again 8 (P := True) (pc' := if ¬ p3 = 0 then 50 else 46) (lv' := [some (.ref 0), some (.int p1), some (.int p2), some (.int p3)]) (st' := [.int p2, .int p1, .ref 1, .ref 20]) (h' := mkS x S14) rfl trivial ?_
                refine Ev.ite (fun c16 => ?_) (fun c16 => ?_)
                · rw [if_pos c16] at hm
                  refine Ev.steps tokX10_again 1 (P := True) (pc' := 51) (lv' := [some (.ref 0), some (.int p1), some (.int p2), some (.int p3)]) (st' := [.int 0, .int p2, .int p1, .ref 1, .ref 20]) (h' := mkS x S14) rfl trivial ?_
                  refine Ev.fgt (lv' := [none, none, none, none]) trivial ?_
                  exact bpX10_again_0_51 x S14 p1 p2 0 _ _ hm
                · rw [if_neg c16] at hm
                  refine Ev.steps tokX10_again 2 (P := True) (pc' := 51) (lv' := [some (.ref 0), some (.int p1), some (.int p2), some (.int p3)]) (st' := [.int 1, .int p2, .int p1, .ref 1, .ref 20]) (h' := mkS x S14) rfl trivial ?_
                  refine Ev.fgt (lv' := [none, none, none, none]) trivial ?_
                  exact bpX10_again_0_51 x S14 p1 p2 1 _ _ hm
              · rw [if_neg c15] at hm
                refine Ev.fgt (lv' := [none, none, none, none]) trivial ?_
                exact bpX10_again_0_30 x S14 _ _ hm
theorem gpX10_again_0 (x : XT) (S : ST) (p1 : Int32) (p2 : Int32) (p3 : Int32) (r : Int32) (S' : ST) (hm : gfX10_again_0 x S p1 p2 p3 = some (r, S')) : Ct mX10_again 5 0 0 [.ref 0, .int p1, .int p2, .int p3] (mkS x S) (fun v h => v = some (.int r) ∧ h = mkS x S') :=
  Ct.of (lv := [some (.ref 0), some (.int p1), some (.int p2), some (.int p3)]) rfl rfl rfl (show (_ : Nat) ≤ _ from Nat.le_of_ble_eq_true rfl) (fun G => rfl) (bpX10_again_0_0 x S p1 p2 p3 r S' hm)
set_option maxHeartbeats 4000000 in
set_option maxRecDepth 20000 in
theorem bpX6_tryArm_54_12 (x : XT) (k12 : ST → Int32 → Int32 → Option (Unit × ST)) (hk12 : ∀ (S : ST) (v1 : Int32) (v3 : Int32) (r : Unit) (S' : ST), k12 S v1 v3 = some (r, S') → Ev mX6_tryArm 1 0 0 12 [some (.ref 54), some (.int v1), none, some (.int v3)] [] (mkS x S) (fun v h => v = none ∧ h = mkS x S')) (S : ST) (v1 : Int32) (v3 : Int32) (r : Unit) (S' : ST) (hm : bfX6_tryArm_54_12 x k12 S v1 v3 = some (r, S')) : Ev mX6_tryArm 1 0 0 12 [some (.ref 54), some (.int v1), none, some (.int v3)] [] (mkS x S) (fun v h => v = none ∧ h = mkS x S') := by
    unfold bfX6_tryArm_54_12 at hm
    refine Ev.steps tokX6_tryArm 3 (P := True) (pc' := if 20 ≤ v3 then 37 else 18) (lv' := [some (.ref 54), some (.int v1), none, some (.int v3)]) (st' := []) (h' := mkS x S) rfl trivial ?_
    refine Ev.ite (fun c1 => ?_) (fun c1 => ?_)
    · rw [if_pos c1] at hm
      cases hm
      exact Ev.retv tokX6_tryArm rfl rfl ⟨rfl, rfl⟩
    · rw [if_neg c1] at hm
      obtain ⟨o2, hm⟩ := oblk hm
      refine Ev.steps tokX6_tryArm 11 (P := vp_in ((v1 * 20) + v3) 200 ∧ True) (pc' := 12) (lv' := [some (.ref 54), some (.int v1), none, some (.int (v3 + 1))]) (st' := []) (h' := mkS x (S.1, (u2 S.2.1 70 (((v1 * 20) + v3).toNatClampNeg) (-2)), S.2.2.1, S.2.2.2)) rfl ⟨inb_ok o2, trivial⟩ ?_
      exact hk12 (S.1, (u2 S.2.1 70 (((v1 * 20) + v3).toNatClampNeg) (-2)), S.2.2.1, S.2.2.2) v1 (v3 + 1) _ _ hm
theorem lpX6_tryArm_54_12 (x : XT)  : ∀ (n : Nat) (S : ST) (v1 : Int32) (v3 : Int32) (r : Unit) (S' : ST), lfX6_tryArm_54_12 x  n S v1 v3 = some (r, S') → Ev mX6_tryArm 1 0 0 12 [some (.ref 54), some (.int v1), none, some (.int v3)] [] (mkS x S) (fun v h => v = none ∧ h = mkS x S')
  | 0, _, _, _, _, _, hm => by cases hm
  | n + 1, S, v1, v3, r, S', hm => bpX6_tryArm_54_12 x (lfX6_tryArm_54_12 x  n) (lpX6_tryArm_54_12 x  n) S v1 v3 r S' hm
set_option maxHeartbeats 4000000 in
set_option maxRecDepth 20000 in
theorem bpX6_tryArm_54_0 (x : XT)  (S : ST) (p1 : Int32) (p2 : Int32) (r : Unit) (S' : ST) (hm : bfX6_tryArm_54_0 x  S p1 p2 = some (r, S')) : Ev mX6_tryArm 1 0 0 0 [some (.ref 54), some (.int p1), some (.int p2), none] [] (mkS x S) (fun v h => v = none ∧ h = mkS x S') := by
    unfold bfX6_tryArm_54_0 at hm
    obtain ⟨o1, hm⟩ := oblk hm
    refine Ev.steps tokX6_tryArm 8 (P := vp_in p1 10 ∧ True) (pc' := 12) (lv' := [some (.ref 54), some (.int p1), some (.int p2), some (.int 0)]) (st' := []) (h' := mkS x (S.1, (u2 S.2.1 59 p1.toNatClampNeg p2), S.2.2.1, S.2.2.2)) rfl ⟨inb_ok o1, trivial⟩ ?_
    refine Ev.fgt (lv' := [some (.ref 54), some (.int p1), none, some (.int 0)]) ⟨rfl, rfl, rfl, trivial⟩ ?_
    exact lpX6_tryArm_54_12 x  20000 (S.1, (u2 S.2.1 59 p1.toNatClampNeg p2), S.2.2.1, S.2.2.2) p1 0 _ _ hm
theorem gpX6_tryArm_54 (x : XT) (S : ST) (p1 : Int32) (p2 : Int32) (r : Unit) (S' : ST) (hm : gfX6_tryArm_54 x S p1 p2 = some (r, S')) : Ct mX6_tryArm 1 0 0 [.ref 54, .int p1, .int p2] (mkS x S) (fun v h => v = none ∧ h = mkS x S') :=
  Ct.of (lv := [some (.ref 54), some (.int p1), some (.int p2), none]) rfl rfl rfl (show (_ : Nat) ≤ _ from Nat.le_of_ble_eq_true rfl) (fun G => rfl) (bpX6_tryArm_54_0 x S p1 p2 r S' hm)
set_option maxHeartbeats 4000000 in
set_option maxRecDepth 20000 in
theorem bpX6_firstFix_54_79 (x : XT) (k15 : ST → Int32 → Int32 → Int32 → Option (Int32 × ST)) (hk15 : ∀ (S : ST) (v1 : Int32) (v2 : Int32) (v3 : Int32) (r : Int32) (S' : ST), k15 S v1 v2 v3 = some (r, S') → Ev mX6_firstFix 6 0 0 15 [some (.ref 54), some (.int v1), some (.int v2), some (.int v3), none, none] [] (mkS x S) (fun v h => v = some (.int r) ∧ h = mkS x S')) (k40 : ST → Int32 → Int32 → Int32 → Int32 → Int32 → Option (Int32 × ST)) (hk40 : ∀ (S : ST) (v1 : Int32) (v2 : Int32) (v3 : Int32) (v4 : Int32) (v5 : Int32) (r : Int32) (S' : ST), k40 S v1 v2 v3 v4 v5 = some (r, S') → Ev mX6_firstFix 6 0 0 40 [some (.ref 54), some (.int v1), some (.int v2), some (.int v3), some (.int v4), some (.int v5)] [] (mkS x S) (fun v h => v = some (.int r) ∧ h = mkS x S')) (S : ST) (v1 : Int32) (v2 : Int32) (v3 : Int32) (v4 : Int32) (v5 : Int32) (r : Int32) (S' : ST) (hm : bfX6_firstFix_54_79 x k15 k40 S v1 v2 v3 v4 v5 = some (r, S')) : Ev mX6_firstFix 6 0 0 79 [some (.ref 54), some (.int v1), some (.int v2), some (.int v3), some (.int v4), some (.int v5)] [] (mkS x S) (fun v h => v = some (.int r) ∧ h = mkS x S') := by
    unfold bfX6_firstFix_54_79 at hm
    refine Ev.steps tokX6_firstFix 2 (P := True) (pc' := 40) (lv' := [some (.ref 54), some (.int v1), some (.int v2), some (.int v3), some (.int v4), some (.int (v5 + 1))]) (st' := []) (h' := mkS x S) rfl trivial ?_
    exact hk40 S v1 v2 v3 v4 (v5 + 1) _ _ hm
set_option maxHeartbeats 4000000 in
set_option maxRecDepth 20000 in
theorem bpX6_firstFix_54_40 (x : XT) (k15 : ST → Int32 → Int32 → Int32 → Option (Int32 × ST)) (hk15 : ∀ (S : ST) (v1 : Int32) (v2 : Int32) (v3 : Int32) (r : Int32) (S' : ST), k15 S v1 v2 v3 = some (r, S') → Ev mX6_firstFix 6 0 0 15 [some (.ref 54), some (.int v1), some (.int v2), some (.int v3), none, none] [] (mkS x S) (fun v h => v = some (.int r) ∧ h = mkS x S')) (k40 : ST → Int32 → Int32 → Int32 → Int32 → Int32 → Option (Int32 × ST)) (hk40 : ∀ (S : ST) (v1 : Int32) (v2 : Int32) (v3 : Int32) (v4 : Int32) (v5 : Int32) (r : Int32) (S' : ST), k40 S v1 v2 v3 v4 v5 = some (r, S') → Ev mX6_firstFix 6 0 0 40 [some (.ref 54), some (.int v1), some (.int v2), some (.int v3), some (.int v4), some (.int v5)] [] (mkS x S) (fun v h => v = some (.int r) ∧ h = mkS x S')) (S : ST) (v1 : Int32) (v2 : Int32) (v3 : Int32) (v4 : Int32) (v5 : Int32) (r : Int32) (S' : ST) (hm : bfX6_firstFix_54_40 x k15 k40 S v1 v2 v3 v4 v5 = some (r, S')) : Ev mX6_firstFix 6 0 0 40 [some (.ref 54), some (.int v1), some (.int v2), some (.int v3), some (.int v4), some (.int v5)] [] (mkS x S) (fun v h => v = some (.int r) ∧ h = mkS x S') := by
    unfold bfX6_firstFix_54_40 at hm
    refine Ev.steps tokX6_firstFix 3 (P := True) (pc' := if 10 ≤ v5 then 85 else 47) (lv' := [some (.ref 54), some (.int v1), some (.int v2), some (.int v3), some (.int v4), some (.int v5)]) (st' := []) (h' := mkS x S) rfl trivial ?_
    refine Ev.ite (fun c1 => ?_) (fun c1 => ?_)
    · rw [if_pos c1] at hm
      refine Ev.steps tokX6_firstFix 3 (P := True) (pc' := 89) (lv' := [some (.ref 54), some (.int v1), some (.int v2), some (.int v3), some (.int v4), some (.int v5)]) (st' := [.int v4, .int v3, .ref 54]) (h' := mkS x S) rfl trivial ?_
      cases h2 : gfX6_tryArm_54 x S v3 v4 with
      | none => rw [h2] at hm; cases hm
      | some q3 =>
        obtain ⟨r4, S5⟩ := q3
        rw [h2] at hm
        dsimp only at hm
        refine ev_callV (N := mX6_tryArm) (d' := 1) (bc := 0) (bs := 0) (bc' := 0) (bs' := 0) (as := [.int v3, .int v4]) (rest := []) (a := 54) (ci := 6) (dcd tokX6_firstFix rfl) okX6_tryArm inX6_tryArm seX6_tryArm lk6_141 rfl (by decide) (Nat.le_of_ble_eq_true rfl) rfl ⟨by decide, rfl⟩ (gpX6_tryArm_54 x S v3 v4 _ _ h2) (fun v h' hq hn => ?_)
        obtain ⟨rfl, rfl⟩ := hq
        refine Ev.steps tokX6_firstFix 2 (P := True) (pc' := 15) (lv' := [some (.ref 54), some (.int v1), some (.int v2), some (.int (v3 + 1)), some (.int v4), some (.int v5)]) (st' := []) (h' := mkS x S5) rfl trivial ?_
        refine Ev.fgt (lv' := [some (.ref 54), some (.int v1), some (.int v2), some (.int (v3 + 1)), none, none]) ⟨rfl, rfl, rfl, rfl, trivial⟩ ?_
        exact hk15 S5 v1 v2 (v3 + 1) _ _ hm
    · rw [if_neg c1] at hm
      refine Ev.steps tokX6_firstFix 3 (P := True) (pc' := 51) (lv' := [some (.ref 54), some (.int v1), some (.int v2), some (.int v3), some (.int v4), some (.int v5)]) (st' := [.int v5, .int v3, .ref 54]) (h' := mkS x S) rfl trivial ?_
      cases h6 : gfX6_tryArm_54 x S v3 v5 with
      | none => rw [h6] at hm; cases hm
      | some q7 =>
        obtain ⟨r8, S9⟩ := q7
        rw [h6] at hm
        dsimp only at hm
        refine ev_callV (N := mX6_tryArm) (d' := 1) (bc := 0) (bs := 0) (bc' := 0) (bs' := 0) (as := [.int v3, .int v5]) (rest := []) (a := 54) (ci := 6) (dcd tokX6_firstFix rfl) okX6_tryArm inX6_tryArm seX6_tryArm lk6_141 rfl (by decide) (Nat.le_of_ble_eq_true rfl) rfl ⟨by decide, rfl⟩ (gpX6_tryArm_54 x S v3 v5 _ _ h6) (fun v h' hq hn => ?_)
        obtain ⟨rfl, rfl⟩ := hq
        refine Ev.steps tokX6_firstFix 3 (P := True) (pc' := if v5 = v4 then 79 else 61) (lv' := [some (.ref 54), some (.int v1), some (.int v2), some (.int v3), some (.int v4), some (.int v5)]) (st' := []) (h' := mkS x S9) rfl trivial ?_
        refine Ev.ite (fun c10 => ?_) (fun c10 => ?_)
        · rw [if_pos c10] at hm
          exact bpX6_firstFix_54_79 x k15 hk15 k40 hk40 S9 v1 v2 v3 v4 v5 _ _ hm
        · rw [if_neg c10] at hm
          refine Ev.steps tokX6_firstFix 3 (P := True) (pc' := 64) (lv' := [some (.ref 54), some (.int v1), some (.int v2), some (.int v3), some (.int v4), some (.int v5)]) (st' := [.int v2, .int v1, .ref 54]) (h' := mkS x S9) rfl trivial ?_
          cases h11 : gfX6_find_54 x S9 v1 v2 with
          | none => rw [h11] at hm; cases hm
          | some q12 =>
            obtain ⟨r13, S14⟩ := q12
            rw [h11] at hm
            dsimp only at hm
            refine ev_callV (N := mX6_find) (d' := 5) (bc := 0) (bs := 0) (bc' := 0) (bs' := 0) (as := [.int v1, .int v2]) (rest := []) (a := 54) (ci := 6) (dcd tokX6_firstFix rfl) okX6_find inX6_find seX6_find lk6_115 rfl (by decide) (Nat.le_of_ble_eq_true rfl) rfl ⟨by decide, rfl⟩ (gpX6_find_54 x S9 v1 v2 _ _ h11) (fun v h' hq hn => ?_)
            obtain ⟨rfl, rfl⟩ := hq
            refine Ev.steps tokX6_firstFix 2 (P := True) (pc' := if r13 = (-1) then 79 else 71) (lv' := [some (.ref 54), some (.int v1), some (.int v2), some (.int v3), some (.int v4), some (.int v5)]) (st' := []) (h' := mkS x S14) rfl trivial ?_
            refine Ev.ite (fun c15 => ?_) (fun c15 => ?_)
            · rw [if_pos c15] at hm
              exact bpX6_firstFix_54_79 x k15 hk15 k40 hk40 S14 v1 v2 v3 v4 v5 _ _ hm
            · rw [if_neg c15] at hm
              refine Ev.steps tokX6_firstFix 5 (P := True) (pc' := 78) (lv' := [some (.ref 54), some (.int v1), some (.int v2), some (.int v3), some (.int v4), some (.int v5)]) (st' := [.int ((10 * v3) + v5)]) (h' := mkS x S14) rfl trivial ?_
              cases hm
              exact Ev.reti tokX6_firstFix rfl rfl ⟨rfl, rfl⟩
theorem lpX6_firstFix_54_40 (x : XT) (k15 : ST → Int32 → Int32 → Int32 → Option (Int32 × ST)) (hk15 : ∀ (S : ST) (v1 : Int32) (v2 : Int32) (v3 : Int32) (r : Int32) (S' : ST), k15 S v1 v2 v3 = some (r, S') → Ev mX6_firstFix 6 0 0 15 [some (.ref 54), some (.int v1), some (.int v2), some (.int v3), none, none] [] (mkS x S) (fun v h => v = some (.int r) ∧ h = mkS x S')) : ∀ (n : Nat) (S : ST) (v1 : Int32) (v2 : Int32) (v3 : Int32) (v4 : Int32) (v5 : Int32) (r : Int32) (S' : ST), lfX6_firstFix_54_40 x k15 n S v1 v2 v3 v4 v5 = some (r, S') → Ev mX6_firstFix 6 0 0 40 [some (.ref 54), some (.int v1), some (.int v2), some (.int v3), some (.int v4), some (.int v5)] [] (mkS x S) (fun v h => v = some (.int r) ∧ h = mkS x S')
  | 0, _, _, _, _, _, _, _, _, hm => by cases hm
  | n + 1, S, v1, v2, v3, v4, v5, r, S', hm => bpX6_firstFix_54_40 x k15 hk15 (lfX6_firstFix_54_40 x k15 n) (lpX6_firstFix_54_40 x k15 hk15 n) S v1 v2 v3 v4 v5 r S' hm
set_option maxHeartbeats 4000000 in
set_option maxRecDepth 20000 in
theorem bpX6_firstFix_54_15 (x : XT) (k15 : ST → Int32 → Int32 → Int32 → Option (Int32 × ST)) (hk15 : ∀ (S : ST) (v1 : Int32) (v2 : Int32) (v3 : Int32) (r : Int32) (S' : ST), k15 S v1 v2 v3 = some (r, S') → Ev mX6_firstFix 6 0 0 15 [some (.ref 54), some (.int v1), some (.int v2), some (.int v3), none, none] [] (mkS x S) (fun v h => v = some (.int r) ∧ h = mkS x S')) (S : ST) (v1 : Int32) (v2 : Int32) (v3 : Int32) (r : Int32) (S' : ST) (hm : bfX6_firstFix_54_15 x k15 S v1 v2 v3 = some (r, S')) : Ev mX6_firstFix 6 0 0 15 [some (.ref 54), some (.int v1), some (.int v2), some (.int v3), none, none] [] (mkS x S) (fun v h => v = some (.int r) ∧ h = mkS x S') := by
    unfold bfX6_firstFix_54_15 at hm
    refine Ev.steps tokX6_firstFix 5 (P := True) (pc' := if (S.1 55 0) ≤ v3 then 98 else 26) (lv' := [some (.ref 54), some (.int v1), some (.int v2), some (.int v3), none, none]) (st' := []) (h' := mkS x S) rfl trivial ?_
    refine Ev.ite (fun c1 => ?_) (fun c1 => ?_)
    · rw [if_pos c1] at hm
      refine Ev.steps tokX6_firstFix 1 (P := True) (pc' := 99) (lv' := [some (.ref 54), some (.int v1), some (.int v2), some (.int v3), none, none]) (st' := [.int (-1)]) (h' := mkS x S) rfl trivial ?_
      cases hm
      exact Ev.reti tokX6_firstFix rfl rfl ⟨rfl, rfl⟩
    · rw [if_neg c1] at hm
      obtain ⟨o2, hm⟩ := oblk hm
      refine Ev.steps tokX6_firstFix 8 (P := vp_in v3 10 ∧ True) (pc' := 40) (lv' := [some (.ref 54), some (.int v1), some (.int v2), some (.int v3), some (.int (S.2.1 59 v3.toNatClampNeg)), some (.int 0)]) (st' := []) (h' := mkS x S) rfl ⟨inb_ok o2, trivial⟩ ?_
      exact lpX6_firstFix_54_40 x k15 hk15 20000 S v1 v2 v3 (S.2.1 59 v3.toNatClampNeg) 0 _ _ hm
theorem lpX6_firstFix_54_15 (x : XT)  : ∀ (n : Nat) (S : ST) (v1 : Int32) (v2 : Int32) (v3 : Int32) (r : Int32) (S' : ST), lfX6_firstFix_54_15 x  n S v1 v2 v3 = some (r, S') → Ev mX6_firstFix 6 0 0 15 [some (.ref 54), some (.int v1), some (.int v2), some (.int v3), none, none] [] (mkS x S) (fun v h => v = some (.int r) ∧ h = mkS x S')
  | 0, _, _, _, _, _, _, hm => by cases hm
  | n + 1, S, v1, v2, v3, r, S', hm => bpX6_firstFix_54_15 x (lfX6_firstFix_54_15 x  n) (lpX6_firstFix_54_15 x  n) S v1 v2 v3 r S' hm
set_option maxHeartbeats 4000000 in
set_option maxRecDepth 20000 in
theorem bpX6_firstFix_54_0 (x : XT)  (S : ST) (p1 : Int32) (p2 : Int32) (r : Int32) (S' : ST) (hm : bfX6_firstFix_54_0 x  S p1 p2 = some (r, S')) : Ev mX6_firstFix 6 0 0 0 [some (.ref 54), some (.int p1), some (.int p2), none, none, none] [] (mkS x S) (fun v h => v = some (.int r) ∧ h = mkS x S') := by
    unfold bfX6_firstFix_54_0 at hm
    refine Ev.steps tokX6_firstFix 3 (P := True) (pc' := 3) (lv' := [some (.ref 54), some (.int p1), some (.int p2), none, none, none]) (st' := [.int p2, .int p1, .ref 54]) (h' := mkS x S) rfl trivial ?_
    cases h1 : gfX6_find_54 x S p1 p2 with
    | none => rw [h1] at hm; cases hm
    | some q2 =>
      obtain ⟨r3, S4⟩ := q2
      rw [h1] at hm
      dsimp only at hm
      refine ev_callV (N := mX6_find) (d' := 5) (bc := 0) (bs := 0) (bc' := 0) (bs' := 0) (as := [.int p1, .int p2]) (rest := []) (a := 54) (ci := 6) (dcd tokX6_firstFix rfl) okX6_find inX6_find seX6_find lk6_115 rfl (by decide) (Nat.le_of_ble_eq_true rfl) rfl ⟨by decide, rfl⟩ (gpX6_find_54 x S p1 p2 _ _ h1) (fun v h' hq hn => ?_)
      obtain ⟨rfl, rfl⟩ := hq
      refine Ev.steps tokX6_firstFix 2 (P := True) (pc' := if r3 = (-1) then 13 else 10) (lv' := [some (.ref 54), some (.int p1), some (.int p2), none, none, none]) (st' := []) (h' := mkS x S4) rfl trivial ?_
      refine Ev.ite (fun c5 => ?_) (fun c5 => ?_)
      · rw [if_pos c5] at hm
        refine Ev.steps tokX6_firstFix 2 (P := True) (pc' := 15) (lv' := [some (.ref 54), some (.int p1), some (.int p2), some (.int 0), none, none]) (st' := []) (h' := mkS x S4) rfl trivial ?_
        exact lpX6_firstFix_54_15 x  20000 S4 p1 p2 0 _ _ hm
      · rw [if_neg c5] at hm
        refine Ev.steps tokX6_firstFix 1 (P := True) (pc' := 12) (lv' := [some (.ref 54), some (.int p1), some (.int p2), none, none, none]) (st' := [.int 100]) (h' := mkS x S4) rfl trivial ?_
        cases hm
        exact Ev.reti tokX6_firstFix rfl rfl ⟨rfl, rfl⟩
theorem gpX6_firstFix_54 (x : XT) (S : ST) (p1 : Int32) (p2 : Int32) (r : Int32) (S' : ST) (hm : gfX6_firstFix_54 x S p1 p2 = some (r, S')) : Ct mX6_firstFix 6 0 0 [.ref 54, .int p1, .int p2] (mkS x S) (fun v h => v = some (.int r) ∧ h = mkS x S') :=
  Ct.of (lv := [some (.ref 54), some (.int p1), some (.int p2), none, none, none]) rfl rfl rfl (show (_ : Nat) ≤ _ from Nat.le_of_ble_eq_true rfl) (fun G => rfl) (bpX6_firstFix_54_0 x S p1 p2 r S' hm)
end MIR
