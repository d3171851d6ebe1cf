section MIR
set_option maxHeartbeats 4000000 in
set_option maxRecDepth 20000 in
theorem bpX1_changeArm_33_0 (x : XT)  (S : ST) (p1 : Int32) (p2 : Int32) (r : Int32) (S' : ST) (hm : bfX1_changeArm_33_0 x  S p1 p2 = some (r, S')) : Ev mX1_changeArm 2 0 0 0 [some (.ref 33), some (.int p1), some (.int p2), none] [] (mkS x S) (fun v h => v = some (.int r) ∧ h = mkS x S') := by
    unfold bfX1_changeArm_33_0 at hm
    refine Ev.steps tokX1_changeArm 2 (P := True) (pc' := 3) (lv' := [some (.ref 33), some (.int p1), some (.int p2), none]) (st' := [.int 10, .int p2]) (h' := mkS x S) rfl trivial ?_
    cases h1 : gfX10_within x S p2 10 with
    | none => rw [h1] at hm; cases hm
    | some q2 =>
      obtain ⟨r3, S4⟩ := q2
      rw [h1] at hm
      dsimp only at hm
      refine ev_callSN (N := mX10_within) (d' := 1) (bc := 0) (bs := 0) (bc' := 0) (bs' := 0) (as := [.int p2, .int 10]) (rest := []) (dcd tokX1_changeArm rfl) okX10_within inX10_within lk1_73 rfl (by decide) (Nat.le_of_ble_eq_true rfl) (gpX10_within x S p2 10 _ _ h1) (fun v h' hq hn => ?_)
      obtain ⟨rfl, rfl⟩ := hq
      refine Ev.steps tokX1_changeArm 1 (P := True) (pc' := if ¬ r3 = 0 then 11 else 9) (lv' := [some (.ref 33), some (.int p1), some (.int p2), none]) (st' := []) (h' := mkS x S4) rfl trivial ?_
      refine Ev.ite (fun c5 => ?_) (fun c5 => ?_)
      · rw [if_pos c5] at hm
        refine Ev.steps tokX1_changeArm 3 (P := True) (pc' := 16) (lv' := [some (.ref 33), some (.int p1), some (.int p2), none]) (st' := [.int p1, .ref 1]) (h' := mkS x S4) rfl trivial ?_
        cases h6 : gfX7_hasGate_1 x S4 p1 with
        | none => rw [h6] at hm; cases hm
        | some q7 =>
          obtain ⟨r8, S9⟩ := q7
          rw [h6] at hm
          dsimp only at hm
          refine ev_callV (N := mX7_hasGate) (d' := 1) (bc := 0) (bs := 0) (bc' := 0) (bs' := 0) (as := [.int p1]) (rest := []) (a := 1) (ci := 7) (dcd tokX1_changeArm rfl) okX7_hasGate inX7_hasGate seX7_hasGate lk1_43 rfl (by decide) (Nat.le_of_ble_eq_true rfl) rfl ⟨by decide, rfl⟩ (gpX7_hasGate_1 x S4 p1 _ _ h6) (fun v h' hq hn => ?_)
          obtain ⟨rfl, rfl⟩ := hq
          refine Ev.steps tokX1_changeArm 1 (P := True) (pc' := if ¬ r8 = 0 then 25 else 22) (lv' := [some (.ref 33), some (.int p1), some (.int p2), none]) (st' := []) (h' := mkS x S9) rfl trivial ?_
          refine Ev.ite (fun c10 => ?_) (fun c10 => ?_)
          · rw [if_pos c10] at hm
            obtain ⟨o11, hm⟩ := oblk hm
            refine Ev.steps tokX1_changeArm 9 (P := vp_in p1 10 ∧ True) (pc' := if ¬ (S9.2.1 5 p1.toNatClampNeg) = p2 then 43 else 40) (lv' := [some (.ref 33), some (.int p1), some (.int p2), some (.int (S9.2.1 5 p1.toNatClampNeg))]) (st' := []) (h' := mkS x S9) rfl ⟨inb_ok o11, trivial⟩ ?_
            refine Ev.ite (fun c12 => ?_) (fun c12 => ?_)
            · rw [if_pos c12] at hm
              refine Ev.steps tokX1_changeArm 6 (P := True) (pc' := 51) (lv' := [some (.ref 33), some (.int p1), some (.int p2), some (.int (S9.2.1 5 p1.toNatClampNeg))]) (st' := [.int 0, .int 0, .int (S9.2.1 5 p1.toNatClampNeg), .int p1, .int 265, .ref 33]) (h' := mkS x S9) rfl trivial ?_
              cases h13 : gfX1_keep_33 x S9 265 p1 (S9.2.1 5 p1.toNatClampNeg) 0 0 with
              | none => rw [h13] at hm; cases hm
              | some q14 =>
                obtain ⟨r15, S16⟩ := q14
                rw [h13] at hm
                dsimp only at hm
                refine ev_callV (N := mX1_keep) (d' := 1) (bc := 0) (bs := 0) (bc' := 0) (bs' := 0) (as := [.int 265, .int p1, .int (S9.2.1 5 p1.toNatClampNeg), .int 0, .int 0]) (rest := []) (a := 33) (ci := 1) (dcd tokX1_changeArm rfl) okX1_keep inX1_keep seX1_keep lk1_61 rfl (by decide) (Nat.le_of_ble_eq_true rfl) rfl ⟨by decide, rfl⟩ (gpX1_keep_33 x S9 265 p1 (S9.2.1 5 p1.toNatClampNeg) 0 0 _ _ h13) (fun v h' hq hn => ?_)
                obtain ⟨rfl, rfl⟩ := hq
                obtain ⟨o17, hm⟩ := oblk hm
                refine Ev.steps tokX1_changeArm 7 (P := vp_in p1 10 ∧ True) (pc' := 65) (lv' := [some (.ref 33), some (.int p1), some (.int p2), some (.int (S9.2.1 5 p1.toNatClampNeg))]) (st' := [.int (S9.2.1 5 p1.toNatClampNeg)]) (h' := mkS x (S16.1, (u2 S16.2.1 5 p1.toNatClampNeg p2), S16.2.2.1, S16.2.2.2)) rfl ⟨inb_ok o17, trivial⟩ ?_
                cases hm
                exact Ev.reti tokX1_changeArm rfl rfl ⟨rfl, rfl⟩
            · rw [if_neg c12] at hm
              refine Ev.steps tokX1_changeArm 1 (P := True) (pc' := 42) (lv' := [some (.ref 33), some (.int p1), some (.int p2), some (.int (S9.2.1 5 p1.toNatClampNeg))]) (st' := [.int (-3)]) (h' := mkS x S9) rfl trivial ?_
              cases hm
              exact Ev.reti tokX1_changeArm rfl rfl ⟨rfl, rfl⟩
          · rw [if_neg c10] at hm
            refine Ev.steps tokX1_changeArm 1 (P := True) (pc' := 24) (lv' := [some (.ref 33), some (.int p1), some (.int p2), none]) (st' := [.int (-2)]) (h' := mkS x S9) rfl trivial ?_
            cases hm
            exact Ev.reti tokX1_changeArm rfl rfl ⟨rfl, rfl⟩
      · rw [if_neg c5] at hm
        refine Ev.steps tokX1_changeArm 1 (P := True) (pc' := 10) (lv' := [some (.ref 33), some (.int p1), some (.int p2), none]) (st' := [.int (-1)]) (h' := mkS x S4) rfl trivial ?_
        cases hm
        exact Ev.reti tokX1_changeArm rfl rfl ⟨rfl, rfl⟩
theorem gpX1_changeArm_33 (x : XT) (S : ST) (p1 : Int32) (p2 : Int32) (r : Int32) (S' : ST) (hm : gfX1_changeArm_33 x S p1 p2 = some (r, S')) : Ct mX1_changeArm 2 0 0 [.ref 33, .int p1, .int p2] (mkS x S) (fun v h => v = some (.int r) ∧ h = mkS x S') :=
  Ct.of (lv := [some (.ref 33), some (.int p1), some (.int p2), none]) rfl rfl rfl (show (_ : Nat) ≤ _ from Nat.le_of_ble_eq_true rfl) (fun G => rfl) (bpX1_changeArm_33_0 x S p1 p2 r S' hm)
set_option maxHeartbeats 4000000 in
set_option maxRecDepth 20000 in
theorem bpX1_nextDay_33_0 (x : XT)  (S : ST)  (r : Int32) (S' : ST) (hm : bfX1_nextDay_33_0 x  S  = some (r, S')) : Ev mX1_nextDay 2 0 0 0 [some (.ref 33)] [] (mkS x S) (fun v h => v = some (.int r) ∧ h = mkS x S') := by
    unfold bfX1_nextDay_33_0 at hm
    refine Ev.steps tokX1_nextDay 7 (P := vp_in 0 3 ∧ True) (pc' := if (S.2.1 14 0) < 999 then 18 else 15) (lv' := [some (.ref 33)]) (st' := []) (h' := mkS x S) rfl ⟨(by unfold vp_in; decide), trivial⟩ ?_
    refine Ev.ite (fun c1 => ?_) (fun c1 => ?_)
    · rw [if_pos c1] at hm
      refine Ev.steps tokX1_nextDay 6 (P := True) (pc' := 26) (lv' := [some (.ref 33)]) (st' := [.int 0, .int 0, .int 0, .int 0, .int 266, .ref 33]) (h' := mkS x S) rfl trivial ?_
      cases h2 : gfX1_keep_33 x S 266 0 0 0 0 with
      | none => rw [h2] at hm; cases hm
      | some q3 =>
        obtain ⟨r4, S5⟩ := q3
        rw [h2] at hm
        dsimp only at hm
        refine ev_callV (N := mX1_keep) (d' := 1) (bc := 0) (bs := 0) (bc' := 0) (bs' := 0) (as := [.int 266, .int 0, .int 0, .int 0, .int 0]) (rest := []) (a := 33) (ci := 1) (dcd tokX1_nextDay rfl) okX1_keep inX1_keep seX1_keep lk1_61 rfl (by decide) (Nat.le_of_ble_eq_true rfl) rfl ⟨by decide, rfl⟩ (gpX1_keep_33 x S 266 0 0 0 0 _ _ h2) (fun v h' hq hn => ?_)
        obtain ⟨rfl, rfl⟩ := hq
        refine Ev.steps tokX1_nextDay 14 (P := vp_in 0 3 ∧ vp_in 0 3 ∧ vp_in 0 3 ∧ True) (pc' := 51) (lv' := [some (.ref 33)]) (st' := [.int ((S5.2.1 14 0) + 1)]) (h' := mkS x (S5.1, (u2 S5.2.1 14 0 ((S5.2.1 14 0) + 1)), S5.2.2.1, S5.2.2.2)) rfl ⟨(by unfold vp_in; decide), (by unfold vp_in; decide), (by unfold vp_in; decide), trivial⟩ ?_
        cases hm
        exact Ev.reti tokX1_nextDay rfl rfl ⟨rfl, rfl⟩
    · rw [if_neg c1] at hm
      refine Ev.steps tokX1_nextDay 1 (P := True) (pc' := 17) (lv' := [some (.ref 33)]) (st' := [.int (-3)]) (h' := mkS x S) rfl trivial ?_
      cases hm
      exact Ev.reti tokX1_nextDay rfl rfl ⟨rfl, rfl⟩
theorem gpX1_nextDay_33 (x : XT) (S : ST)  (r : Int32) (S' : ST) (hm : gfX1_nextDay_33 x S  = some (r, S')) : Ct mX1_nextDay 2 0 0 [.ref 33] (mkS x S) (fun v h => v = some (.int r) ∧ h = mkS x S') :=
  Ct.of (lv := [some (.ref 33)]) rfl rfl rfl (show (_ : Nat) ≤ _ from Nat.le_of_ble_eq_true rfl) (fun G => rfl) (bpX1_nextDay_33_0 x S  r S' hm)
set_option maxHeartbeats 4000000 in
set_option maxRecDepth 20000 in
theorem bpX9_has_25_30 (x : XT)  (S : ST) (t0 : Int32) (r : Int32) (S' : ST) (hm : bfX9_has_25_30 x  S t0 = some (r, S')) : Ev mX9_has 1 0 0 30 [none, none, none] [.int t0] (mkS x S) (fun v h => v = some (.int r) ∧ h = mkS x S') := by
    unfold bfX9_has_25_30 at hm
    obtain ⟨o1, hm⟩ := oblk hm
    cases hm
    exact Ev.retz tokX9_has rfl rfl (bbz_ok o1) ⟨rfl, rfl⟩
set_option maxHeartbeats 4000000 in
set_option maxRecDepth 20000 in
theorem bpX9_has_25_0 (x : XT)  (S : ST) (p1 : Int32) (p2 : Int32) (r : Int32) (S' : ST) (hm : bfX9_has_25_0 x  S p1 p2 = some (r, S')) : Ev mX9_has 1 0 0 0 [some (.ref 25), some (.int p1), some (.int p2)] [] (mkS x S) (fun v h => v = some (.int r) ∧ h = mkS x S') := by
    unfold bfX9_has_25_0 at hm
    obtain ⟨o1, hm⟩ := oblk hm
    obtain ⟨o2, hm⟩ := oblk hm
    refine Ev.steps tokX9_has 19 (P := vp_in ((4 * p1) + p2) 48 ∧ vp_in (((4 * p1) + p2) + 1) 48 ∧ True) (pc' := if (S.2.1 28 ((((4 * p1) + p2) + 1).toNatClampNeg)) ≤ (S.2.1 28 (((4 * p1) + p2).toNatClampNeg)) then 29 else 25) (lv' := [some (.ref 25), some (.int p1), some (.int p2)]) (st' := []) (h' := mkS x S) rfl ⟨inb_ok o1, inb_ok o2, trivial⟩ ?_
    refine Ev.ite (fun c3 => ?_) (fun c3 => ?_)
    · rw [if_pos c3] at hm
      refine Ev.steps tokX9_has 1 (P := True) (pc' := 30) (lv' := [some (.ref 25), some (.int p1), some (.int p2)]) (st' := [.int 0]) (h' := mkS x S) rfl trivial ?_
      refine Ev.fgt (lv' := [none, none, none]) trivial ?_
      exact bpX9_has_25_30 x S 0 _ _ hm
    · rw [if_neg c3] at hm
      refine Ev.steps tokX9_has 2 (P := True) (pc' := 30) (lv' := [some (.ref 25), some (.int p1), some (.int p2)]) (st' := [.int 1]) (h' := mkS x S) rfl trivial ?_
      refine Ev.fgt (lv' := [none, none, none]) trivial ?_
      exact bpX9_has_25_30 x S 1 _ _ hm
theorem gpX9_has_25 (x : XT) (S : ST) (p1 : Int32) (p2 : Int32) (r : Int32) (S' : ST) (hm : gfX9_has_25 x S p1 p2 = some (r, S')) : Ct mX9_has 1 0 0 [.ref 25, .int p1, .int p2] (mkS x S) (fun v h => v = some (.int r) ∧ h = mkS x S') :=
  Ct.of (lv := [some (.ref 25), some (.int p1), some (.int p2)]) rfl rfl rfl (show (_ : Nat) ≤ _ from Nat.le_of_ble_eq_true rfl) (fun G => rfl) (bpX9_has_25_0 x S p1 p2 r S' hm)
set_option maxHeartbeats 4000000 in
set_option maxRecDepth 20000 in
theorem bpX9_reckon_25_52_53_298 (x : XT)  (S : ST) (t0 : Int32) (r : Int32) (S' : ST) (hm : bfX9_reckon_25_52_53_298 x  S t0 = some (r, S')) : Ev mX9_reckon 2 0 0 298 [none, none, none, none, none, none, none, none, none, none, none] [.int t0] (mkS x S) (fun v h => v = some (.int r) ∧ h = mkS x S') := by
    unfold bfX9_reckon_25_52_53_298 at hm
    cases hm
    exact Ev.reti tokX9_reckon rfl rfl ⟨rfl, rfl⟩
set_option maxHeartbeats 4000000 in
set_option maxRecDepth 20000 in
theorem bpX9_reckon_25_52_53_111 (x : XT)  (S : ST)  (r : Int32) (S' : ST) (hm : bfX9_reckon_25_52_53_111 x  S  = some (r, S')) : Ev mX9_reckon 2 0 0 111 [none, none, none, none, none, none, none, none, none, none, none] [] (mkS x S) (fun v h => v = some (.int r) ∧ h = mkS x S') := by
    unfold bfX9_reckon_25_52_53_111 at hm
    refine Ev.steps tokX9_reckon 1 (P := True) (pc' := 113) (lv' := [none, none, none, none, none, none, none, none, none, none, none]) (st' := [.int (-2000000000)]) (h' := mkS x S) rfl trivial ?_
    cases hm
    exact Ev.reti tokX9_reckon rfl rfl ⟨rfl, rfl⟩
set_option maxHeartbeats 4000000 in
set_option maxRecDepth 20000 in
theorem bpX9_reckon_25_52_53_278 (x : XT) (k36 : ST → Int32 → Int32 → Int32 → Option (Int32 × ST)) (hk36 : ∀ (S : ST) (v5 : Int32) (v6 : Int32) (v7 : Int32) (r : Int32) (S' : ST), k36 S v5 v6 v7 = some (r, S') → Ev mX9_reckon 2 0 0 36 [some (.ref 25), none, none, some (.ref 52), some (.ref 53), some (.int v5), some (.int v6), some (.int v7), none, none, none] [] (mkS x S) (fun v h => v = some (.int r) ∧ h = mkS x S')) (S : ST) (v5 : Int32) (v6 : Int32) (v7 : Int32) (r : Int32) (S' : ST) (hm : bfX9_reckon_25_52_53_278 x k36 S v5 v6 v7 = some (r, S')) : Ev mX9_reckon 2 0 0 278 [some (.ref 25), none, none, some (.ref 52), some (.ref 53), some (.int v5), some (.int v6), some (.int v7), none, none, none] [] (mkS x S) (fun v h => v = some (.int r) ∧ h = mkS x S') := by
    unfold bfX9_reckon_25_52_53_278 at hm
    refine Ev.steps tokX9_reckon 2 (P := True) (pc' := 36) (lv' := [some (.ref 25), none, none, some (.ref 52), some (.ref 53), some (.int v5), some (.int v6), some (.int (v7 + 1)), none, none, none]) (st' := []) (h' := mkS x S) rfl trivial ?_
    exact hk36 S v5 v6 (v7 + 1) _ _ hm
set_option maxHeartbeats 4000000 in
set_option maxRecDepth 20000 in
theorem bpX9_reckon_25_52_53_135 (x : XT) (k36 : ST → Int32 → Int32 → Int32 → Option (Int32 × ST)) (hk36 : ∀ (S : ST) (v5 : Int32) (v6 : Int32) (v7 : Int32) (r : Int32) (S' : ST), k36 S v5 v6 v7 = some (r, S') → Ev mX9_reckon 2 0 0 36 [some (.ref 25), none, none, some (.ref 52), some (.ref 53), some (.int v5), some (.int v6), some (.int v7), none, none, none] [] (mkS x S) (fun v h => v = some (.int r) ∧ h = mkS x S')) (S : ST) (v5 : Int32) (v6 : Int32) (v7 : Int32) (t1 : Int32) (t2 : Int32) (r : Int32) (S' : ST) (hm : bfX9_reckon_25_52_53_135 x k36 S v5 v6 v7 t1 t2 = some (r, S')) : Ev mX9_reckon 2 0 0 135 [some (.ref 25), none, none, some (.ref 52), some (.ref 53), some (.int v5), some (.int v6), some (.int v7), none, none, none] [.int t2, .int t1, .ref 53] (mkS x S) (fun v h => v = some (.int r) ∧ h = mkS x S') := by
    unfold bfX9_reckon_25_52_53_135 at hm
    obtain ⟨o1, hm⟩ := oblk hm
    refine Ev.steps tokX9_reckon 2 (P := vp_in t1 50 ∧ True) (pc' := 278) (lv' := [some (.ref 25), none, none, some (.ref 52), some (.ref 53), some (.int v5), some (.int v6), some (.int v7), none, none, none]) (st' := []) (h' := mkS x (S.1, (u2 S.2.1 53 t1.toNatClampNeg t2), S.2.2.1, S.2.2.2)) rfl ⟨inb_ok o1, trivial⟩ ?_
    exact bpX9_reckon_25_52_53_278 x k36 hk36 (S.1, (u2 S.2.1 53 t1.toNatClampNeg t2), S.2.2.1, S.2.2.2) v5 v6 v7 _ _ hm
set_option maxHeartbeats 4000000 in
set_option maxRecDepth 20000 in
theorem bpX9_reckon_25_52_53_114 (x : XT) (k36 : ST → Int32 → Int32 → Int32 → Option (Int32 × ST)) (hk36 : ∀ (S : ST) (v5 : Int32) (v6 : Int32) (v7 : Int32) (r : Int32) (S' : ST), k36 S v5 v6 v7 = some (r, S') → Ev mX9_reckon 2 0 0 36 [some (.ref 25), none, none, some (.ref 52), some (.ref 53), some (.int v5), some (.int v6), some (.int v7), none, none, none] [] (mkS x S) (fun v h => v = some (.int r) ∧ h = mkS x S')) (S : ST) (v5 : Int32) (v6 : Int32) (v7 : Int32) (v8 : Int32) (v9 : Int32) (r : Int32) (S' : ST) (hm : bfX9_reckon_25_52_53_114 x k36 S v5 v6 v7 v8 v9 = some (r, S')) : Ev mX9_reckon 2 0 0 114 [some (.ref 25), none, none, some (.ref 52), some (.ref 53), some (.int v5), some (.int v6), some (.int v7), some (.int v8), some (.int v9), none] [] (mkS x S) (fun v h => v = some (.int r) ∧ h = mkS x S') := by
    unfold bfX9_reckon_25_52_53_114 at hm
    refine Ev.steps tokX9_reckon 5 (P := True) (pc' := if ¬ v8 = 256 then 131 else 126) (lv' := [some (.ref 25), none, none, some (.ref 52), some (.ref 53), some (.int v5), some (.int v6), some (.int v7), some (.int v8), some (.int v9), none]) (st' := [.int v6, .ref 53]) (h' := mkS x S) rfl trivial ?_
    refine Ev.ite (fun c1 => ?_) (fun c1 => ?_)
    · rw [if_pos c1] at hm
      obtain ⟨o2, hm⟩ := oblk hm
      refine Ev.steps tokX9_reckon 3 (P := vp_in v9 24 ∧ True) (pc' := 135) (lv' := [some (.ref 25), none, none, some (.ref 52), some (.ref 53), some (.int v5), some (.int v6), some (.int v7), some (.int v8), some (.int v9), none]) (st' := [.int (S.2.1 52 v9.toNatClampNeg), .int v6, .ref 53]) (h' := mkS x S) rfl ⟨inb_ok o2, trivial⟩ ?_
      refine Ev.fgt (lv' := [some (.ref 25), none, none, some (.ref 52), some (.ref 53), some (.int v5), some (.int v6), some (.int v7), none, none, none]) ⟨rfl, rfl, rfl, rfl, rfl, rfl, trivial⟩ ?_
      exact bpX9_reckon_25_52_53_135 x k36 hk36 S v5 v6 v7 v6 (S.2.1 52 v9.toNatClampNeg) _ _ hm
    · rw [if_neg c1] at hm
      refine Ev.steps tokX9_reckon 2 (P := True) (pc' := 135) (lv' := [some (.ref 25), none, none, some (.ref 52), some (.ref 53), some (.int v5), some (.int v6), some (.int v7), some (.int v8), some (.int v9), none]) (st' := [.int v9, .int v6, .ref 53]) (h' := mkS x S) rfl trivial ?_
      refine Ev.fgt (lv' := [some (.ref 25), none, none, some (.ref 52), some (.ref 53), some (.int v5), some (.int v6), some (.int v7), none, none, none]) ⟨rfl, rfl, rfl, rfl, rfl, rfl, trivial⟩ ?_
      exact bpX9_reckon_25_52_53_135 x k36 hk36 S v5 v6 v7 v6 v9 _ _ hm
set_option maxHeartbeats 4000000 in
set_option maxRecDepth 20000 in
theorem bpX9_reckon_25_52_53_85 (x : XT) (k36 : ST → Int32 → Int32 → Int32 → Option (Int32 × ST)) (hk36 : ∀ (S : ST) (v5 : Int32) (v6 : Int32) (v7 : Int32) (r : Int32) (S' : ST), k36 S v5 v6 v7 = some (r, S') → Ev mX9_reckon 2 0 0 36 [some (.ref 25), none, none, some (.ref 52), some (.ref 53), some (.int v5), some (.int v6), some (.int v7), none, none, none] [] (mkS x S) (fun v h => v = some (.int r) ∧ h = mkS x S')) (S : ST) (v5 : Int32) (v6 : Int32) (v7 : Int32) (v8 : Int32) (v9 : Int32) (r : Int32) (S' : ST) (hm : bfX9_reckon_25_52_53_85 x k36 S v5 v6 v7 v8 v9 = some (r, S')) : Ev mX9_reckon 2 0 0 85 [some (.ref 25), none, none, some (.ref 52), some (.ref 53), some (.int v5), some (.int v6), some (.int v7), some (.int v8), some (.int v9), none] [] (mkS x S) (fun v h => v = some (.int r) ∧ h = mkS x S') := by
    unfold bfX9_reckon_25_52_53_85 at hm
    refine Ev.steps tokX9_reckon 5 (P := True) (pc' := if 50 ≤ (v6 + 1) then 111 else 96) (lv' := [some (.ref 25), none, none, some (.ref 52), some (.ref 53), some (.int v5), some (.int (v6 + 1)), some (.int v7), some (.int v8), some (.int v9), none]) (st' := []) (h' := mkS x S) rfl trivial ?_
    refine Ev.ite (fun c1 => ?_) (fun c1 => ?_)
    · rw [if_pos c1] at hm
      refine Ev.fgt (lv' := [none, none, none, none, none, none, none, none, none, none, none]) trivial ?_
      exact bpX9_reckon_25_52_53_111 x S _ _ hm
    · rw [if_neg c1] at hm
      refine Ev.steps tokX9_reckon 4 (P := True) (pc' := if v9 < 24 then 114 else 103) (lv' := [some (.ref 25), none, none, some (.ref 52), some (.ref 53), some (.int v5), some (.int (v6 + 1)), some (.int v7), some (.int v8), some (.int v9), none]) (st' := []) (h' := mkS x S) rfl trivial ?_
      refine Ev.ite (fun c2 => ?_) (fun c2 => ?_)
      · rw [if_pos c2] at hm
        exact bpX9_reckon_25_52_53_114 x k36 hk36 S v5 (v6 + 1) v7 v8 v9 _ _ hm
      · rw [if_neg c2] at hm
        refine Ev.steps tokX9_reckon 3 (P := True) (pc' := if ¬ v8 = 259 then 114 else 111) (lv' := [some (.ref 25), none, none, some (.ref 52), some (.ref 53), some (.int v5), some (.int (v6 + 1)), some (.int v7), some (.int v8), some (.int v9), none]) (st' := []) (h' := mkS x S) rfl trivial ?_
        refine Ev.ite (fun c3 => ?_) (fun c3 => ?_)
        · rw [if_pos c3] at hm
          exact bpX9_reckon_25_52_53_114 x k36 hk36 S v5 (v6 + 1) v7 v8 v9 _ _ hm
        · rw [if_neg c3] at hm
          refine Ev.fgt (lv' := [none, none, none, none, none, none, none, none, none, none, none]) trivial ?_
          exact bpX9_reckon_25_52_53_111 x S _ _ hm
set_option maxHeartbeats 4000000 in
set_option maxRecDepth 20000 in
theorem bpX9_reckon_25_52_53_204 (x : XT) (k36 : ST → Int32 → Int32 → Int32 → Option (Int32 × ST)) (hk36 : ∀ (S : ST) (v5 : Int32) (v6 : Int32) (v7 : Int32) (r : Int32) (S' : ST), k36 S v5 v6 v7 = some (r, S') → Ev mX9_reckon 2 0 0 36 [some (.ref 25), none, none, some (.ref 52), some (.ref 53), some (.int v5), some (.int v6), some (.int v7), none, none, none] [] (mkS x S) (fun v h => v = some (.int r) ∧ h = mkS x S')) (S : ST) (v5 : Int32) (v6 : Int32) (v7 : Int32) (v9 : Int32) (t0 : Int32) (t1 : Int32) (r : Int32) (S' : ST) (hm : bfX9_reckon_25_52_53_204 x k36 S v5 v6 v7 v9 t0 t1 = some (r, S')) : Ev mX9_reckon 2 0 0 204 [some (.ref 25), none, none, some (.ref 52), some (.ref 53), some (.int v5), some (.int v6), some (.int v7), none, some (.int v9), none] [.int t1, .int t0] (mkS x S) (fun v h => v = some (.int r) ∧ h = mkS x S') := by
    unfold bfX9_reckon_25_52_53_204 at hm
    refine Ev.steps tokX9_reckon 1 (P := True) (pc' := if ¬ t0 = t1 then 221 else 207) (lv' := [some (.ref 25), none, none, some (.ref 52), some (.ref 53), some (.int v5), some (.int v6), some (.int v7), none, some (.int v9), none]) (st' := []) (h' := mkS x S) rfl trivial ?_
    refine Ev.ite (fun c1 => ?_) (fun c1 => ?_)
    · rw [if_pos c1] at hm
      refine Ev.steps tokX9_reckon 2 (P := True) (pc' := 278) (lv' := [some (.ref 25), none, none, some (.ref 52), some (.ref 53), some (.int v5), some (.int (v6 + (-1))), some (.int v7), none, some (.int v9), none]) (st' := []) (h' := mkS x S) rfl trivial ?_
      refine Ev.fgt (lv' := [some (.ref 25), none, none, some (.ref 52), some (.ref 53), some (.int v5), some (.int (v6 + (-1))), some (.int v7), none, none, none]) ⟨rfl, rfl, rfl, rfl, rfl, rfl, trivial⟩ ?_
      exact bpX9_reckon_25_52_53_278 x k36 hk36 S v5 (v6 + (-1)) v7 _ _ hm
    · rw [if_neg c1] at hm
      refine Ev.steps tokX9_reckon 4 (P := True) (pc' := 213) (lv' := [some (.ref 25), none, none, some (.ref 52), some (.ref 53), some (.int v5), some (.int v6), some (.int v7), none, some (.int v9), none]) (st' := [.int (v9 - 1), .int v7]) (h' := mkS x S) rfl trivial ?_
      refine ev_max (dcd tokX9_reckon rfl) lk9_47 mt_max.1 mt_in.1 mt_max.2 (by decide) (Nat.le_of_ble_eq_true rfl) ?_
      refine Ev.steps tokX9_reckon 2 (P := True) (pc' := 278) (lv' := [some (.ref 25), none, none, some (.ref 52), some (.ref 53), some (.int v5), some (.int v6), some (.int (if v7 < (v9 - 1) then (v9 - 1) else v7)), none, some (.int v9), none]) (st' := []) (h' := mkS x S) rfl trivial ?_
      refine Ev.fgt (lv' := [some (.ref 25), none, none, some (.ref 52), some (.ref 53), some (.int v5), some (.int v6), some (.int (if v7 < (v9 - 1) then (v9 - 1) else v7)), none, none, none]) ⟨rfl, rfl, rfl, rfl, rfl, rfl, trivial⟩ ?_
      exact bpX9_reckon_25_52_53_278 x k36 hk36 S v5 v6 (if v7 < (v9 - 1) then (v9 - 1) else v7) _ _ hm
set_option maxHeartbeats 4000000 in
set_option maxRecDepth 20000 in
theorem bpX9_reckon_25_52_53_186 (x : XT) (k36 : ST → Int32 → Int32 → Int32 → Option (Int32 × ST)) (hk36 : ∀ (S : ST) (v5 : Int32) (v6 : Int32) (v7 : Int32) (r : Int32) (S' : ST), k36 S v5 v6 v7 = some (r, S') → Ev mX9_reckon 2 0 0 36 [some (.ref 25), none, none, some (.ref 52), some (.ref 53), some (.int v5), some (.int v6), some (.int v7), none, none, none] [] (mkS x S) (fun v h => v = some (.int r) ∧ h = mkS x S')) (S : ST) (v5 : Int32) (v6 : Int32) (v7 : Int32) (v8 : Int32) (v9 : Int32) (r : Int32) (S' : ST) (hm : bfX9_reckon_25_52_53_186 x k36 S v5 v6 v7 v8 v9 = some (r, S')) : Ev mX9_reckon 2 0 0 186 [some (.ref 25), none, none, some (.ref 52), some (.ref 53), some (.int v5), some (.int v6), some (.int v7), some (.int v8), some (.int v9), none] [] (mkS x S) (fun v h => v = some (.int r) ∧ h = mkS x S') := by
    unfold bfX9_reckon_25_52_53_186 at hm
    obtain ⟨o1, hm⟩ := oblk hm
    refine Ev.steps tokX9_reckon 6 (P := vp_in v6 50 ∧ True) (pc' := if ¬ v8 = 271 then 203 else 199) (lv' := [some (.ref 25), none, none, some (.ref 52), some (.ref 53), some (.int v5), some (.int v6), some (.int v7), some (.int v8), some (.int v9), none]) (st' := [.int (S.2.1 53 v6.toNatClampNeg)]) (h' := mkS x S) rfl ⟨inb_ok o1, trivial⟩ ?_
    refine Ev.ite (fun c2 => ?_) (fun c2 => ?_)
    · rw [if_pos c2] at hm
      refine Ev.steps tokX9_reckon 1 (P := True) (pc' := 204) (lv' := [some (.ref 25), none, none, some (.ref 52), some (.ref 53), some (.int v5), some (.int v6), some (.int v7), some (.int v8), some (.int v9), none]) (st' := [.int 0, .int (S.2.1 53 v6.toNatClampNeg)]) (h' := mkS x S) rfl trivial ?_
      refine Ev.fgt (lv' := [some (.ref 25), none, none, some (.ref 52), some (.ref 53), some (.int v5), some (.int v6), some (.int v7), none, some (.int v9), none]) ⟨rfl, rfl, rfl, rfl, rfl, rfl, rfl, trivial⟩ ?_
      exact bpX9_reckon_25_52_53_204 x k36 hk36 S v5 v6 v7 v9 (S.2.1 53 v6.toNatClampNeg) 0 _ _ hm
    · rw [if_neg c2] at hm
      refine Ev.steps tokX9_reckon 2 (P := True) (pc' := 204) (lv' := [some (.ref 25), none, none, some (.ref 52), some (.ref 53), some (.int v5), some (.int v6), some (.int v7), some (.int v8), some (.int v9), none]) (st' := [.int 1, .int (S.2.1 53 v6.toNatClampNeg)]) (h' := mkS x S) rfl trivial ?_
      refine Ev.fgt (lv' := [some (.ref 25), none, none, some (.ref 52), some (.ref 53), some (.int v5), some (.int v6), some (.int v7), none, some (.int v9), none]) ⟨rfl, rfl, rfl, rfl, rfl, rfl, rfl, trivial⟩ ?_
      exact bpX9_reckon_25_52_53_204 x k36 hk36 S v5 v6 v7 v9 (S.2.1 53 v6.toNatClampNeg) 1 _ _ hm
set_option maxHeartbeats 4000000 in
set_option maxRecDepth 20000 in
theorem bpX9_reckon_25_52_53_259 (x : XT) (k36 : ST → Int32 → Int32 → Int32 → Option (Int32 × ST)) (hk36 : ∀ (S : ST) (v5 : Int32) (v6 : Int32) (v7 : Int32) (r : Int32) (S' : ST), k36 S v5 v6 v7 = some (r, S') → Ev mX9_reckon 2 0 0 36 [some (.ref 25), none, none, some (.ref 52), some (.ref 53), some (.int v5), some (.int v6), some (.int v7), none, none, none] [] (mkS x S) (fun v h => v = some (.int r) ∧ h = mkS x S')) (S : ST) (v5 : Int32) (v6 : Int32) (v7 : Int32) (t0 : Int32) (r : Int32) (S' : ST) (hm : bfX9_reckon_25_52_53_259 x k36 S v5 v6 v7 t0 = some (r, S')) : Ev mX9_reckon 2 0 0 259 [some (.ref 25), none, none, some (.ref 52), some (.ref 53), some (.int v5), some (.int v6), some (.int v7), none, none, none] [.int t0] (mkS x S) (fun v h => v = some (.int r) ∧ h = mkS x S') := by
    unfold bfX9_reckon_25_52_53_259 at hm
    refine Ev.steps tokX9_reckon 4 (P := True) (pc' := if ¬ t0 = (-2000000000) then 271 else 268) (lv' := [some (.ref 25), none, none, some (.ref 52), some (.ref 53), some (.int v5), some (.int v6), some (.int v7), none, none, some (.int t0)]) (st' := []) (h' := mkS x S) rfl trivial ?_
    refine Ev.ite (fun c1 => ?_) (fun c1 => ?_)
    · rw [if_pos c1] at hm
      obtain ⟨o2, hm⟩ := oblk hm
      refine Ev.steps tokX9_reckon 4 (P := vp_in v6 50 ∧ True) (pc' := 278) (lv' := [some (.ref 25), none, none, some (.ref 52), some (.ref 53), some (.int v5), some (.int v6), some (.int v7), none, none, some (.int t0)]) (st' := []) (h' := mkS x (S.1, (u2 S.2.1 53 v6.toNatClampNeg t0), S.2.2.1, S.2.2.2)) rfl ⟨inb_ok o2, trivial⟩ ?_
      refine Ev.fgt (lv' := [some (.ref 25), none, none, some (.ref 52), some (.ref 53), some (.int v5), some (.int v6), some (.int v7), none, none, none]) ⟨rfl, rfl, rfl, rfl, rfl, rfl, trivial⟩ ?_
      exact bpX9_reckon_25_52_53_278 x k36 hk36 (S.1, (u2 S.2.1 53 v6.toNatClampNeg t0), S.2.2.1, S.2.2.2) v5 v6 v7 _ _ hm
    · rw [if_neg c1] at hm
      refine Ev.steps tokX9_reckon 1 (P := True) (pc' := 270) (lv' := [some (.ref 25), none, none, some (.ref 52), some (.ref 53), some (.int v5), some (.int v6), some (.int v7), none, none, some (.int t0)]) (st' := [.int (-2000000000)]) (h' := mkS x S) rfl trivial ?_
      cases hm
      exact Ev.reti tokX9_reckon rfl rfl ⟨rfl, rfl⟩
set_option maxHeartbeats 4000000 in
set_option maxRecDepth 20000 in
theorem bpX9_reckon_25_52_53_36 (x : XT) (k36 : ST → Int32 → Int32 → Int32 → Option (Int32 × ST)) (hk36 : ∀ (S : ST) (v5 : Int32) (v6 : Int32) (v7 : Int32) (r : Int32) (S' : ST), k36 S v5 v6 v7 = some (r, S') → Ev mX9_reckon 2 0 0 36 [some (.ref 25), none, none, some (.ref 52), some (.ref 53), some (.int v5), some (.int v6), some (.int v7), none, none, none] [] (mkS x S) (fun v h => v = some (.int r) ∧ h = mkS x S')) (S : ST) (v5 : Int32) (v6 : Int32) (v7 : Int32) (r : Int32) (S' : ST) (hm : bfX9_reckon_25_52_53_36 x k36 S v5 v6 v7 = some (r, S')) : Ev mX9_reckon 2 0 0 36 [some (.ref 25), none, none, some (.ref 52), some (.ref 53), some (.int v5), some (.int v6), some (.int v7), none, none, none] [] (mkS x S) (fun v h => v = some (.int r) ∧ h = mkS x S') := by
    unfold bfX9_reckon_25_52_53_36 at hm
    refine Ev.steps tokX9_reckon 3 (P := True) (pc' := if v5 ≤ v7 then 284 else 43) (lv' := [some (.ref 25), none, none, some (.ref 52), some (.ref 53), some (.int v5), some (.int v6), some (.int v7), none, none, none]) (st' := []) (h' := mkS x S) rfl trivial ?_
    refine Ev.ite (fun c1 => ?_) (fun c1 => ?_)
    · rw [if_pos c1] at hm
      refine Ev.steps tokX9_reckon 2 (P := True) (pc' := if ¬ v6 = 0 then 296 else 289) (lv' := [some (.ref 25), none, none, some (.ref 52), some (.ref 53), some (.int v5), some (.int v6), some (.int v7), none, none, none]) (st' := []) (h' := mkS x S) rfl trivial ?_
      refine Ev.ite (fun c2 => ?_) (fun c2 => ?_)
      · rw [if_pos c2] at hm
        refine Ev.steps tokX9_reckon 1 (P := True) (pc' := 298) (lv' := [some (.ref 25), none, none, some (.ref 52), some (.ref 53), some (.int v5), some (.int v6), some (.int v7), none, none, none]) (st' := [.int (-2000000000)]) (h' := mkS x S) rfl trivial ?_
        refine Ev.fgt (lv' := [none, none, none, none, none, none, none, none, none, none, none]) trivial ?_
        exact bpX9_reckon_25_52_53_298 x S (-2000000000) _ _ hm
      · rw [if_neg c2] at hm
        refine Ev.steps tokX9_reckon 4 (P := vp_in 0 50 ∧ True) (pc' := 298) (lv' := [some (.ref 25), none, none, some (.ref 52), some (.ref 53), some (.int v5), some (.int v6), some (.int v7), none, none, none]) (st' := [.int (S.2.1 53 0)]) (h' := mkS x S) rfl ⟨(by unfold vp_in; decide), trivial⟩ ?_
        refine Ev.fgt (lv' := [none, none, none, none, none, none, none, none, none, none, none]) trivial ?_
        exact bpX9_reckon_25_52_53_298 x S (S.2.1 53 0) _ _ hm
    · rw [if_neg c1] at hm
      obtain ⟨o3, hm⟩ := oblk hm
      obtain ⟨o4, hm⟩ := oblk hm
      refine Ev.steps tokX9_reckon 17 (P := vp_in v7 400 ∧ ¬ 512 = 0 ∧ vp_in v7 400 ∧ ¬ 512 = 0 ∧ True) (pc' := if ((S.2.1 29 v7.toNatClampNeg) - (S.2.1 29 v7.toNatClampNeg) / 512 * 512) = 256 then 85 else 77) (lv' := [some (.ref 25), none, none, some (.ref 52), some (.ref 53), some (.int v5), some (.int v6), some (.int v7), some (.int ((S.2.1 29 v7.toNatClampNeg) - (S.2.1 29 v7.toNatClampNeg) / 512 * 512)), some (.int ((S.2.1 29 v7.toNatClampNeg) / 512)), none]) (st' := []) (h' := mkS x S) rfl ⟨inb_ok o3, (by decide), inb_ok o4, (by decide), trivial⟩ ?_
      refine Ev.ite (fun c5 => ?_) (fun c5 => ?_)
      · rw [if_pos c5] at hm
        exact bpX9_reckon_25_52_53_85 x k36 hk36 S v5 v6 v7 ((S.2.1 29 v7.toNatClampNeg) - (S.2.1 29 v7.toNatClampNeg) / 512 * 512) ((S.2.1 29 v7.toNatClampNeg) / 512) _ _ hm
      · rw [if_neg c5] at hm
        refine Ev.steps tokX9_reckon 3 (P := True) (pc' := if ¬ ((S.2.1 29 v7.toNatClampNeg) - (S.2.1 29 v7.toNatClampNeg) / 512 * 512) = 259 then 139 else 85) (lv' := [some (.ref 25), none, none, some (.ref 52), some (.ref 53), some (.int v5), some (.int v6), some (.int v7), some (.int ((S.2.1 29 v7.toNatClampNeg) - (S.2.1 29 v7.toNatClampNeg) / 512 * 512)), some (.int ((S.2.1 29 v7.toNatClampNeg) / 512)), none]) (st' := []) (h' := mkS x S) rfl trivial ?_
        refine Ev.ite (fun c6 => ?_) (fun c6 => ?_)
        · rw [if_pos c6] at hm
          refine Ev.steps tokX9_reckon 2 (P := True) (pc' := if 0 ≤ v6 then 147 else 144) (lv' := [some (.ref 25), none, none, some (.ref 52), some (.ref 53), some (.int v5), some (.int v6), some (.int v7), some (.int ((S.2.1 29 v7.toNatClampNeg) - (S.2.1 29 v7.toNatClampNeg) / 512 * 512)), some (.int ((S.2.1 29 v7.toNatClampNeg) / 512)), none]) (st' := []) (h' := mkS x S) rfl trivial ?_
          refine Ev.ite (fun c7 => ?_) (fun c7 => ?_)
          · rw [if_pos c7] at hm
            refine Ev.steps tokX9_reckon 3 (P := True) (pc' := if ¬ ((S.2.1 29 v7.toNatClampNeg) - (S.2.1 29 v7.toNatClampNeg) / 512 * 512) = 273 then 170 else 155) (lv' := [some (.ref 25), none, none, some (.ref 52), some (.ref 53), some (.int v5), some (.int v6), some (.int v7), some (.int ((S.2.1 29 v7.toNatClampNeg) - (S.2.1 29 v7.toNatClampNeg) / 512 * 512)), some (.int ((S.2.1 29 v7.toNatClampNeg) / 512)), none]) (st' := []) (h' := mkS x S) rfl trivial ?_
            refine Ev.ite (fun c8 => ?_) (fun c8 => ?_)
            · rw [if_pos c8] at hm
              refine Ev.steps tokX9_reckon 3 (P := True) (pc' := if ((S.2.1 29 v7.toNatClampNeg) - (S.2.1 29 v7.toNatClampNeg) / 512 * 512) = 271 then 186 else 178) (lv' := [some (.ref 25), none, none, some (.ref 52), some (.ref 53), some (.int v5), some (.int v6), some (.int v7), some (.int ((S.2.1 29 v7.toNatClampNeg) - (S.2.1 29 v7.toNatClampNeg) / 512 * 512)), some (.int ((S.2.1 29 v7.toNatClampNeg) / 512)), none]) (st' := []) (h' := mkS x S) rfl trivial ?_
              refine Ev.ite (fun c9 => ?_) (fun c9 => ?_)
              · rw [if_pos c9] at hm
                exact bpX9_reckon_25_52_53_186 x k36 hk36 S v5 v6 v7 ((S.2.1 29 v7.toNatClampNeg) - (S.2.1 29 v7.toNatClampNeg) / 512 * 512) ((S.2.1 29 v7.toNatClampNeg) / 512) _ _ hm
              · rw [if_neg c9] at hm
                refine Ev.steps tokX9_reckon 3 (P := True) (pc' := if ¬ ((S.2.1 29 v7.toNatClampNeg) - (S.2.1 29 v7.toNatClampNeg) / 512 * 512) = 272 then 227 else 186) (lv' := [some (.ref 25), none, none, some (.ref 52), some (.ref 53), some (.int v5), some (.int v6), some (.int v7), some (.int ((S.2.1 29 v7.toNatClampNeg) - (S.2.1 29 v7.toNatClampNeg) / 512 * 512)), some (.int ((S.2.1 29 v7.toNatClampNeg) / 512)), none]) (st' := []) (h' := mkS x S) rfl trivial ?_
                refine Ev.ite (fun c10 => ?_) (fun c10 => ?_)
                · rw [if_pos c10] at hm
                  refine Ev.steps tokX9_reckon 3 (P := True) (pc' := if 0 ≤ (v6 + (-1)) then 240 else 235) (lv' := [some (.ref 25), none, none, some (.ref 52), some (.ref 53), some (.int v5), some (.int (v6 + (-1))), some (.int v7), some (.int ((S.2.1 29 v7.toNatClampNeg) - (S.2.1 29 v7.toNatClampNeg) / 512 * 512)), some (.int ((S.2.1 29 v7.toNatClampNeg) / 512)), none]) (st' := []) (h' := mkS x S) rfl trivial ?_
                  refine Ev.ite (fun c11 => ?_) (fun c11 => ?_)
                  · rw [if_pos c11] at hm
                    obtain ⟨o12, hm⟩ := oblk hm
                    obtain ⟨o13, hm⟩ := oblk hm
                    refine Ev.steps tokX9_reckon 11 (P := vp_in (v6 + (-1)) 50 ∧ vp_in ((v6 + (-1)) + 1) 50 ∧ True) (pc' := 256) (lv' := [some (.ref 25), none, none, some (.ref 52), some (.ref 53), some (.int v5), some (.int (v6 + (-1))), some (.int v7), some (.int ((S.2.1 29 v7.toNatClampNeg) - (S.2.1 29 v7.toNatClampNeg) / 512 * 512)), some (.int ((S.2.1 29 v7.toNatClampNeg) / 512)), none]) (st' := [.long ((S.2.1 53 (((v6 + (-1)) + 1).toNatClampNeg)).toInt64), .long ((S.2.1 53 ((v6 + (-1)).toNatClampNeg)).toInt64), .int ((S.2.1 29 v7.toNatClampNeg) - (S.2.1 29 v7.toNatClampNeg) / 512 * 512)]) (h' := mkS x S) rfl ⟨inb_ok o12, inb_ok o13, trivial⟩ ?_
                    cases h14 : gfX9_join x S ((S.2.1 29 v7.toNatClampNeg) - (S.2.1 29 v7.toNatClampNeg) / 512 * 512) ((S.2.1 53 ((v6 + (-1)).toNatClampNeg)).toInt64) ((S.2.1 53 (((v6 + (-1)) + 1).toNatClampNeg)).toInt64) with
                    | none => rw [h14] at hm; cases hm
                    | some q15 =>
                      obtain ⟨r16, S17⟩ := q15
                      rw [h14] at hm
                      dsimp only at hm
                      refine ev_callS (N := mX9_join) (d' := 1) (bc := 0) (bs := 0) (bc' := 0) (bs' := 0) (as := [.int ((S.2.1 29 v7.toNatClampNeg) - (S.2.1 29 v7.toNatClampNeg) / 512 * 512), .long ((S.2.1 53 ((v6 + (-1)).toNatClampNeg)).toInt64), .long ((S.2.1 53 (((v6 + (-1)) + 1).toNatClampNeg)).toInt64)]) (rest := []) (dcd tokX9_reckon rfl) okX9_join inX9_join lk9_50 rfl (by decide) (Nat.le_of_ble_eq_true rfl) (gpX9_join x S ((S.2.1 29 v7.toNatClampNeg) - (S.2.1 29 v7.toNatClampNeg) / 512 * 512) ((S.2.1 53 ((v6 + (-1)).toNatClampNeg)).toInt64) ((S.2.1 53 (((v6 + (-1)) + 1).toNatClampNeg)).toInt64) _ _ h14) (fun v h' hq hn => ?_)
                      obtain ⟨rfl, rfl⟩ := hq
                      refine Ev.fgt (lv' := [some (.ref 25), none, none, some (.ref 52), some (.ref 53), some (.int v5), some (.int (v6 + (-1))), some (.int v7), none, none, none]) ⟨rfl, rfl, rfl, rfl, rfl, rfl, trivial⟩ ?_
                      exact bpX9_reckon_25_52_53_259 x k36 hk36 S17 v5 (v6 + (-1)) v7 r16 _ _ hm
                  · rw [if_neg c11] at hm
                    refine Ev.steps tokX9_reckon 2 (P := True) (pc' := 259) (lv' := [some (.ref 25), none, none, some (.ref 52), some (.ref 53), some (.int v5), some (.int (v6 + (-1))), some (.int v7), some (.int ((S.2.1 29 v7.toNatClampNeg) - (S.2.1 29 v7.toNatClampNeg) / 512 * 512)), some (.int ((S.2.1 29 v7.toNatClampNeg) / 512)), none]) (st' := [.int (-2000000000)]) (h' := mkS x S) rfl trivial ?_
                    refine Ev.fgt (lv' := [some (.ref 25), none, none, some (.ref 52), some (.ref 53), some (.int v5), some (.int (v6 + (-1))), some (.int v7), none, none, none]) ⟨rfl, rfl, rfl, rfl, rfl, rfl, trivial⟩ ?_
                    exact bpX9_reckon_25_52_53_259 x k36 hk36 S v5 (v6 + (-1)) v7 (-2000000000) _ _ hm
                · rw [if_neg c10] at hm
                  exact bpX9_reckon_25_52_53_186 x k36 hk36 S v5 v6 v7 ((S.2.1 29 v7.toNatClampNeg) - (S.2.1 29 v7.toNatClampNeg) / 512 * 512) ((S.2.1 29 v7.toNatClampNeg) / 512) _ _ hm
            · rw [if_neg c8] at hm
              obtain ⟨o18, hm⟩ := oblk hm
              obtain ⟨o19, hm⟩ := oblk hm
              refine Ev.steps tokX9_reckon 9 (P := vp_in v6 50 ∧ vp_in v6 50 ∧ True) (pc' := 278) (lv' := [some (.ref 25), none, none, some (.ref 52), some (.ref 53), some (.int v5), some (.int v6), some (.int v7), some (.int ((S.2.1 29 v7.toNatClampNeg) - (S.2.1 29 v7.toNatClampNeg) / 512 * 512)), some (.int ((S.2.1 29 v7.toNatClampNeg) / 512)), none]) (st' := []) (h' := mkS x (S.1, (u2 S.2.1 53 v6.toNatClampNeg (1 - (S.2.1 53 v6.toNatClampNeg))), S.2.2.1, S.2.2.2)) rfl ⟨inb_ok o18, inb_ok o19, trivial⟩ ?_
              refine Ev.fgt (lv' := [some (.ref 25), none, none, some (.ref 52), some (.ref 53), some (.int v5), some (.int v6), some (.int v7), none, none, none]) ⟨rfl, rfl, rfl, rfl, rfl, rfl, trivial⟩ ?_
              exact bpX9_reckon_25_52_53_278 x k36 hk36 (S.1, (u2 S.2.1 53 v6.toNatClampNeg (1 - (S.2.1 53 v6.toNatClampNeg))), S.2.2.1, S.2.2.2) v5 v6 v7 _ _ hm
          · rw [if_neg c7] at hm
            refine Ev.steps tokX9_reckon 1 (P := True) (pc' := 146) (lv' := [some (.ref 25), none, none, some (.ref 52), some (.ref 53), some (.int v5), some (.int v6), some (.int v7), some (.int ((S.2.1 29 v7.toNatClampNeg) - (S.2.1 29 v7.toNatClampNeg) / 512 * 512)), some (.int ((S.2.1 29 v7.toNatClampNeg) / 512)), none]) (st' := [.int (-2000000000)]) (h' := mkS x S) rfl trivial ?_
            cases hm
            exact Ev.reti tokX9_reckon rfl rfl ⟨rfl, rfl⟩
        · rw [if_neg c6] at hm
          exact bpX9_reckon_25_52_53_85 x k36 hk36 S v5 v6 v7 ((S.2.1 29 v7.toNatClampNeg) - (S.2.1 29 v7.toNatClampNeg) / 512 * 512) ((S.2.1 29 v7.toNatClampNeg) / 512) _ _ hm
theorem lpX9_reckon_25_52_53_36 (x : XT)  : ∀ (n : Nat) (S : ST) (v5 : Int32) (v6 : Int32) (v7 : Int32) (r : Int32) (S' : ST), lfX9_reckon_25_52_53_36 x  n S v5 v6 v7 = some (r, S') → Ev mX9_reckon 2 0 0 36 [some (.ref 25), none, none, some (.ref 52), some (.ref 53), some (.int v5), some (.int v6), some (.int v7), none, none, none] [] (mkS x S) (fun v h => v = some (.int r) ∧ h = mkS x S')
  | 0, _, _, _, _, _, _, hm => by cases hm
  | n + 1, S, v5, v6, v7, r, S', hm => bpX9_reckon_25_52_53_36 x (lfX9_reckon_25_52_53_36 x  n) (lpX9_reckon_25_52_53_36 x  n) S v5 v6 v7 r S' hm
set_option maxHeartbeats 4000000 in
set_option maxRecDepth 20000 in
theorem bpX9_reckon_25_52_53_0 (x : XT)  (S : ST) (p1 : Int32) (p2 : Int32) (r : Int32) (S' : ST) (hm : bfX9_reckon_25_52_53_0 x  S p1 p2 = some (r, S')) : Ev mX9_reckon 2 0 0 0 [some (.ref 25), some (.int p1), some (.int p2), some (.ref 52), some (.ref 53), none, none, none, none, none, none] [] (mkS x S) (fun v h => v = some (.int r) ∧ h = mkS x S') := by
    unfold bfX9_reckon_25_52_53_0 at hm
    obtain ⟨o1, hm⟩ := oblk hm
    refine Ev.steps tokX9_reckon 12 (P := vp_in (((4 * p1) + p2) + 1) 48 ∧ True) (pc' := 16) (lv' := [some (.ref 25), some (.int p1), some (.int p2), some (.ref 52), some (.ref 53), none, none, none, none, none, none]) (st' := [.int (S.1 25 1), .int (S.2.1 28 ((((4 * p1) + p2) + 1).toNatClampNeg))]) (h' := mkS x S) rfl ⟨inb_ok o1, trivial⟩ ?_
    refine ev_min (dcd tokX9_reckon rfl) lk9_40 mt_min.1 mt_in.1 mt_min.2 (by decide) (Nat.le_of_ble_eq_true rfl) ?_
    obtain ⟨o2, hm⟩ := oblk hm
    refine Ev.steps tokX9_reckon 12 (P := vp_in ((4 * p1) + p2) 48 ∧ True) (pc' := 36) (lv' := [some (.ref 25), some (.int p1), some (.int p2), some (.ref 52), some (.ref 53), some (.int (if (S.1 25 1) < (S.2.1 28 ((((4 * p1) + p2) + 1).toNatClampNeg)) then (S.1 25 1) else (S.2.1 28 ((((4 * p1) + p2) + 1).toNatClampNeg)))), some (.int (-1)), some (.int (S.2.1 28 (((4 * p1) + p2).toNatClampNeg))), none, none, none]) (st' := []) (h' := mkS x S) rfl ⟨inb_ok o2, trivial⟩ ?_
    refine Ev.fgt (lv' := [some (.ref 25), none, none, some (.ref 52), some (.ref 53), some (.int (if (S.1 25 1) < (S.2.1 28 ((((4 * p1) + p2) + 1).toNatClampNeg)) then (S.1 25 1) else (S.2.1 28 ((((4 * p1) + p2) + 1).toNatClampNeg)))), some (.int (-1)), some (.int (S.2.1 28 (((4 * p1) + p2).toNatClampNeg))), none, none, none]) ⟨rfl, rfl, rfl, rfl, rfl, rfl, trivial⟩ ?_
    exact lpX9_reckon_25_52_53_36 x  20000 S (if (S.1 25 1) < (S.2.1 28 ((((4 * p1) + p2) + 1).toNatClampNeg)) then (S.1 25 1) else (S.2.1 28 ((((4 * p1) + p2) + 1).toNatClampNeg))) (-1) (S.2.1 28 (((4 * p1) + p2).toNatClampNeg)) _ _ hm
theorem gpX9_reckon_25_52_53 (x : XT) (S : ST) (p1 : Int32) (p2 : Int32) (r : Int32) (S' : ST) (hm : gfX9_reckon_25_52_53 x S p1 p2 = some (r, S')) : Ct mX9_reckon 2 0 0 [.ref 25, .int p1, .int p2, .ref 52, .ref 53] (mkS x S) (fun v h => v = some (.int r) ∧ h = mkS x S') :=
  Ct.of (lv := [some (.ref 25), some (.int p1), some (.int p2), some (.ref 52), some (.ref 53), none, none, none, none, none, none]) rfl rfl rfl (show (_ : Nat) ≤ _ from Nat.le_of_ble_eq_true rfl) (fun G => rfl) (bpX9_reckon_25_52_53_0 x S p1 p2 r S' hm)
set_option maxHeartbeats 4000000 in
set_option maxRecDepth 20000 in
theorem bpX5_lookRound_51_182 (x : XT) (k144 : ST → Int32 → Option (Unit × ST)) (hk144 : ∀ (S : ST) (v1 : Int32) (r : Unit) (S' : ST), k144 S v1 = some (r, S') → Ev mX5_lookRound 2 0 0 144 [some (.ref 51), some (.int v1), none] [] (mkS x S) (fun v h => v = none ∧ h = mkS x S')) (S : ST) (v1 : Int32) (t1 : Int32) (t2 : Int32) (r : Unit) (S' : ST) (hm : bfX5_lookRound_51_182 x k144 S v1 t1 t2 = some (r, S')) : Ev mX5_lookRound 2 0 0 182 [some (.ref 51), some (.int v1), none] [.int t2, .int t1, .ref 52] (mkS x S) (fun v h => v = none ∧ h = mkS x S') := by
    unfold bfX5_lookRound_51_182 at hm
    obtain ⟨o1, hm⟩ := oblk hm
    refine Ev.steps tokX5_lookRound 3 (P := vp_in t1 24 ∧ True) (pc' := 144) (lv' := [some (.ref 51), some (.int (v1 + 1)), none]) (st' := []) (h' := mkS x (S.1, (u2 S.2.1 52 t1.toNatClampNeg t2), S.2.2.1, S.2.2.2)) rfl ⟨inb_ok o1, trivial⟩ ?_
    exact hk144 (S.1, (u2 S.2.1 52 t1.toNatClampNeg t2), S.2.2.1, S.2.2.2) (v1 + 1) _ _ hm
set_option maxHeartbeats 4000000 in
set_option maxRecDepth 20000 in
theorem bpX5_lookRound_51_144 (x : XT) (k144 : ST → Int32 → Option (Unit × ST)) (hk144 : ∀ (S : ST) (v1 : Int32) (r : Unit) (S' : ST), k144 S v1 = some (r, S') → Ev mX5_lookRound 2 0 0 144 [some (.ref 51), some (.int v1), none] [] (mkS x S) (fun v h => v = none ∧ h = mkS x S')) (S : ST) (v1 : Int32) (r : Unit) (S' : ST) (hm : bfX5_lookRound_51_144 x k144 S v1 = some (r, S')) : Ev mX5_lookRound 2 0 0 144 [some (.ref 51), some (.int v1), none] [] (mkS x S) (fun v h => v = none ∧ h = mkS x S') := by
    unfold bfX5_lookRound_51_144 at hm
    refine Ev.steps tokX5_lookRound 3 (P := True) (pc' := if 10 ≤ v1 then 189 else 150) (lv' := [some (.ref 51), some (.int v1), none]) (st' := []) (h' := mkS x S) rfl trivial ?_
    refine Ev.ite (fun c1 => ?_) (fun c1 => ?_)
    · rw [if_pos c1] at hm
      cases hm
      exact Ev.retv tokX5_lookRound rfl rfl ⟨rfl, rfl⟩
    · rw [if_neg c1] at hm
      refine Ev.steps tokX5_lookRound 8 (P := True) (pc' := 163) (lv' := [some (.ref 51), some (.int v1), none]) (st' := [.int v1, .ref 1, .int (14 + v1), .ref 52]) (h' := mkS x S) rfl trivial ?_
      cases h2 : gfX7_hasGate_1 x S v1 with
      | none => rw [h2] at hm; cases hm
      | some q3 =>
        obtain ⟨r4, S5⟩ := q3
        rw [h2] at hm
        dsimp only at hm
        refine ev_callV (N := mX7_hasGate) (d' := 1) (bc := 0) (bs := 0) (bc' := 0) (bs' := 0) (as := [.int v1]) (rest := [.int (14 + v1), .ref 52]) (a := 1) (ci := 7) (dcd tokX5_lookRound rfl) okX7_hasGate inX7_hasGate seX7_hasGate lk5_92 rfl (by decide) (Nat.le_of_ble_eq_true rfl) rfl ⟨by decide, rfl⟩ (gpX7_hasGate_1 x S v1 _ _ h2) (fun v h' hq hn => ?_)
        obtain ⟨rfl, rfl⟩ := hq
        refine Ev.steps tokX5_lookRound 1 (P := True) (pc' := if r4 = 0 then 181 else 169) (lv' := [some (.ref 51), some (.int v1), none]) (st' := [.int (14 + v1), .ref 52]) (h' := mkS x S5) rfl trivial ?_
        refine Ev.ite (fun c6 => ?_) (fun c6 => ?_)
        · rw [if_pos c6] at hm
          refine Ev.steps tokX5_lookRound 1 (P := True) (pc' := 182) (lv' := [some (.ref 51), some (.int v1), none]) (st' := [.int (-1), .int (14 + v1), .ref 52]) (h' := mkS x S5) rfl trivial ?_
          exact bpX5_lookRound_51_182 x k144 hk144 S5 v1 (14 + v1) (-1) _ _ hm
        · rw [if_neg c6] at hm
          obtain ⟨o7, hm⟩ := oblk hm
          refine Ev.steps tokX5_lookRound 6 (P := vp_in v1 10 ∧ True) (pc' := 182) (lv' := [some (.ref 51), some (.int v1), none]) (st' := [.int (S5.2.1 5 v1.toNatClampNeg), .int (14 + v1), .ref 52]) (h' := mkS x S5) rfl ⟨inb_ok o7, trivial⟩ ?_
          exact bpX5_lookRound_51_182 x k144 hk144 S5 v1 (14 + v1) (S5.2.1 5 v1.toNatClampNeg) _ _ hm
theorem lpX5_lookRound_51_144 (x : XT)  : ∀ (n : Nat) (S : ST) (v1 : Int32) (r : Unit) (S' : ST), lfX5_lookRound_51_144 x  n S v1 = some (r, S') → Ev mX5_lookRound 2 0 0 144 [some (.ref 51), some (.int v1), none] [] (mkS x S) (fun v h => v = none ∧ h = mkS x S')
  | 0, _, _, _, _, hm => by cases hm
  | n + 1, S, v1, r, S', hm => bpX5_lookRound_51_144 x (lfX5_lookRound_51_144 x  n) (lpX5_lookRound_51_144 x  n) S v1 r S' hm
set_option maxHeartbeats 4000000 in
set_option maxRecDepth 20000 in
theorem bpX5_lookRound_51_136 (x : XT) (k44 : ST → Int32 → Option (Unit × ST)) (hk44 : ∀ (S : ST) (v1 : Int32) (r : Unit) (S' : ST), k44 S v1 = some (r, S') → Ev mX5_lookRound 2 0 0 44 [some (.ref 51), some (.int v1), none] [] (mkS x S) (fun v h => v = none ∧ h = mkS x S')) (S : ST) (v1 : Int32) (r : Unit) (S' : ST) (hm : bfX5_lookRound_51_136 x k44 S v1 = some (r, S')) : Ev mX5_lookRound 2 0 0 136 [some (.ref 51), some (.int v1), none] [] (mkS x S) (fun v h => v = none ∧ h = mkS x S') := by
    unfold bfX5_lookRound_51_136 at hm
    refine Ev.steps tokX5_lookRound 2 (P := True) (pc' := 44) (lv' := [some (.ref 51), some (.int (v1 + 1)), none]) (st' := []) (h' := mkS x S) rfl trivial ?_
    exact hk44 S (v1 + 1) _ _ hm
set_option maxHeartbeats 4000000 in
set_option maxRecDepth 20000 in
theorem bpX5_lookRound_51_108 (x : XT) (k44 : ST → Int32 → Option (Unit × ST)) (hk44 : ∀ (S : ST) (v1 : Int32) (r : Unit) (S' : ST), k44 S v1 = some (r, S') → Ev mX5_lookRound 2 0 0 44 [some (.ref 51), some (.int v1), none] [] (mkS x S) (fun v h => v = none ∧ h = mkS x S')) (S : ST) (v1 : Int32) (v2 : Int32) (t1 : Int32) (t2 : Int32) (r : Unit) (S' : ST) (hm : bfX5_lookRound_51_108 x k44 S v1 v2 t1 t2 = some (r, S')) : Ev mX5_lookRound 2 0 0 108 [some (.ref 51), some (.int v1), some (.int v2)] [.int t2, .int t1, .ref 52] (mkS x S) (fun v h => v = none ∧ h = mkS x S') := by
    unfold bfX5_lookRound_51_108 at hm
    obtain ⟨o1, hm⟩ := oblk hm
    refine Ev.steps tokX5_lookRound 3 (P := vp_in t1 24 ∧ True) (pc' := if v2 = 0 then 136 else 113) (lv' := [some (.ref 51), some (.int v1), some (.int v2)]) (st' := []) (h' := mkS x (S.1, (u2 S.2.1 52 t1.toNatClampNeg t2), S.2.2.1, S.2.2.2)) rfl ⟨inb_ok o1, trivial⟩ ?_
    refine Ev.ite (fun c2 => ?_) (fun c2 => ?_)
    · rw [if_pos c2] at hm
      refine Ev.fgt (lv' := [some (.ref 51), some (.int v1), none]) ⟨rfl, rfl, trivial⟩ ?_
      exact bpX5_lookRound_51_136 x k44 hk44 (S.1, (u2 S.2.1 52 t1.toNatClampNeg t2), S.2.2.1, S.2.2.2) v1 _ _ hm
    · rw [if_neg c2] at hm
      obtain ⟨o3, hm⟩ := oblk hm
      refine Ev.steps tokX5_lookRound 7 (P := vp_in v1 5 ∧ True) (pc' := if ¬ (S.2.1 8 v1.toNatClampNeg) = 1 then 136 else 126) (lv' := [some (.ref 51), some (.int v1), some (.int v2)]) (st' := []) (h' := mkS x (S.1, (u2 S.2.1 52 t1.toNatClampNeg t2), S.2.2.1, S.2.2.2)) rfl ⟨inb_ok o3, trivial⟩ ?_
      refine Ev.ite (fun c4 => ?_) (fun c4 => ?_)
      · rw [if_pos c4] at hm
        refine Ev.fgt (lv' := [some (.ref 51), some (.int v1), none]) ⟨rfl, rfl, trivial⟩ ?_
        exact bpX5_lookRound_51_136 x k44 hk44 (S.1, (u2 S.2.1 52 t1.toNatClampNeg t2), S.2.2.1, S.2.2.2) v1 _ _ hm
      · rw [if_neg c4] at hm
        refine Ev.steps tokX5_lookRound 8 (P := vp_in 3 24 ∧ vp_in 3 24 ∧ True) (pc' := 136) (lv' := [some (.ref 51), some (.int v1), some (.int v2)]) (st' := []) (h' := mkS x (S.1, (u2 (u2 S.2.1 52 t1.toNatClampNeg t2) 52 3 (((u2 S.2.1 52 t1.toNatClampNeg t2) 52 3) + 1)), S.2.2.1, S.2.2.2)) rfl ⟨(by unfold vp_in; decide), (by unfold vp_in; decide), trivial⟩ ?_
        refine Ev.fgt (lv' := [some (.ref 51), some (.int v1), none]) ⟨rfl, rfl, trivial⟩ ?_
        exact bpX5_lookRound_51_136 x k44 hk44 (S.1, (u2 (u2 S.2.1 52 t1.toNatClampNeg t2) 52 3 (((u2 S.2.1 52 t1.toNatClampNeg t2) 52 3) + 1)), S.2.2.1, S.2.2.2) v1 _ _ hm
set_option maxHeartbeats 4000000 in
set_option maxRecDepth 20000 in
theorem bpX5_lookRound_51_82 (x : XT) (k44 : ST → Int32 → Option (Unit × ST)) (hk44 : ∀ (S : ST) (v1 : Int32) (r : Unit) (S' : ST), k44 S v1 = some (r, S') → Ev mX5_lookRound 2 0 0 44 [some (.ref 51), some (.int v1), none] [] (mkS x S) (fun v h => v = none ∧ h = mkS x S')) (S : ST) (v1 : Int32) (v2 : Int32) (t1 : Int32) (t2 : Int32) (r : Unit) (S' : ST) (hm : bfX5_lookRound_51_82 x k44 S v1 v2 t1 t2 = some (r, S')) : Ev mX5_lookRound 2 0 0 82 [some (.ref 51), some (.int v1), some (.int v2)] [.int t2, .int t1, .ref 52] (mkS x S) (fun v h => v = none ∧ h = mkS x S') := by
    unfold bfX5_lookRound_51_82 at hm
    obtain ⟨o1, hm⟩ := oblk hm
    refine Ev.steps tokX5_lookRound 8 (P := vp_in t1 24 ∧ True) (pc' := if v2 = 0 then 107 else 95) (lv' := [some (.ref 51), some (.int v1), some (.int v2)]) (st' := [.int (9 + v1), .ref 52]) (h' := mkS x (S.1, (u2 S.2.1 52 t1.toNatClampNeg t2), S.2.2.1, S.2.2.2)) rfl ⟨inb_ok o1, trivial⟩ ?_
    refine Ev.ite (fun c2 => ?_) (fun c2 => ?_)
    · rw [if_pos c2] at hm
      refine Ev.steps tokX5_lookRound 1 (P := True) (pc' := 108) (lv' := [some (.ref 51), some (.int v1), some (.int v2)]) (st' := [.int (-1), .int (9 + v1), .ref 52]) (h' := mkS x (S.1, (u2 S.2.1 52 t1.toNatClampNeg t2), S.2.2.1, S.2.2.2)) rfl trivial ?_
      exact bpX5_lookRound_51_108 x k44 hk44 (S.1, (u2 S.2.1 52 t1.toNatClampNeg t2), S.2.2.1, S.2.2.2) v1 v2 (9 + v1) (-1) _ _ hm
    · rw [if_neg c2] at hm
      obtain ⟨o3, hm⟩ := oblk hm
      refine Ev.steps tokX5_lookRound 6 (P := vp_in v1 5 ∧ True) (pc' := 108) (lv' := [some (.ref 51), some (.int v1), some (.int v2)]) (st' := [.int (S.2.1 7 v1.toNatClampNeg), .int (9 + v1), .ref 52]) (h' := mkS x (S.1, (u2 S.2.1 52 t1.toNatClampNeg t2), S.2.2.1, S.2.2.2)) rfl ⟨inb_ok o3, trivial⟩ ?_
      exact bpX5_lookRound_51_108 x k44 hk44 (S.1, (u2 S.2.1 52 t1.toNatClampNeg t2), S.2.2.1, S.2.2.2) v1 v2 (9 + v1) (S.2.1 7 v1.toNatClampNeg) _ _ hm
set_option maxHeartbeats 4000000 in
set_option maxRecDepth 20000 in
theorem bpX5_lookRound_51_44 (x : XT) (k44 : ST → Int32 → Option (Unit × ST)) (hk44 : ∀ (S : ST) (v1 : Int32) (r : Unit) (S' : ST), k44 S v1 = some (r, S') → Ev mX5_lookRound 2 0 0 44 [some (.ref 51), some (.int v1), none] [] (mkS x S) (fun v h => v = none ∧ h = mkS x S')) (S : ST) (v1 : Int32) (r : Unit) (S' : ST) (hm : bfX5_lookRound_51_44 x k44 S v1 = some (r, S')) : Ev mX5_lookRound 2 0 0 44 [some (.ref 51), some (.int v1), none] [] (mkS x S) (fun v h => v = none ∧ h = mkS x S') := by
    unfold bfX5_lookRound_51_44 at hm
    refine Ev.steps tokX5_lookRound 3 (P := True) (pc' := if 5 ≤ v1 then 142 else 49) (lv' := [some (.ref 51), some (.int v1), none]) (st' := []) (h' := mkS x S) rfl trivial ?_
    refine Ev.ite (fun c1 => ?_) (fun c1 => ?_)
    · rw [if_pos c1] at hm
      refine Ev.steps tokX5_lookRound 2 (P := True) (pc' := 144) (lv' := [some (.ref 51), some (.int 0), none]) (st' := []) (h' := mkS x S) rfl trivial ?_
      exact lpX5_lookRound_51_144 x  20000 S 0 _ _ hm
    · rw [if_neg c1] at hm
      refine Ev.steps tokX5_lookRound 3 (P := True) (pc' := 54) (lv' := [some (.ref 51), some (.int v1), none]) (st' := [.int v1, .ref 1]) (h' := mkS x S) rfl trivial ?_
      cases h2 : gfX7_hasGoer_1 x S v1 with
      | none => rw [h2] at hm; cases hm
      | some q3 =>
        obtain ⟨r4, S5⟩ := q3
        rw [h2] at hm
        dsimp only at hm
        refine ev_callV (N := mX7_hasGoer) (d' := 1) (bc := 0) (bs := 0) (bc' := 0) (bs' := 0) (as := [.int v1]) (rest := []) (a := 1) (ci := 7) (dcd tokX5_lookRound rfl) okX7_hasGoer inX7_hasGoer seX7_hasGoer lk5_82 rfl (by decide) (Nat.le_of_ble_eq_true rfl) rfl ⟨by decide, rfl⟩ (gpX7_hasGoer_1 x S v1 _ _ h2) (fun v h' hq hn => ?_)
        obtain ⟨rfl, rfl⟩ := hq
        refine Ev.steps tokX5_lookRound 8 (P := True) (pc' := if r4 = 0 then 81 else 69) (lv' := [some (.ref 51), some (.int v1), some (.int r4)]) (st' := [.int (4 + v1), .ref 52]) (h' := mkS x S5) rfl trivial ?_
        refine Ev.ite (fun c6 => ?_) (fun c6 => ?_)
        · rw [if_pos c6] at hm
          refine Ev.steps tokX5_lookRound 1 (P := True) (pc' := 82) (lv' := [some (.ref 51), some (.int v1), some (.int r4)]) (st' := [.int (-1), .int (4 + v1), .ref 52]) (h' := mkS x S5) rfl trivial ?_
          exact bpX5_lookRound_51_82 x k44 hk44 S5 v1 r4 (4 + v1) (-1) _ _ hm
        · rw [if_neg c6] at hm
          obtain ⟨o7, hm⟩ := oblk hm
          refine Ev.steps tokX5_lookRound 6 (P := vp_in v1 5 ∧ True) (pc' := 82) (lv' := [some (.ref 51), some (.int v1), some (.int r4)]) (st' := [.int (S5.2.1 8 v1.toNatClampNeg), .int (4 + v1), .ref 52]) (h' := mkS x S5) rfl ⟨inb_ok o7, trivial⟩ ?_
          exact bpX5_lookRound_51_82 x k44 hk44 S5 v1 r4 (4 + v1) (S5.2.1 8 v1.toNatClampNeg) _ _ hm
theorem lpX5_lookRound_51_44 (x : XT)  : ∀ (n : Nat) (S : ST) (v1 : Int32) (r : Unit) (S' : ST), lfX5_lookRound_51_44 x  n S v1 = some (r, S') → Ev mX5_lookRound 2 0 0 44 [some (.ref 51), some (.int v1), none] [] (mkS x S) (fun v h => v = none ∧ h = mkS x S')
  | 0, _, _, _, _, hm => by cases hm
  | n + 1, S, v1, r, S', hm => bpX5_lookRound_51_44 x (lfX5_lookRound_51_44 x  n) (lpX5_lookRound_51_44 x  n) S v1 r S' hm
set_option maxHeartbeats 4000000 in
set_option maxRecDepth 20000 in
theorem bpX5_lookRound_51_0 (x : XT)  (S : ST)  (r : Unit) (S' : ST) (hm : bfX5_lookRound_51_0 x  S  = some (r, S')) : Ev mX5_lookRound 2 0 0 0 [some (.ref 51), none, none] [] (mkS x S) (fun v h => v = none ∧ h = mkS x S') := by
    unfold bfX5_lookRound_51_0 at hm
    refine Ev.steps tokX5_lookRound 28 (P := vp_in 0 3 ∧ vp_in 0 24 ∧ vp_in 1 24 ∧ vp_in 2 24 ∧ vp_in 3 24 ∧ True) (pc' := 44) (lv' := [some (.ref 51), some (.int 0), none]) (st' := []) (h' := mkS x (S.1, (u2 (u2 (u2 (u2 S.2.1 52 0 (S.2.1 14 0)) 52 1 (S.1 51 0)) 52 2 (S.1 51 1)) 52 3 0), S.2.2.1, S.2.2.2)) rfl ⟨(by unfold vp_in; decide), (by unfold vp_in; decide), (by unfold vp_in; decide), (by unfold vp_in; decide), (by unfold vp_in; decide), trivial⟩ ?_
    exact lpX5_lookRound_51_44 x  20000 (S.1, (u2 (u2 (u2 (u2 S.2.1 52 0 (S.2.1 14 0)) 52 1 (S.1 51 0)) 52 2 (S.1 51 1)) 52 3 0), S.2.2.1, S.2.2.2) 0 _ _ hm
theorem gpX5_lookRound_51 (x : XT) (S : ST)  (r : Unit) (S' : ST) (hm : gfX5_lookRound_51 x S  = some (r, S')) : Ct mX5_lookRound 2 0 0 [.ref 51] (mkS x S) (fun v h => v = none ∧ h = mkS x S') :=
  Ct.of (lv := [some (.ref 51), none, none]) rfl rfl rfl (show (_ : Nat) ≤ _ from Nat.le_of_ble_eq_true rfl) (fun G => rfl) (bpX5_lookRound_51_0 x S  r S' hm)
set_option maxHeartbeats 4000000 in
set_option maxRecDepth 20000 in
theorem bpX5_runOnce_51_25_103 (x : XT)  (S : ST)  (r : Int32) (S' : ST) (hm : bfX5_runOnce_51_25_103 x  S  = some (r, S')) : Ev mX5_runOnce 6 0 0 103 [none, none, none, none, none, none] [] (mkS x S) (fun v h => v = some (.int r) ∧ h = mkS x S') := by
    unfold bfX5_runOnce_51_25_103 at hm
    refine Ev.steps tokX5_runOnce 1 (P := True) (pc' := 104) (lv' := [none, none, none, none, none, none]) (st' := [.int 0]) (h' := mkS x S) rfl trivial ?_
    cases hm
    exact Ev.retz tokX5_runOnce rfl rfl (Or.inl rfl) ⟨rfl, rfl⟩
set_option maxHeartbeats 4000000 in
set_option maxRecDepth 20000 in
theorem bpX5_runOnce_51_25_194 (x : XT)  (S : ST) (v5 : Int32) (r : Int32) (S' : ST) (hm : bfX5_runOnce_51_25_194 x  S v5 = some (r, S')) : Ev mX5_runOnce 6 0 0 194 [some (.ref 51), none, none, none, none, some (.int v5)] [] (mkS x S) (fun v h => v = some (.int r) ∧ h = mkS x S') := by
    unfold bfX5_runOnce_51_25_194 at hm
    refine Ev.steps tokX5_runOnce 2 (P := True) (pc' := if 0 ≤ v5 then 201 else 199) (lv' := [some (.ref 51), none, none, none, none, some (.int v5)]) (st' := []) (h' := mkS x S) rfl trivial ?_
    refine Ev.ite (fun c1 => ?_) (fun c1 => ?_)
    · rw [if_pos c1] at hm
      refine Ev.steps tokX5_runOnce 7 (P := True) (pc' := 212) (lv' := [some (.ref 51), none, none, none, none, some (.int v5)]) (st' := [.int 1]) (h' := mkS x ((u2 S.1 51 0 ((S.1 51 0) + 1)), S.2.1, S.2.2.1, S.2.2.2)) rfl trivial ?_
      cases hm
      exact Ev.retz tokX5_runOnce rfl rfl (Or.inr rfl) ⟨rfl, rfl⟩
    · rw [if_neg c1] at hm
      refine Ev.steps tokX5_runOnce 1 (P := True) (pc' := 200) (lv' := [some (.ref 51), none, none, none, none, some (.int v5)]) (st' := [.int 0]) (h' := mkS x S) rfl trivial ?_
      cases hm
      exact Ev.retz tokX5_runOnce rfl rfl (Or.inl rfl) ⟨rfl, rfl⟩
set_option maxHeartbeats 4000000 in
set_option maxRecDepth 20000 in
theorem bpX5_runOnce_51_25_88 (x : XT)  (S : ST) (v2 : Int32) (v3 : Int32) (t0 : Int32) (r : Int32) (S' : ST) (hm : bfX5_runOnce_51_25_88 x  S v2 v3 t0 = some (r, S')) : Ev mX5_runOnce 6 0 0 88 [some (.ref 51), some (.ref 25), some (.int v2), some (.int v3), none, none] [.int t0] (mkS x S) (fun v h => v = some (.int r) ∧ h = mkS x S') := by
    unfold bfX5_runOnce_51_25_88 at hm
    refine Ev.steps tokX5_runOnce 4 (P := True) (pc' := if v3 = (-2000000000) then 103 else 96) (lv' := [some (.ref 51), some (.ref 25), some (.int v2), some (.int v3), some (.int t0), none]) (st' := []) (h' := mkS x S) rfl trivial ?_
    refine Ev.ite (fun c1 => ?_) (fun c1 => ?_)
    · rw [if_pos c1] at hm
      refine Ev.fgt (lv' := [none, none, none, none, none, none]) trivial ?_
      exact bpX5_runOnce_51_25_103 x S _ _ hm
    · rw [if_neg c1] at hm
      refine Ev.steps tokX5_runOnce 3 (P := True) (pc' := if ¬ t0 = (-2000000000) then 105 else 103) (lv' := [some (.ref 51), some (.ref 25), some (.int v2), some (.int v3), some (.int t0), none]) (st' := []) (h' := mkS x S) rfl trivial ?_
      refine Ev.ite (fun c2 => ?_) (fun c2 => ?_)
      · rw [if_pos c2] at hm
        obtain ⟨o3, hm⟩ := oblk hm
        refine Ev.steps tokX5_runOnce 4 (P := vp_in v2 12 ∧ True) (pc' := 111) (lv' := [some (.ref 51), some (.ref 25), some (.int v2), some (.int v3), some (.int t0), none]) (st' := [.int (S.2.1 26 v2.toNatClampNeg)]) (h' := mkS x S) rfl ⟨inb_ok o3, trivial⟩ ?_
        by_cases c4 : (S.2.1 26 v2.toNatClampNeg) = 263
        · rw [if_pos c4] at hm
          refine ev_tIn (off := 25) (t := 136) (dcd tokX5_runOnce rfl) (by rw [c4]; decide) (by rw [c4]; decide) (by rw [c4]; rfl) rfl ?_
          refine Ev.steps tokX5_runOnce 4 (P := True) (pc' := 143) (lv' := [some (.ref 51), some (.ref 25), some (.int v2), some (.int v3), some (.int t0), none]) (st' := [.int t0, .int v3, .ref 33]) (h' := mkS x S) rfl trivial ?_
          cases h5 : gfX1_sendThrough_33 x S v3 t0 with
          | none => rw [h5] at hm; cases hm
          | some q6 =>
            obtain ⟨r7, S8⟩ := q6
            rw [h5] at hm
            dsimp only at hm
            refine ev_callV (N := mX1_sendThrough) (d' := 5) (bc := 0) (bs := 0) (bc' := 0) (bs' := 0) (as := [.int v3, .int t0]) (rest := []) (a := 33) (ci := 1) (dcd tokX5_runOnce rfl) okX1_sendThrough inX1_sendThrough seX1_sendThrough lk5_60 rfl (by decide) (Nat.le_of_ble_eq_true rfl) rfl ⟨by decide, rfl⟩ (gpX1_sendThrough_33 x S v3 t0 _ _ h5) (fun v h' hq hn => ?_)
            obtain ⟨rfl, rfl⟩ := hq
            refine Ev.steps tokX5_runOnce 5 (P := True) (pc' := 194) (lv' := [some (.ref 51), some (.ref 25), some (.int v2), some (.int v3), some (.int t0), some (.int r7)]) (st' := []) (h' := mkS x ((u2 S8.1 51 1 r7), S8.2.1, S8.2.2.1, S8.2.2.2)) rfl trivial ?_
            refine Ev.fgt (lv' := [some (.ref 51), none, none, none, none, some (.int r7)]) ⟨rfl, rfl, trivial⟩ ?_
            exact bpX5_runOnce_51_25_194 x ((u2 S8.1 51 1 r7), S8.2.1, S8.2.2.1, S8.2.2.2) r7 _ _ hm
        rw [if_neg c4] at hm
        by_cases c9 : (S.2.1 26 v2.toNatClampNeg) = 264
        · rw [if_pos c9] at hm
          refine ev_tIn (off := 46) (t := 157) (dcd tokX5_runOnce rfl) (by rw [c9]; decide) (by rw [c9]; decide) (by rw [c9]; rfl) rfl ?_
          refine Ev.steps tokX5_runOnce 3 (P := True) (pc' := 162) (lv' := [some (.ref 51), some (.ref 25), some (.int v2), some (.int v3), some (.int t0), none]) (st' := [.int v3, .ref 33]) (h' := mkS x S) rfl trivial ?_
          cases h10 : gfX1_flip_33 x S v3 with
          | none => rw [h10] at hm; cases hm
          | some q11 =>
            obtain ⟨r12, S13⟩ := q11
            rw [h10] at hm
            dsimp only at hm
            refine ev_callV (N := mX1_flip) (d' := 2) (bc := 0) (bs := 0) (bc' := 0) (bs' := 0) (as := [.int v3]) (rest := []) (a := 33) (ci := 1) (dcd tokX5_runOnce rfl) okX1_flip inX1_flip seX1_flip lk5_66 rfl (by decide) (Nat.le_of_ble_eq_true rfl) rfl ⟨by decide, rfl⟩ (gpX1_flip_33 x S v3 _ _ h10) (fun v h' hq hn => ?_)
            obtain ⟨rfl, rfl⟩ := hq
            refine Ev.steps tokX5_runOnce 2 (P := True) (pc' := 194) (lv' := [some (.ref 51), some (.ref 25), some (.int v2), some (.int v3), some (.int t0), some (.int r12)]) (st' := []) (h' := mkS x S13) rfl trivial ?_
            refine Ev.fgt (lv' := [some (.ref 51), none, none, none, none, some (.int r12)]) ⟨rfl, rfl, trivial⟩ ?_
            exact bpX5_runOnce_51_25_194 x S13 r12 _ _ hm
        rw [if_neg c9] at hm
        by_cases c14 : (S.2.1 26 v2.toNatClampNeg) = 265
        · rw [if_pos c14] at hm
          refine ev_tIn (off := 59) (t := 170) (dcd tokX5_runOnce rfl) (by rw [c14]; decide) (by rw [c14]; decide) (by rw [c14]; rfl) rfl ?_
          refine Ev.steps tokX5_runOnce 4 (P := True) (pc' := 177) (lv' := [some (.ref 51), some (.ref 25), some (.int v2), some (.int v3), some (.int t0), none]) (st' := [.int t0, .int v3, .ref 33]) (h' := mkS x S) rfl trivial ?_
          cases h15 : gfX1_changeArm_33 x S v3 t0 with
          | none => rw [h15] at hm; cases hm
          | some q16 =>
            obtain ⟨r17, S18⟩ := q16
            rw [h15] at hm
            dsimp only at hm
            refine ev_callV (N := mX1_changeArm) (d' := 2) (bc := 0) (bs := 0) (bc' := 0) (bs' := 0) (as := [.int v3, .int t0]) (rest := []) (a := 33) (ci := 1) (dcd tokX5_runOnce rfl) okX1_changeArm inX1_changeArm seX1_changeArm lk5_70 rfl (by decide) (Nat.le_of_ble_eq_true rfl) rfl ⟨by decide, rfl⟩ (gpX1_changeArm_33 x S v3 t0 _ _ h15) (fun v h' hq hn => ?_)
            obtain ⟨rfl, rfl⟩ := hq
            refine Ev.steps tokX5_runOnce 2 (P := True) (pc' := 194) (lv' := [some (.ref 51), some (.ref 25), some (.int v2), some (.int v3), some (.int t0), some (.int r17)]) (st' := []) (h' := mkS x S18) rfl trivial ?_
            refine Ev.fgt (lv' := [some (.ref 51), none, none, none, none, some (.int r17)]) ⟨rfl, rfl, trivial⟩ ?_
            exact bpX5_runOnce_51_25_194 x S18 r17 _ _ hm
        rw [if_neg c14] at hm
        refine ev_tOut (t := 185) (dcd tokX5_runOnce rfl) (by have zc4 := lv_neT c4 (show (263 : Int32).toInt = 263 from by decide); have zc9 := lv_neT c9 (show (264 : Int32).toInt = 264 from by decide); have zc14 := lv_neT c14 (show (265 : Int32).toInt = 265 from by decide); omega) rfl ?_
        refine Ev.steps tokX5_runOnce 2 (P := True) (pc' := 189) (lv' := [some (.ref 51), some (.ref 25), some (.int v2), some (.int v3), some (.int t0), none]) (st' := [.ref 33]) (h' := mkS x S) rfl trivial ?_
        cases h19 : gfX1_nextDay_33 x S with
        | none => rw [h19] at hm; cases hm
        | some q20 =>
          obtain ⟨r21, S22⟩ := q20
          rw [h19] at hm
          dsimp only at hm
          refine ev_callV (N := mX1_nextDay) (d' := 2) (bc := 0) (bs := 0) (bc' := 0) (bs' := 0) (as := []) (rest := []) (a := 33) (ci := 1) (dcd tokX5_runOnce rfl) okX1_nextDay inX1_nextDay seX1_nextDay lk5_73 rfl (by decide) (Nat.le_of_ble_eq_true rfl) rfl ⟨by decide, rfl⟩ (gpX1_nextDay_33 x S _ _ h19) (fun v h' hq hn => ?_)
          obtain ⟨rfl, rfl⟩ := hq
          refine Ev.steps tokX5_runOnce 1 (P := True) (pc' := 194) (lv' := [some (.ref 51), some (.ref 25), some (.int v2), some (.int v3), some (.int t0), some (.int r21)]) (st' := []) (h' := mkS x S22) rfl trivial ?_
          refine Ev.fgt (lv' := [some (.ref 51), none, none, none, none, some (.int r21)]) ⟨rfl, rfl, trivial⟩ ?_
          exact bpX5_runOnce_51_25_194 x S22 r21 _ _ hm
      · rw [if_neg c2] at hm
        refine Ev.fgt (lv' := [none, none, none, none, none, none]) trivial ?_
        exact bpX5_runOnce_51_25_103 x S _ _ hm
set_option maxHeartbeats 4000000 in
set_option maxRecDepth 20000 in
theorem bpX5_runOnce_51_25_60 (x : XT)  (S : ST) (v2 : Int32) (t0 : Int32) (r : Int32) (S' : ST) (hm : bfX5_runOnce_51_25_60 x  S v2 t0 = some (r, S')) : Ev mX5_runOnce 6 0 0 60 [some (.ref 51), some (.ref 25), some (.int v2), none, none, none] [.int t0] (mkS x S) (fun v h => v = some (.int r) ∧ h = mkS x S') := by
    unfold bfX5_runOnce_51_25_60 at hm
    refine Ev.steps tokX5_runOnce 4 (P := True) (pc' := 64) (lv' := [some (.ref 51), some (.ref 25), some (.int v2), some (.int t0), none, none]) (st' := [.int 1, .int v2, .ref 25]) (h' := mkS x S) rfl trivial ?_
    cases h1 : gfX9_has_25 x S v2 1 with
    | none => rw [h1] at hm; cases hm
    | some q2 =>
      obtain ⟨r3, S4⟩ := q2
      rw [h1] at hm
      dsimp only at hm
      refine ev_callV (N := mX9_has) (d' := 1) (bc := 0) (bs := 0) (bc' := 0) (bs' := 0) (as := [.int v2, .int 1]) (rest := []) (a := 25) (ci := 9) (dcd tokX5_runOnce rfl) okX9_has inX9_has seX9_has lk5_48 rfl (by decide) (Nat.le_of_ble_eq_true rfl) rfl ⟨by decide, rfl⟩ (gpX9_has_25 x S v2 1 _ _ h1) (fun v h' hq hn => ?_)
      obtain ⟨rfl, rfl⟩ := hq
      refine Ev.steps tokX5_runOnce 1 (P := True) (pc' := if r3 = 0 then 87 else 70) (lv' := [some (.ref 51), some (.ref 25), some (.int v2), some (.int t0), none, none]) (st' := []) (h' := mkS x S4) rfl trivial ?_
      refine Ev.ite (fun c5 => ?_) (fun c5 => ?_)
      · rw [if_pos c5] at hm
        refine Ev.steps tokX5_runOnce 1 (P := True) (pc' := 88) (lv' := [some (.ref 51), some (.ref 25), some (.int v2), some (.int t0), none, none]) (st' := [.int 0]) (h' := mkS x S4) rfl trivial ?_
        exact bpX5_runOnce_51_25_88 x S4 v2 t0 0 _ _ hm
      · rw [if_neg c5] at hm
        refine Ev.steps tokX5_runOnce 7 (P := True) (pc' := 81) (lv' := [some (.ref 51), some (.ref 25), some (.int v2), some (.int t0), none, none]) (st' := [.ref 53, .ref 52, .int 1, .int v2, .ref 25]) (h' := mkS x S4) rfl trivial ?_
        cases h6 : gfX9_reckon_25_52_53 x S4 v2 1 with
        | none => rw [h6] at hm; cases hm
        | some q7 =>
          obtain ⟨r8, S9⟩ := q7
          rw [h6] at hm
          dsimp only at hm
          refine ev_callV (N := mX9_reckon) (d' := 2) (bc := 0) (bs := 0) (bc' := 0) (bs' := 0) (as := [.int v2, .int 1, .ref 52, .ref 53]) (rest := []) (a := 25) (ci := 9) (dcd tokX5_runOnce rfl) okX9_reckon inX9_reckon seX9_reckon lk5_52 rfl (by decide) (Nat.le_of_ble_eq_true rfl) rfl ⟨by decide, rfl⟩ (gpX9_reckon_25_52_53 x S4 v2 1 _ _ h6) (fun v h' hq hn => ?_)
          obtain ⟨rfl, rfl⟩ := hq
          refine Ev.steps tokX5_runOnce 1 (P := True) (pc' := 88) (lv' := [some (.ref 51), some (.ref 25), some (.int v2), some (.int t0), none, none]) (st' := [.int r8]) (h' := mkS x S9) rfl trivial ?_
          exact bpX5_runOnce_51_25_88 x S9 v2 t0 r8 _ _ hm
set_option maxHeartbeats 4000000 in
set_option maxRecDepth 20000 in
theorem bpX5_runOnce_51_25_33 (x : XT)  (S : ST) (v2 : Int32) (r : Int32) (S' : ST) (hm : bfX5_runOnce_51_25_33 x  S v2 = some (r, S')) : Ev mX5_runOnce 6 0 0 33 [some (.ref 51), some (.ref 25), some (.int v2), none, none, none] [] (mkS x S) (fun v h => v = some (.int r) ∧ h = mkS x S') := by
    unfold bfX5_runOnce_51_25_33 at hm
    refine Ev.steps tokX5_runOnce 3 (P := True) (pc' := 36) (lv' := [some (.ref 51), some (.ref 25), some (.int v2), none, none, none]) (st' := [.int 0, .int v2, .ref 25]) (h' := mkS x S) rfl trivial ?_
    cases h1 : gfX9_has_25 x S v2 0 with
    | none => rw [h1] at hm; cases hm
    | some q2 =>
      obtain ⟨r3, S4⟩ := q2
      rw [h1] at hm
      dsimp only at hm
      refine ev_callV (N := mX9_has) (d' := 1) (bc := 0) (bs := 0) (bc' := 0) (bs' := 0) (as := [.int v2, .int 0]) (rest := []) (a := 25) (ci := 9) (dcd tokX5_runOnce rfl) okX9_has inX9_has seX9_has lk5_48 rfl (by decide) (Nat.le_of_ble_eq_true rfl) rfl ⟨by decide, rfl⟩ (gpX9_has_25 x S v2 0 _ _ h1) (fun v h' hq hn => ?_)
      obtain ⟨rfl, rfl⟩ := hq
      refine Ev.steps tokX5_runOnce 1 (P := True) (pc' := if r3 = 0 then 59 else 42) (lv' := [some (.ref 51), some (.ref 25), some (.int v2), none, none, none]) (st' := []) (h' := mkS x S4) rfl trivial ?_
      refine Ev.ite (fun c5 => ?_) (fun c5 => ?_)
      · rw [if_pos c5] at hm
        refine Ev.steps tokX5_runOnce 1 (P := True) (pc' := 60) (lv' := [some (.ref 51), some (.ref 25), some (.int v2), none, none, none]) (st' := [.int 0]) (h' := mkS x S4) rfl trivial ?_
        exact bpX5_runOnce_51_25_60 x S4 v2 0 _ _ hm
      · rw [if_neg c5] at hm
        refine Ev.steps tokX5_runOnce 7 (P := True) (pc' := 53) (lv' := [some (.ref 51), some (.ref 25), some (.int v2), none, none, none]) (st' := [.ref 53, .ref 52, .int 0, .int v2, .ref 25]) (h' := mkS x S4) rfl trivial ?_
        cases h6 : gfX9_reckon_25_52_53 x S4 v2 0 with
        | none => rw [h6] at hm; cases hm
        | some q7 =>
          obtain ⟨r8, S9⟩ := q7
          rw [h6] at hm
          dsimp only at hm
          refine ev_callV (N := mX9_reckon) (d' := 2) (bc := 0) (bs := 0) (bc' := 0) (bs' := 0) (as := [.int v2, .int 0, .ref 52, .ref 53]) (rest := []) (a := 25) (ci := 9) (dcd tokX5_runOnce rfl) okX9_reckon inX9_reckon seX9_reckon lk5_52 rfl (by decide) (Nat.le_of_ble_eq_true rfl) rfl ⟨by decide, rfl⟩ (gpX9_reckon_25_52_53 x S4 v2 0 _ _ h6) (fun v h' hq hn => ?_)
          obtain ⟨rfl, rfl⟩ := hq
          refine Ev.steps tokX5_runOnce 1 (P := True) (pc' := 60) (lv' := [some (.ref 51), some (.ref 25), some (.int v2), none, none, none]) (st' := [.int r8]) (h' := mkS x S9) rfl trivial ?_
          exact bpX5_runOnce_51_25_60 x S9 v2 r8 _ _ hm
set_option maxHeartbeats 4000000 in
set_option maxRecDepth 20000 in
theorem bpX5_runOnce_51_25_0 (x : XT)  (S : ST) (p2 : Int32) (r : Int32) (S' : ST) (hm : bfX5_runOnce_51_25_0 x  S p2 = some (r, S')) : Ev mX5_runOnce 6 0 0 0 [some (.ref 51), some (.ref 25), some (.int p2), none, none, none] [] (mkS x S) (fun v h => v = some (.int r) ∧ h = mkS x S') := by
    unfold bfX5_runOnce_51_25_0 at hm
    refine Ev.steps tokX5_runOnce 1 (P := True) (pc' := 1) (lv' := [some (.ref 51), some (.ref 25), some (.int p2), none, none, none]) (st' := [.ref 51]) (h' := mkS x S) rfl trivial ?_
    cases h1 : gfX5_lookRound_51 x S with
    | none => rw [h1] at hm; cases hm
    | some q2 =>
      obtain ⟨r3, S4⟩ := q2
      rw [h1] at hm
      dsimp only at hm
      refine ev_callV (N := mX5_lookRound) (d' := 2) (bc := 0) (bs := 0) (bc' := 0) (bs' := 0) (as := []) (rest := []) (a := 51) (ci := 5) (dcd tokX5_runOnce rfl) okX5_lookRound inX5_lookRound seX5_lookRound lk5_45 rfl (by decide) (Nat.le_of_ble_eq_true rfl) rfl ⟨by decide, rfl⟩ (gpX5_lookRound_51 x S _ _ h1) (fun v h' hq hn => ?_)
      obtain ⟨rfl, rfl⟩ := hq
      refine Ev.steps tokX5_runOnce 3 (P := True) (pc' := 7) (lv' := [some (.ref 51), some (.ref 25), some (.int p2), none, none, none]) (st' := [.int 2, .int p2, .ref 25]) (h' := mkS x S4) rfl trivial ?_
      cases h5 : gfX9_has_25 x S4 p2 2 with
      | none => rw [h5] at hm; cases hm
      | some q6 =>
        obtain ⟨r7, S8⟩ := q6
        rw [h5] at hm
        dsimp only at hm
        refine ev_callV (N := mX9_has) (d' := 1) (bc := 0) (bs := 0) (bc' := 0) (bs' := 0) (as := [.int p2, .int 2]) (rest := []) (a := 25) (ci := 9) (dcd tokX5_runOnce rfl) okX9_has inX9_has seX9_has lk5_48 rfl (by decide) (Nat.le_of_ble_eq_true rfl) rfl ⟨by decide, rfl⟩ (gpX9_has_25 x S4 p2 2 _ _ h5) (fun v h' hq hn => ?_)
        obtain ⟨rfl, rfl⟩ := hq
        refine Ev.steps tokX5_runOnce 1 (P := True) (pc' := if r7 = 0 then 33 else 13) (lv' := [some (.ref 51), some (.ref 25), some (.int p2), none, none, none]) (st' := []) (h' := mkS x S8) rfl trivial ?_
        refine Ev.ite (fun c9 => ?_) (fun c9 => ?_)
        · rw [if_pos c9] at hm
          exact bpX5_runOnce_51_25_33 x S8 p2 _ _ hm
        · rw [if_neg c9] at hm
          refine Ev.steps tokX5_runOnce 7 (P := True) (pc' := 24) (lv' := [some (.ref 51), some (.ref 25), some (.int p2), none, none, none]) (st' := [.ref 53, .ref 52, .int 2, .int p2, .ref 25]) (h' := mkS x S8) rfl trivial ?_
          cases h10 : gfX9_reckon_25_52_53 x S8 p2 2 with
          | none => rw [h10] at hm; cases hm
          | some q11 =>
            obtain ⟨r12, S13⟩ := q11
            rw [h10] at hm
            dsimp only at hm
            refine ev_callV (N := mX9_reckon) (d' := 2) (bc := 0) (bs := 0) (bc' := 0) (bs' := 0) (as := [.int p2, .int 2, .ref 52, .ref 53]) (rest := []) (a := 25) (ci := 9) (dcd tokX5_runOnce rfl) okX9_reckon inX9_reckon seX9_reckon lk5_52 rfl (by decide) (Nat.le_of_ble_eq_true rfl) rfl ⟨by decide, rfl⟩ (gpX9_reckon_25_52_53 x S8 p2 2 _ _ h10) (fun v h' hq hn => ?_)
            obtain ⟨rfl, rfl⟩ := hq
            refine Ev.steps tokX5_runOnce 2 (P := True) (pc' := if r12 = 1 then 33 else 31) (lv' := [some (.ref 51), some (.ref 25), some (.int p2), none, none, none]) (st' := []) (h' := mkS x S13) rfl trivial ?_
            refine Ev.ite (fun c14 => ?_) (fun c14 => ?_)
            · rw [if_pos c14] at hm
              exact bpX5_runOnce_51_25_33 x S13 p2 _ _ hm
            · rw [if_neg c14] at hm
              refine Ev.steps tokX5_runOnce 1 (P := True) (pc' := 32) (lv' := [some (.ref 51), some (.ref 25), some (.int p2), none, none, none]) (st' := [.int 1]) (h' := mkS x S13) rfl trivial ?_
              cases hm
              exact Ev.retz tokX5_runOnce rfl rfl (Or.inr rfl) ⟨rfl, rfl⟩
theorem gpX5_runOnce_51_25 (x : XT) (S : ST) (p2 : Int32) (r : Int32) (S' : ST) (hm : gfX5_runOnce_51_25 x S p2 = some (r, S')) : Ct mX5_runOnce 6 0 0 [.ref 51, .ref 25, .int p2] (mkS x S) (fun v h => v = some (.int r) ∧ h = mkS x S') :=
  Ct.of (lv := [some (.ref 51), some (.ref 25), some (.int p2), none, none, none]) rfl rfl rfl (show (_ : Nat) ≤ _ from Nat.le_of_ble_eq_true rfl) (fun G => rfl) (bpX5_runOnce_51_25_0 x S p2 r S' hm)
end MIR
