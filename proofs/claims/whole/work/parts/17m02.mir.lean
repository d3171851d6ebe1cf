section MIR
set_option maxHeartbeats 4000000 in
set_option maxRecDepth 20000 in
theorem bpX10_terms_0_0 (x : XT)  (S : ST) (p1 : Int32) (p2 : Int32) (r : Int32) (S' : ST) (hm : bfX10_terms_0_0 x  S p1 p2 = some (r, S')) : Ev mX10_terms 3 0 0 0 [some (.ref 0), some (.int p1), some (.int p2)] [] (mkS x S) (fun v h => v = some (.int r) ∧ h = mkS x S') := by
    unfold bfX10_terms_0_0 at hm
    refine Ev.steps tokX10_terms 5 (P := True) (pc' := 7) (lv' := [some (.ref 0), some (.int p1), some (.int p2)]) (st' := [.int p2, .int p1, .ref 1, .ref 0]) (h' := mkS x S) rfl trivial ?_
    cases h1 : gfX7_changeTerm_1 x S p1 p2 with
    | none => rw [h1] at hm; cases hm
    | some q2 =>
      obtain ⟨r3, S4⟩ := q2
      rw [h1] at hm
      dsimp only at hm
      refine ev_callV (N := mX7_changeTerm) (d' := 2) (bc := 0) (bs := 0) (bc' := 0) (bs' := 0) (as := [.int p1, .int p2]) (rest := [.ref 0]) (a := 1) (ci := 7) (dcd tokX10_terms rfl) okX7_changeTerm inX7_changeTerm seX7_changeTerm lk10_164 rfl (by decide) (Nat.le_of_ble_eq_true rfl) rfl ⟨by decide, rfl⟩ (gpX7_changeTerm_1 x S p1 p2 _ _ h1) (fun v h' hq hn => ?_)
      obtain ⟨rfl, rfl⟩ := hq
      cases h5 : gfX10_toldAnew_0 x S4 r3 with
      | none => rw [h5] at hm; cases hm
      | some q6 =>
        obtain ⟨r7, S8⟩ := q6
        rw [h5] at hm
        dsimp only at hm
        refine ev_callV (N := mX10_toldAnew) (d' := 2) (bc := 0) (bs := 0) (bc' := 0) (bs' := 0) (as := [.int r3]) (rest := []) (a := 0) (ci := 10) (dcd tokX10_terms rfl) okX10_toldAnew inX10_toldAnew seX10_toldAnew lk10_107 rfl (by decide) (Nat.le_of_ble_eq_true rfl) rfl ⟨by decide, rfl⟩ (gpX10_toldAnew_0 x S4 r3 _ _ h5) (fun v h' hq hn => ?_)
        obtain ⟨rfl, rfl⟩ := hq
        cases hm
        exact Ev.reti tokX10_terms rfl rfl ⟨rfl, rfl⟩
theorem gpX10_terms_0 (x : XT) (S : ST) (p1 : Int32) (p2 : Int32) (r : Int32) (S' : ST) (hm : gfX10_terms_0 x S p1 p2 = some (r, S')) : Ct mX10_terms 3 0 0 [.ref 0, .int p1, .int p2] (mkS x S) (fun v h => v = some (.int r) ∧ h = mkS x S') :=
  Ct.of (lv := [some (.ref 0), some (.int p1), some (.int p2)]) rfl rfl rfl (show (_ : Nat) ≤ _ from Nat.le_of_ble_eq_true rfl) (fun G => rfl) (bpX10_terms_0_0 x S p1 p2 r S' hm)
set_option maxHeartbeats 4000000 in
set_option maxRecDepth 20000 in
theorem bpX8_takeFour_18_46 (x : XT)  (S : ST)  (r : Unit) (S' : ST) (hm : bfX8_takeFour_18_46 x  S  = some (r, S')) : Ev mX8_takeFour 1 0 0 46 [none, none, none] [] (mkS x S) (fun v h => v = none ∧ h = mkS x S') := by
    unfold bfX8_takeFour_18_46 at hm
    cases hm
    exact Ev.retv tokX8_takeFour rfl rfl ⟨rfl, rfl⟩
set_option maxHeartbeats 4000000 in
set_option maxRecDepth 20000 in
theorem bpX8_takeFour_18_3 (x : XT) (k3 : ST → Int32 → Int32 → Option (Unit × ST)) (hk3 : ∀ (S : ST) (v1 : Int32) (v2 : Int32) (r : Unit) (S' : ST), k3 S v1 v2 = some (r, S') → Ev mX8_takeFour 1 0 0 3 [some (.ref 18), some (.int v1), some (.int v2)] [] (mkS x S) (fun v h => v = none ∧ h = mkS x S')) (S : ST) (v1 : Int32) (v2 : Int32) (r : Unit) (S' : ST) (hm : bfX8_takeFour_18_3 x k3 S v1 v2 = some (r, S')) : Ev mX8_takeFour 1 0 0 3 [some (.ref 18), some (.int v1), some (.int v2)] [] (mkS x S) (fun v h => v = none ∧ h = mkS x S') := by
    unfold bfX8_takeFour_18_3 at hm
    refine Ev.steps tokX8_takeFour 2 (P := True) (pc' := if v2 < 0 then 46 else 7) (lv' := [some (.ref 18), some (.int v1), some (.int v2)]) (st' := []) (h' := mkS x S) rfl trivial ?_
    refine Ev.ite (fun c1 => ?_) (fun c1 => ?_)
    · rw [if_pos c1] at hm
      refine Ev.fgt (lv' := [none, none, none]) trivial ?_
      exact bpX8_takeFour_18_46 x S _ _ hm
    · rw [if_neg c1] at hm
      refine Ev.steps tokX8_takeFour 4 (P := True) (pc' := if 400 ≤ (S.1 18 1) then 46 else 17) (lv' := [some (.ref 18), some (.int v1), some (.int v2)]) (st' := []) (h' := mkS x S) rfl trivial ?_
      refine Ev.ite (fun c2 => ?_) (fun c2 => ?_)
      · rw [if_pos c2] at hm
        refine Ev.fgt (lv' := [none, none, none]) trivial ?_
        exact bpX8_takeFour_18_46 x S _ _ hm
      · rw [if_neg c2] at hm
        obtain ⟨o3, hm⟩ := oblk hm
        refine Ev.steps tokX8_takeFour 17 (P := vp_in (S.1 18 1) 400 ∧ True) (pc' := 3) (lv' := [some (.ref 18), some (.int v1), some (.int (v2 + (-8)))]) (st' := []) (h' := mkS x ((u2 S.1 18 1 ((S.1 18 1) + 1)), (u2 S.2.1 19 ((S.1 18 1).toNatClampNeg) (((v1.toUInt32 >>> (v2.toUInt32 &&& Int32.toUInt32 31)).toInt32) &&& 255)), S.2.2.1, S.2.2.2)) rfl ⟨inb_ok o3, trivial⟩ ?_
        exact hk3 ((u2 S.1 18 1 ((S.1 18 1) + 1)), (u2 S.2.1 19 ((S.1 18 1).toNatClampNeg) (((v1.toUInt32 >>> (v2.toUInt32 &&& Int32.toUInt32 31)).toInt32) &&& 255)), S.2.2.1, S.2.2.2) v1 (v2 + (-8)) _ _ hm
theorem lpX8_takeFour_18_3 (x : XT)  : ∀ (n : Nat) (S : ST) (v1 : Int32) (v2 : Int32) (r : Unit) (S' : ST), lfX8_takeFour_18_3 x  n S v1 v2 = some (r, S') → Ev mX8_takeFour 1 0 0 3 [some (.ref 18), some (.int v1), some (.int v2)] [] (mkS x S) (fun v h => v = none ∧ h = mkS x S')
  | 0, _, _, _, _, _, hm => by cases hm
  | n + 1, S, v1, v2, r, S', hm => bpX8_takeFour_18_3 x (lfX8_takeFour_18_3 x  n) (lpX8_takeFour_18_3 x  n) S v1 v2 r S' hm
set_option maxHeartbeats 4000000 in
set_option maxRecDepth 20000 in
theorem bpX8_takeFour_18_0 (x : XT)  (S : ST) (p1 : Int32) (r : Unit) (S' : ST) (hm : bfX8_takeFour_18_0 x  S p1 = some (r, S')) : Ev mX8_takeFour 1 0 0 0 [some (.ref 18), some (.int p1), none] [] (mkS x S) (fun v h => v = none ∧ h = mkS x S') := by
    unfold bfX8_takeFour_18_0 at hm
    refine Ev.steps tokX8_takeFour 2 (P := True) (pc' := 3) (lv' := [some (.ref 18), some (.int p1), some (.int 24)]) (st' := []) (h' := mkS x S) rfl trivial ?_
    exact lpX8_takeFour_18_3 x  20000 S p1 24 _ _ hm
theorem gpX8_takeFour_18 (x : XT) (S : ST) (p1 : Int32) (r : Unit) (S' : ST) (hm : gfX8_takeFour_18 x S p1 = some (r, S')) : Ct mX8_takeFour 1 0 0 [.ref 18, .int p1] (mkS x S) (fun v h => v = none ∧ h = mkS x S') :=
  Ct.of (lv := [some (.ref 18), some (.int p1), none]) rfl rfl rfl (show (_ : Nat) ≤ _ from Nat.le_of_ble_eq_true rfl) (fun G => rfl) (bpX8_takeFour_18_0 x S p1 r S' hm)
set_option maxHeartbeats 4000000 in
set_option maxRecDepth 20000 in
theorem bpX8_take_18_0 (x : XT)  (S : ST) (p1 : Int32) (p2 : Int32) (p3 : Int32) (p4 : Int32) (p5 : Int32) (r : Int32) (S' : ST) (hm : bfX8_take_18_0 x  S p1 p2 p3 p4 p5 = some (r, S')) : Ev mX8_take 2 0 0 0 [some (.ref 18), some (.int p1), some (.int p2), some (.int p3), some (.int p4), some (.int p5)] [] (mkS x S) (fun v h => v = some (.int r) ∧ h = mkS x S') := by
    unfold bfX8_take_18_0 at hm
    refine Ev.steps tokX8_take 4 (P := True) (pc' := if (S.1 18 1) ≤ 380 then 12 else 10) (lv' := [some (.ref 18), some (.int p1), some (.int p2), some (.int p3), some (.int p4), some (.int p5)]) (st' := []) (h' := mkS x S) rfl trivial ?_
    refine Ev.ite (fun c1 => ?_) (fun c1 => ?_)
    · rw [if_pos c1] at hm
      refine Ev.steps tokX8_take 2 (P := True) (pc' := 14) (lv' := [some (.ref 18), some (.int p1), some (.int p2), some (.int p3), some (.int p4), some (.int p5)]) (st' := [.int p1, .ref 18]) (h' := mkS x S) rfl trivial ?_
      cases h2 : gfX8_takeFour_18 x S p1 with
      | none => rw [h2] at hm; cases hm
      | some q3 =>
        obtain ⟨r4, S5⟩ := q3
        rw [h2] at hm
        dsimp only at hm
        refine ev_callV (N := mX8_takeFour) (d' := 1) (bc := 0) (bs := 0) (bc' := 0) (bs' := 0) (as := [.int p1]) (rest := []) (a := 18) (ci := 8) (dcd tokX8_take rfl) okX8_takeFour inX8_takeFour seX8_takeFour lk8_19 rfl (by decide) (Nat.le_of_ble_eq_true rfl) rfl ⟨by decide, rfl⟩ (gpX8_takeFour_18 x S p1 _ _ h2) (fun v h' hq hn => ?_)
        obtain ⟨rfl, rfl⟩ := hq
        refine Ev.steps tokX8_take 2 (P := True) (pc' := 19) (lv' := [some (.ref 18), some (.int p1), some (.int p2), some (.int p3), some (.int p4), some (.int p5)]) (st' := [.int p2, .ref 18]) (h' := mkS x S5) rfl trivial ?_
        cases h6 : gfX8_takeFour_18 x S5 p2 with
        | none => rw [h6] at hm; cases hm
        | some q7 =>
          obtain ⟨r8, S9⟩ := q7
          rw [h6] at hm
          dsimp only at hm
          refine ev_callV (N := mX8_takeFour) (d' := 1) (bc := 0) (bs := 0) (bc' := 0) (bs' := 0) (as := [.int p2]) (rest := []) (a := 18) (ci := 8) (dcd tokX8_take rfl) okX8_takeFour inX8_takeFour seX8_takeFour lk8_19 rfl (by decide) (Nat.le_of_ble_eq_true rfl) rfl ⟨by decide, rfl⟩ (gpX8_takeFour_18 x S5 p2 _ _ h6) (fun v h' hq hn => ?_)
          obtain ⟨rfl, rfl⟩ := hq
          refine Ev.steps tokX8_take 2 (P := True) (pc' := 24) (lv' := [some (.ref 18), some (.int p1), some (.int p2), some (.int p3), some (.int p4), some (.int p5)]) (st' := [.int p3, .ref 18]) (h' := mkS x S9) rfl trivial ?_
          cases h10 : gfX8_takeFour_18 x S9 p3 with
          | none => rw [h10] at hm; cases hm
          | some q11 =>
            obtain ⟨r12, S13⟩ := q11
            rw [h10] at hm
            dsimp only at hm
            refine ev_callV (N := mX8_takeFour) (d' := 1) (bc := 0) (bs := 0) (bc' := 0) (bs' := 0) (as := [.int p3]) (rest := []) (a := 18) (ci := 8) (dcd tokX8_take rfl) okX8_takeFour inX8_takeFour seX8_takeFour lk8_19 rfl (by decide) (Nat.le_of_ble_eq_true rfl) rfl ⟨by decide, rfl⟩ (gpX8_takeFour_18 x S9 p3 _ _ h10) (fun v h' hq hn => ?_)
            obtain ⟨rfl, rfl⟩ := hq
            refine Ev.steps tokX8_take 2 (P := True) (pc' := 30) (lv' := [some (.ref 18), some (.int p1), some (.int p2), some (.int p3), some (.int p4), some (.int p5)]) (st' := [.int p4, .ref 18]) (h' := mkS x S13) rfl trivial ?_
            cases h14 : gfX8_takeFour_18 x S13 p4 with
            | none => rw [h14] at hm; cases hm
            | some q15 =>
              obtain ⟨r16, S17⟩ := q15
              rw [h14] at hm
              dsimp only at hm
              refine ev_callV (N := mX8_takeFour) (d' := 1) (bc := 0) (bs := 0) (bc' := 0) (bs' := 0) (as := [.int p4]) (rest := []) (a := 18) (ci := 8) (dcd tokX8_take rfl) okX8_takeFour inX8_takeFour seX8_takeFour lk8_19 rfl (by decide) (Nat.le_of_ble_eq_true rfl) rfl ⟨by decide, rfl⟩ (gpX8_takeFour_18 x S13 p4 _ _ h14) (fun v h' hq hn => ?_)
              obtain ⟨rfl, rfl⟩ := hq
              refine Ev.steps tokX8_take 2 (P := True) (pc' := 36) (lv' := [some (.ref 18), some (.int p1), some (.int p2), some (.int p3), some (.int p4), some (.int p5)]) (st' := [.int p5, .ref 18]) (h' := mkS x S17) rfl trivial ?_
              cases h18 : gfX8_takeFour_18 x S17 p5 with
              | none => rw [h18] at hm; cases hm
              | some q19 =>
                obtain ⟨r20, S21⟩ := q19
                rw [h18] at hm
                dsimp only at hm
                refine ev_callV (N := mX8_takeFour) (d' := 1) (bc := 0) (bs := 0) (bc' := 0) (bs' := 0) (as := [.int p5]) (rest := []) (a := 18) (ci := 8) (dcd tokX8_take rfl) okX8_takeFour inX8_takeFour seX8_takeFour lk8_19 rfl (by decide) (Nat.le_of_ble_eq_true rfl) rfl ⟨by decide, rfl⟩ (gpX8_takeFour_18 x S17 p5 _ _ h18) (fun v h' hq hn => ?_)
                obtain ⟨rfl, rfl⟩ := hq
                refine Ev.steps tokX8_take 2 (P := True) (pc' := 43) (lv' := [some (.ref 18), some (.int p1), some (.int p2), some (.int p3), some (.int p4), some (.int p5)]) (st' := [.int (S21.1 18 1)]) (h' := mkS x S21) rfl trivial ?_
                cases hm
                exact Ev.reti tokX8_take rfl rfl ⟨rfl, rfl⟩
    · rw [if_neg c1] at hm
      refine Ev.steps tokX8_take 1 (P := True) (pc' := 11) (lv' := [some (.ref 18), some (.int p1), some (.int p2), some (.int p3), some (.int p4), some (.int p5)]) (st' := [.int (-1)]) (h' := mkS x S) rfl trivial ?_
      cases hm
      exact Ev.reti tokX8_take rfl rfl ⟨rfl, rfl⟩
theorem gpX8_take_18 (x : XT) (S : ST) (p1 : Int32) (p2 : Int32) (p3 : Int32) (p4 : Int32) (p5 : Int32) (r : Int32) (S' : ST) (hm : gfX8_take_18 x S p1 p2 p3 p4 p5 = some (r, S')) : Ct mX8_take 2 0 0 [.ref 18, .int p1, .int p2, .int p3, .int p4, .int p5] (mkS x S) (fun v h => v = some (.int r) ∧ h = mkS x S') :=
  Ct.of (lv := [some (.ref 18), some (.int p1), some (.int p2), some (.int p3), some (.int p4), some (.int p5)]) rfl rfl rfl (show (_ : Nat) ≤ _ from Nat.le_of_ble_eq_true rfl) (fun G => rfl) (bpX8_take_18_0 x S p1 p2 p3 p4 p5 r S' hm)
set_option maxHeartbeats 4000000 in
set_option maxRecDepth 20000 in
theorem bpX10_feed_0_0 (x : XT)  (S : ST) (p1 : Int32) (p2 : Int32) (p3 : Int32) (p4 : Int32) (p5 : Int32) (r : Int32) (S' : ST) (hm : bfX10_feed_0_0 x  S p1 p2 p3 p4 p5 = some (r, S')) : Ev mX10_feed 3 0 0 0 [some (.ref 0), some (.int p1), some (.int p2), some (.int p3), some (.int p4), some (.int p5)] [] (mkS x S) (fun v h => v = some (.int r) ∧ h = mkS x S') := by
    unfold bfX10_feed_0_0 at hm
    refine Ev.steps tokX10_feed 7 (P := True) (pc' := 11) (lv' := [some (.ref 0), some (.int p1), some (.int p2), some (.int p3), some (.int p4), some (.int p5)]) (st' := [.int p5, .int p4, .int p3, .int p2, .int p1, .ref 18]) (h' := mkS x S) rfl trivial ?_
    cases h1 : gfX8_take_18 x S p1 p2 p3 p4 p5 with
    | none => rw [h1] at hm; cases hm
    | some q2 =>
      obtain ⟨r3, S4⟩ := q2
      rw [h1] at hm
      dsimp only at hm
      refine ev_callV (N := mX8_take) (d' := 2) (bc := 0) (bs := 0) (bc' := 0) (bs' := 0) (as := [.int p1, .int p2, .int p3, .int p4, .int p5]) (rest := []) (a := 18) (ci := 8) (dcd tokX10_feed rfl) okX8_take inX8_take seX8_take lk10_168 rfl (by decide) (Nat.le_of_ble_eq_true rfl) rfl ⟨by decide, rfl⟩ (gpX8_take_18 x S p1 p2 p3 p4 p5 _ _ h1) (fun v h' hq hn => ?_)
      obtain ⟨rfl, rfl⟩ := hq
      cases hm
      exact Ev.reti tokX10_feed rfl rfl ⟨rfl, rfl⟩
theorem gpX10_feed_0 (x : XT) (S : ST) (p1 : Int32) (p2 : Int32) (p3 : Int32) (p4 : Int32) (p5 : Int32) (r : Int32) (S' : ST) (hm : gfX10_feed_0 x S p1 p2 p3 p4 p5 = some (r, S')) : Ct mX10_feed 3 0 0 [.ref 0, .int p1, .int p2, .int p3, .int p4, .int p5] (mkS x S) (fun v h => v = some (.int r) ∧ h = mkS x S') :=
  Ct.of (lv := [some (.ref 0), some (.int p1), some (.int p2), some (.int p3), some (.int p4), some (.int p5)]) rfl rfl rfl (show (_ : Nat) ≤ _ from Nat.le_of_ble_eq_true rfl) (fun G => rfl) (bpX10_feed_0_0 x S p1 p2 p3 p4 p5 r S' hm)
set_option maxHeartbeats 4000000 in
set_option maxRecDepth 20000 in
theorem bpX8_shorten_18_12 (x : XT)  (S : ST)  (r : Int32) (S' : ST) (hm : bfX8_shorten_18_12 x  S  = some (r, S')) : Ev mX8_shorten 1 0 0 12 [none, none] [] (mkS x S) (fun v h => v = some (.int r) ∧ h = mkS x S') := by
    unfold bfX8_shorten_18_12 at hm
    refine Ev.steps tokX8_shorten 1 (P := True) (pc' := 13) (lv' := [none, none]) (st' := [.int (-1)]) (h' := mkS x S) rfl trivial ?_
    cases hm
    exact Ev.reti tokX8_shorten rfl rfl ⟨rfl, rfl⟩
set_option maxHeartbeats 4000000 in
set_option maxRecDepth 20000 in
theorem bpX8_shorten_18_0 (x : XT)  (S : ST) (p1 : Int32) (r : Int32) (S' : ST) (hm : bfX8_shorten_18_0 x  S p1 = some (r, S')) : Ev mX8_shorten 1 0 0 0 [some (.ref 18), some (.int p1)] [] (mkS x S) (fun v h => v = some (.int r) ∧ h = mkS x S') := by
    unfold bfX8_shorten_18_0 at hm
    refine Ev.steps tokX8_shorten 2 (P := True) (pc' := if p1 < 0 then 12 else 4) (lv' := [some (.ref 18), some (.int p1)]) (st' := []) (h' := mkS x S) rfl trivial ?_
    refine Ev.ite (fun c1 => ?_) (fun c1 => ?_)
    · rw [if_pos c1] at hm
      refine Ev.fgt (lv' := [none, none]) trivial ?_
      exact bpX8_shorten_18_12 x S _ _ hm
    · rw [if_neg c1] at hm
      refine Ev.steps tokX8_shorten 4 (P := True) (pc' := if p1 ≤ (S.1 18 1) then 14 else 12) (lv' := [some (.ref 18), some (.int p1)]) (st' := []) (h' := mkS x S) rfl trivial ?_
      refine Ev.ite (fun c2 => ?_) (fun c2 => ?_)
      · rw [if_pos c2] at hm
        refine Ev.steps tokX8_shorten 4 (P := True) (pc' := 20) (lv' := [some (.ref 18), some (.int p1)]) (st' := [.int p1]) (h' := mkS x ((u2 S.1 18 1 p1), S.2.1, S.2.2.1, S.2.2.2)) rfl trivial ?_
        cases hm
        exact Ev.reti tokX8_shorten rfl rfl ⟨rfl, rfl⟩
      · rw [if_neg c2] at hm
        refine Ev.fgt (lv' := [none, none]) trivial ?_
        exact bpX8_shorten_18_12 x S _ _ hm
theorem gpX8_shorten_18 (x : XT) (S : ST) (p1 : Int32) (r : Int32) (S' : ST) (hm : gfX8_shorten_18 x S p1 = some (r, S')) : Ct mX8_shorten 1 0 0 [.ref 18, .int p1] (mkS x S) (fun v h => v = some (.int r) ∧ h = mkS x S') :=
  Ct.of (lv := [some (.ref 18), some (.int p1)]) rfl rfl rfl (show (_ : Nat) ≤ _ from Nat.le_of_ble_eq_true rfl) (fun G => rfl) (bpX8_shorten_18_0 x S p1 r S' hm)
set_option maxHeartbeats 4000000 in
set_option maxRecDepth 20000 in
theorem bpX10_end_0_0 (x : XT)  (S : ST) (p1 : Int32) (r : Int32) (S' : ST) (hm : bfX10_end_0_0 x  S p1 = some (r, S')) : Ev mX10_end 2 0 0 0 [some (.ref 0), some (.int p1)] [] (mkS x S) (fun v h => v = some (.int r) ∧ h = mkS x S') := by
    unfold bfX10_end_0_0 at hm
    refine Ev.steps tokX10_end 3 (P := True) (pc' := 5) (lv' := [some (.ref 0), some (.int p1)]) (st' := [.int p1, .ref 18]) (h' := mkS x S) rfl trivial ?_
    cases h1 : gfX8_shorten_18 x S p1 with
    | none => rw [h1] at hm; cases hm
    | some q2 =>
      obtain ⟨r3, S4⟩ := q2
      rw [h1] at hm
      dsimp only at hm
      refine ev_callV (N := mX8_shorten) (d' := 1) (bc := 0) (bs := 0) (bc' := 0) (bs' := 0) (as := [.int p1]) (rest := []) (a := 18) (ci := 8) (dcd tokX10_end rfl) okX8_shorten inX8_shorten seX8_shorten lk10_172 rfl (by decide) (Nat.le_of_ble_eq_true rfl) rfl ⟨by decide, rfl⟩ (gpX8_shorten_18 x S p1 _ _ h1) (fun v h' hq hn => ?_)
      obtain ⟨rfl, rfl⟩ := hq
      cases hm
      exact Ev.reti tokX10_end rfl rfl ⟨rfl, rfl⟩
theorem gpX10_end_0 (x : XT) (S : ST) (p1 : Int32) (r : Int32) (S' : ST) (hm : gfX10_end_0 x S p1 = some (r, S')) : Ct mX10_end 2 0 0 [.ref 0, .int p1] (mkS x S) (fun v h => v = some (.int r) ∧ h = mkS x S') :=
  Ct.of (lv := [some (.ref 0), some (.int p1)]) rfl rfl rfl (show (_ : Nat) ≤ _ from Nat.le_of_ble_eq_true rfl) (fun G => rfl) (bpX10_end_0_0 x S p1 r S' hm)
set_option maxHeartbeats 4000000 in
set_option maxRecDepth 20000 in
theorem bpX8_clear_18_0 (x : XT)  (S : ST)  (r : Unit) (S' : ST) (hm : bfX8_clear_18_0 x  S  = some (r, S')) : Ev mX8_clear 1 0 0 0 [some (.ref 18)] [] (mkS x S) (fun v h => v = none ∧ h = mkS x S') := by
    unfold bfX8_clear_18_0 at hm
    refine Ev.steps tokX8_clear 3 (P := True) (pc' := 5) (lv' := [some (.ref 18)]) (st' := []) (h' := mkS x ((u2 S.1 18 1 0), S.2.1, S.2.2.1, S.2.2.2)) rfl trivial ?_
    cases hm
    exact Ev.retv tokX8_clear rfl rfl ⟨rfl, rfl⟩
theorem gpX8_clear_18 (x : XT) (S : ST)  (r : Unit) (S' : ST) (hm : gfX8_clear_18 x S  = some (r, S')) : Ct mX8_clear 1 0 0 [.ref 18] (mkS x S) (fun v h => v = none ∧ h = mkS x S') :=
  Ct.of (lv := [some (.ref 18)]) rfl rfl rfl (show (_ : Nat) ≤ _ from Nat.le_of_ble_eq_true rfl) (fun G => rfl) (bpX8_clear_18_0 x S  r S' hm)
set_option maxHeartbeats 4000000 in
set_option maxRecDepth 20000 in
theorem bpX8_byteAt_18_22 (x : XT)  (S : ST) (t0 : Int32) (r : Int32) (S' : ST) (hm : bfX8_byteAt_18_22 x  S t0 = some (r, S')) : Ev mX8_byteAt 1 0 0 22 [none, none] [.int t0] (mkS x S) (fun v h => v = some (.int r) ∧ h = mkS x S') := by
    unfold bfX8_byteAt_18_22 at hm
    cases hm
    exact Ev.reti tokX8_byteAt rfl rfl ⟨rfl, rfl⟩
set_option maxHeartbeats 4000000 in
set_option maxRecDepth 20000 in
theorem bpX8_byteAt_18_21 (x : XT)  (S : ST)  (r : Int32) (S' : ST) (hm : bfX8_byteAt_18_21 x  S  = some (r, S')) : Ev mX8_byteAt 1 0 0 21 [none, none] [] (mkS x S) (fun v h => v = some (.int r) ∧ h = mkS x S') := by
    unfold bfX8_byteAt_18_21 at hm
    refine Ev.steps tokX8_byteAt 1 (P := True) (pc' := 22) (lv' := [none, none]) (st' := [.int (-1)]) (h' := mkS x S) rfl trivial ?_
    exact bpX8_byteAt_18_22 x S (-1) _ _ hm
set_option maxHeartbeats 4000000 in
set_option maxRecDepth 20000 in
theorem bpX8_byteAt_18_0 (x : XT)  (S : ST) (p1 : Int32) (r : Int32) (S' : ST) (hm : bfX8_byteAt_18_0 x  S p1 = some (r, S')) : Ev mX8_byteAt 1 0 0 0 [some (.ref 18), some (.int p1)] [] (mkS x S) (fun v h => v = some (.int r) ∧ h = mkS x S') := by
    unfold bfX8_byteAt_18_0 at hm
    refine Ev.steps tokX8_byteAt 2 (P := True) (pc' := if p1 < 0 then 21 else 4) (lv' := [some (.ref 18), some (.int p1)]) (st' := []) (h' := mkS x S) rfl trivial ?_
    refine Ev.ite (fun c1 => ?_) (fun c1 => ?_)
    · rw [if_pos c1] at hm
      refine Ev.fgt (lv' := [none, none]) trivial ?_
      exact bpX8_byteAt_18_21 x S _ _ hm
    · rw [if_neg c1] at hm
      refine Ev.steps tokX8_byteAt 4 (P := True) (pc' := if (S.1 18 1) ≤ p1 then 21 else 12) (lv' := [some (.ref 18), some (.int p1)]) (st' := []) (h' := mkS x S) rfl trivial ?_
      refine Ev.ite (fun c2 => ?_) (fun c2 => ?_)
      · rw [if_pos c2] at hm
        refine Ev.fgt (lv' := [none, none]) trivial ?_
        exact bpX8_byteAt_18_21 x S _ _ hm
      · rw [if_neg c2] at hm
        obtain ⟨o3, hm⟩ := oblk hm
        refine Ev.steps tokX8_byteAt 5 (P := vp_in p1 400 ∧ True) (pc' := 22) (lv' := [some (.ref 18), some (.int p1)]) (st' := [.int (S.2.1 19 p1.toNatClampNeg)]) (h' := mkS x S) rfl ⟨inb_ok o3, trivial⟩ ?_
        refine Ev.fgt (lv' := [none, none]) trivial ?_
        exact bpX8_byteAt_18_22 x S (S.2.1 19 p1.toNatClampNeg) _ _ hm
theorem gpX8_byteAt_18 (x : XT) (S : ST) (p1 : Int32) (r : Int32) (S' : ST) (hm : gfX8_byteAt_18 x S p1 = some (r, S')) : Ct mX8_byteAt 1 0 0 [.ref 18, .int p1] (mkS x S) (fun v h => v = some (.int r) ∧ h = mkS x S') :=
  Ct.of (lv := [some (.ref 18), some (.int p1)]) rfl rfl rfl (show (_ : Nat) ≤ _ from Nat.le_of_ble_eq_true rfl) (fun G => rfl) (bpX8_byteAt_18_0 x S p1 r S' hm)
set_option maxHeartbeats 4000000 in
set_option maxRecDepth 20000 in
theorem bpX10_row_0_101 (x : XT) (k26 : ST → Int32 → Int32 → Option (Int32 × ST)) (hk26 : ∀ (S : ST) (v1 : Int32) (v2 : Int32) (r : Int32) (S' : ST), k26 S v1 v2 = some (r, S') → Ev mX10_row 3 0 0 26 [some (.ref 0), some (.int v1), some (.int v2)] [] (mkS x S) (fun v h => v = some (.int r) ∧ h = mkS x S')) (S : ST) (v1 : Int32) (v2 : Int32) (r : Int32) (S' : ST) (hm : bfX10_row_0_101 x k26 S v1 v2 = some (r, S')) : Ev mX10_row 3 0 0 101 [some (.ref 0), some (.int v1), some (.int v2)] [] (mkS x S) (fun v h => v = some (.int r) ∧ h = mkS x S') := by
    unfold bfX10_row_0_101 at hm
    refine Ev.steps tokX10_row 2 (P := True) (pc' := 26) (lv' := [some (.ref 0), some (.int v1), some (.int (v2 + 4))]) (st' := []) (h' := mkS x S) rfl trivial ?_
    exact hk26 S v1 (v2 + 4) _ _ hm
set_option maxHeartbeats 4000000 in
set_option maxRecDepth 20000 in
theorem bpX10_row_0_26 (x : XT) (k26 : ST → Int32 → Int32 → Option (Int32 × ST)) (hk26 : ∀ (S : ST) (v1 : Int32) (v2 : Int32) (r : Int32) (S' : ST), k26 S v1 v2 = some (r, S') → Ev mX10_row 3 0 0 26 [some (.ref 0), some (.int v1), some (.int v2)] [] (mkS x S) (fun v h => v = some (.int r) ∧ h = mkS x S')) (S : ST) (v1 : Int32) (v2 : Int32) (r : Int32) (S' : ST) (hm : bfX10_row_0_26 x k26 S v1 v2 = some (r, S')) : Ev mX10_row 3 0 0 26 [some (.ref 0), some (.int v1), some (.int v2)] [] (mkS x S) (fun v h => v = some (.int r) ∧ h = mkS x S') := by
    unfold bfX10_row_0_26 at hm
    refine Ev.steps tokX10_row 5 (P := True) (pc' := if (S.1 18 1) ≤ v2 then 107 else 37) (lv' := [some (.ref 0), some (.int v1), some (.int v2)]) (st' := []) (h' := mkS x S) rfl trivial ?_
    refine Ev.ite (fun c1 => ?_) (fun c1 => ?_)
    · rw [if_pos c1] at hm
      refine Ev.steps tokX10_row 2 (P := True) (pc' := 111) (lv' := [some (.ref 0), some (.int v1), some (.int v2)]) (st' := [.ref 18]) (h' := mkS x S) rfl trivial ?_
      cases h2 : gfX8_clear_18 x S with
      | none => rw [h2] at hm; cases hm
      | some q3 =>
        obtain ⟨r4, S5⟩ := q3
        rw [h2] at hm
        dsimp only at hm
        refine ev_callV (N := mX8_clear) (d' := 1) (bc := 0) (bs := 0) (bc' := 0) (bs' := 0) (as := []) (rest := []) (a := 18) (ci := 8) (dcd tokX10_row rfl) okX8_clear inX8_clear seX8_clear lk10_183 rfl (by decide) (Nat.le_of_ble_eq_true rfl) rfl ⟨by decide, rfl⟩ (gpX8_clear_18 x S _ _ h2) (fun v h' hq hn => ?_)
        obtain ⟨rfl, rfl⟩ := hq
        refine Ev.steps tokX10_row 2 (P := True) (pc' := 116) (lv' := [some (.ref 0), some (.int v1), some (.int v2)]) (st' := [.int v1, .ref 0]) (h' := mkS x S5) rfl trivial ?_
        cases h6 : gfX10_toldAnew_0 x S5 v1 with
        | none => rw [h6] at hm; cases hm
        | some q7 =>
          obtain ⟨r8, S9⟩ := q7
          rw [h6] at hm
          dsimp only at hm
          refine ev_callV (N := mX10_toldAnew) (d' := 2) (bc := 0) (bs := 0) (bc' := 0) (bs' := 0) (as := [.int v1]) (rest := []) (a := 0) (ci := 10) (dcd tokX10_row rfl) okX10_toldAnew inX10_toldAnew seX10_toldAnew lk10_107 rfl (by decide) (Nat.le_of_ble_eq_true rfl) rfl ⟨by decide, rfl⟩ (gpX10_toldAnew_0 x S5 v1 _ _ h6) (fun v h' hq hn => ?_)
          obtain ⟨rfl, rfl⟩ := hq
          cases hm
          exact Ev.reti tokX10_row rfl rfl ⟨rfl, rfl⟩
    · rw [if_neg c1] at hm
      refine Ev.steps tokX10_row 5 (P := True) (pc' := 46) (lv' := [some (.ref 0), some (.int v1), some (.int v2)]) (st' := [.int v2, .ref 18, .ref 1]) (h' := mkS x S) rfl trivial ?_
      cases h10 : gfX8_byteAt_18 x S v2 with
      | none => rw [h10] at hm; cases hm
      | some q11 =>
        obtain ⟨r12, S13⟩ := q11
        rw [h10] at hm
        dsimp only at hm
        refine ev_callV (N := mX8_byteAt) (d' := 1) (bc := 0) (bs := 0) (bc' := 0) (bs' := 0) (as := [.int v2]) (rest := [.ref 1]) (a := 18) (ci := 8) (dcd tokX10_row rfl) okX8_byteAt inX8_byteAt seX8_byteAt lk10_180 rfl (by decide) (Nat.le_of_ble_eq_true rfl) rfl ⟨by decide, rfl⟩ (gpX8_byteAt_18 x S v2 _ _ h10) (fun v h' hq hn => ?_)
        obtain ⟨rfl, rfl⟩ := hq
        refine Ev.steps tokX10_row 5 (P := True) (pc' := 56) (lv' := [some (.ref 0), some (.int v1), some (.int v2)]) (st' := [.int (v2 + 1), .ref 18, .int r12, .ref 1]) (h' := mkS x S13) rfl trivial ?_
        cases h14 : gfX8_byteAt_18 x S13 (v2 + 1) with
        | none => rw [h14] at hm; cases hm
        | some q15 =>
          obtain ⟨r16, S17⟩ := q15
          rw [h14] at hm
          dsimp only at hm
          refine ev_callV (N := mX8_byteAt) (d' := 1) (bc := 0) (bs := 0) (bc' := 0) (bs' := 0) (as := [.int (v2 + 1)]) (rest := [.int r12, .ref 1]) (a := 18) (ci := 8) (dcd tokX10_row rfl) okX8_byteAt inX8_byteAt seX8_byteAt lk10_180 rfl (by decide) (Nat.le_of_ble_eq_true rfl) rfl ⟨by decide, rfl⟩ (gpX8_byteAt_18 x S13 (v2 + 1) _ _ h14) (fun v h' hq hn => ?_)
          obtain ⟨rfl, rfl⟩ := hq
          refine Ev.steps tokX10_row 5 (P := True) (pc' := 66) (lv' := [some (.ref 0), some (.int v1), some (.int v2)]) (st' := [.int (v2 + 2), .ref 18, .int r16, .int r12, .ref 1]) (h' := mkS x S17) rfl trivial ?_
          cases h18 : gfX8_byteAt_18 x S17 (v2 + 2) with
          | none => rw [h18] at hm; cases hm
          | some q19 =>
            obtain ⟨r20, S21⟩ := q19
            rw [h18] at hm
            dsimp only at hm
            refine ev_callV (N := mX8_byteAt) (d' := 1) (bc := 0) (bs := 0) (bc' := 0) (bs' := 0) (as := [.int (v2 + 2)]) (rest := [.int r16, .int r12, .ref 1]) (a := 18) (ci := 8) (dcd tokX10_row rfl) okX8_byteAt inX8_byteAt seX8_byteAt lk10_180 rfl (by decide) (Nat.le_of_ble_eq_true rfl) rfl ⟨by decide, rfl⟩ (gpX8_byteAt_18 x S17 (v2 + 2) _ _ h18) (fun v h' hq hn => ?_)
            obtain ⟨rfl, rfl⟩ := hq
            refine Ev.steps tokX10_row 5 (P := True) (pc' := 76) (lv' := [some (.ref 0), some (.int v1), some (.int v2)]) (st' := [.int (v2 + 3), .ref 18, .int r20, .int r16, .int r12, .ref 1]) (h' := mkS x S21) rfl trivial ?_
            cases h22 : gfX8_byteAt_18 x S21 (v2 + 3) with
            | none => rw [h22] at hm; cases hm
            | some q23 =>
              obtain ⟨r24, S25⟩ := q23
              rw [h22] at hm
              dsimp only at hm
              refine ev_callV (N := mX8_byteAt) (d' := 1) (bc := 0) (bs := 0) (bc' := 0) (bs' := 0) (as := [.int (v2 + 3)]) (rest := [.int r20, .int r16, .int r12, .ref 1]) (a := 18) (ci := 8) (dcd tokX10_row rfl) okX8_byteAt inX8_byteAt seX8_byteAt lk10_180 rfl (by decide) (Nat.le_of_ble_eq_true rfl) rfl ⟨by decide, rfl⟩ (gpX8_byteAt_18 x S21 (v2 + 3) _ _ h22) (fun v h' hq hn => ?_)
              obtain ⟨rfl, rfl⟩ := hq
              cases h26 : gfX7_addGate_1 x S25 r12 r16 r20 r24 with
              | none => rw [h26] at hm; cases hm
              | some q27 =>
                obtain ⟨r28, S29⟩ := q27
                rw [h26] at hm
                dsimp only at hm
                refine ev_callV (N := mX7_addGate) (d' := 2) (bc := 0) (bs := 0) (bc' := 0) (bs' := 0) (as := [.int r12, .int r16, .int r20, .int r24]) (rest := []) (a := 1) (ci := 7) (dcd tokX10_row rfl) okX7_addGate inX7_addGate seX7_addGate lk10_103 rfl (by decide) (Nat.le_of_ble_eq_true rfl) rfl ⟨by decide, rfl⟩ (gpX7_addGate_1 x S25 r12 r16 r20 r24 _ _ h26) (fun v h' hq hn => ?_)
                obtain ⟨rfl, rfl⟩ := hq
                refine Ev.steps tokX10_row 1 (P := True) (pc' := if 0 ≤ r28 then 98 else 85) (lv' := [some (.ref 0), some (.int v1), some (.int v2)]) (st' := []) (h' := mkS x S29) rfl trivial ?_
                refine Ev.ite (fun c30 => ?_) (fun c30 => ?_)
                · rw [if_pos c30] at hm
                  refine Ev.steps tokX10_row 1 (P := True) (pc' := 101) (lv' := [some (.ref 0), some (.int (v1 + 1)), some (.int v2)]) (st' := []) (h' := mkS x S29) rfl trivial ?_
                  exact bpX10_row_0_101 x k26 hk26 S29 (v1 + 1) v2 _ _ hm
                · rw [if_neg c30] at hm
                  refine Ev.steps tokX10_row 7 (P := True) (pc' := 101) (lv' := [some (.ref 0), some (.int v1), some (.int v2)]) (st' := []) (h' := mkS x ((u2 S29.1 0 15 ((S29.1 0 15) + 1)), S29.2.1, S29.2.2.1, S29.2.2.2)) rfl trivial ?_
                  exact bpX10_row_0_101 x k26 hk26 ((u2 S29.1 0 15 ((S29.1 0 15) + 1)), S29.2.1, S29.2.2.1, S29.2.2.2) v1 v2 _ _ hm
theorem lpX10_row_0_26 (x : XT)  : ∀ (n : Nat) (S : ST) (v1 : Int32) (v2 : Int32) (r : Int32) (S' : ST), lfX10_row_0_26 x  n S v1 v2 = some (r, S') → Ev mX10_row 3 0 0 26 [some (.ref 0), some (.int v1), some (.int v2)] [] (mkS x S) (fun v h => v = some (.int r) ∧ h = mkS x S')
  | 0, _, _, _, _, _, hm => by cases hm
  | n + 1, S, v1, v2, r, S', hm => bpX10_row_0_26 x (lfX10_row_0_26 x  n) (lpX10_row_0_26 x  n) S v1 v2 r S' hm
set_option maxHeartbeats 4000000 in
set_option maxRecDepth 20000 in
theorem bpX10_row_0_0 (x : XT)  (S : ST)  (r : Int32) (S' : ST) (hm : bfX10_row_0_0 x  S  = some (r, S')) : Ev mX10_row 3 0 0 0 [some (.ref 0), none, none] [] (mkS x S) (fun v h => v = some (.int r) ∧ h = mkS x S') := by
    unfold bfX10_row_0_0 at hm
    refine Ev.steps tokX10_row 4 (P := True) (pc' := if ¬ (S.1 18 1) = 0 then 17 else 10) (lv' := [some (.ref 0), none, none]) (st' := []) (h' := mkS x S) rfl trivial ?_
    refine Ev.ite (fun c1 => ?_) (fun c1 => ?_)
    · rw [if_pos c1] at hm
      refine Ev.steps tokX10_row 7 (P := True) (pc' := 26) (lv' := [some (.ref 0), some (.int 0), some (.int 0)]) (st' := []) (h' := mkS x ((u2 S.1 0 15 0), S.2.1, S.2.2.1, S.2.2.2)) rfl trivial ?_
      exact lpX10_row_0_26 x  20000 ((u2 S.1 0 15 0), S.2.1, S.2.2.1, S.2.2.2) 0 0 _ _ hm
    · rw [if_neg c1] at hm
      refine Ev.steps tokX10_row 2 (P := True) (pc' := 13) (lv' := [some (.ref 0), none, none]) (st' := [.int (-6), .ref 0]) (h' := mkS x S) rfl trivial ?_
      cases h2 : gfX10_told_0 x S (-6) with
      | none => rw [h2] at hm; cases hm
      | some q3 =>
        obtain ⟨r4, S5⟩ := q3
        rw [h2] at hm
        dsimp only at hm
        refine ev_callV (N := mX10_told) (d' := 1) (bc := 0) (bs := 0) (bc' := 0) (bs' := 0) (as := [.int (-6)]) (rest := []) (a := 0) (ci := 10) (dcd tokX10_row rfl) okX10_told inX10_told seX10_told lk10_178 rfl (by decide) (Nat.le_of_ble_eq_true rfl) rfl ⟨by decide, rfl⟩ (gpX10_told_0 x S (-6) _ _ h2) (fun v h' hq hn => ?_)
        obtain ⟨rfl, rfl⟩ := hq
        cases hm
        exact Ev.reti tokX10_row rfl rfl ⟨rfl, rfl⟩
theorem gpX10_row_0 (x : XT) (S : ST)  (r : Int32) (S' : ST) (hm : gfX10_row_0 x S  = some (r, S')) : Ct mX10_row 3 0 0 [.ref 0] (mkS x S) (fun v h => v = some (.int r) ∧ h = mkS x S') :=
  Ct.of (lv := [some (.ref 0), none, none]) rfl rfl rfl (show (_ : Nat) ≤ _ from Nat.le_of_ble_eq_true rfl) (fun G => rfl) (bpX10_row_0_0 x S  r S' hm)
set_option maxHeartbeats 4000000 in
set_option maxRecDepth 20000 in
theorem bpX10_rust_0_0 (x : XT)  (S : ST)  (r : Int32) (S' : ST) (hm : bfX10_rust_0_0 x  S  = some (r, S')) : Ev mX10_rust 1 0 0 0 [some (.ref 0)] [] (mkS x S) (fun v h => v = some (.int r) ∧ h = mkS x S') := by
    unfold bfX10_rust_0_0 at hm
    refine Ev.steps tokX10_rust 2 (P := True) (pc' := 4) (lv' := [some (.ref 0)]) (st' := [.int (S.1 0 15)]) (h' := mkS x S) rfl trivial ?_
    cases hm
    exact Ev.reti tokX10_rust rfl rfl ⟨rfl, rfl⟩
theorem gpX10_rust_0 (x : XT) (S : ST)  (r : Int32) (S' : ST) (hm : gfX10_rust_0 x S  = some (r, S')) : Ct mX10_rust 1 0 0 [.ref 0] (mkS x S) (fun v h => v = some (.int r) ∧ h = mkS x S') :=
  Ct.of (lv := [some (.ref 0)]) rfl rfl rfl (show (_ : Nat) ≤ _ from Nat.le_of_ble_eq_true rfl) (fun G => rfl) (bpX10_rust_0_0 x S  r S' hm)
set_option maxHeartbeats 4000000 in
set_option maxRecDepth 20000 in
theorem bpX4_here_24_26 (x : XT)  (S : ST) (t0 : Int32) (r : Int32) (S' : ST) (hm : bfX4_here_24_26 x  S t0 = some (r, S')) : Ev mX4_here 1 0 0 26 [none] [.int t0] (mkS x S) (fun v h => v = some (.int r) ∧ h = mkS x S') := by
    unfold bfX4_here_24_26 at hm
    cases hm
    exact Ev.reti tokX4_here rfl rfl ⟨rfl, rfl⟩
set_option maxHeartbeats 4000000 in
set_option maxRecDepth 20000 in
theorem bpX4_here_24_0 (x : XT)  (S : ST)  (r : Int32) (S' : ST) (hm : bfX4_here_24_0 x  S  = some (r, S')) : Ev mX4_here 1 0 0 0 [some (.ref 24)] [] (mkS x S) (fun v h => v = some (.int r) ∧ h = mkS x S') := by
    unfold bfX4_here_24_0 at hm
    refine Ev.steps tokX4_here 5 (P := True) (pc' := if (S.1 24 5) ≤ (S.1 24 6) then 23 else 11) (lv' := [some (.ref 24)]) (st' := []) (h' := mkS x S) rfl trivial ?_
    refine Ev.ite (fun c1 => ?_) (fun c1 => ?_)
    · rw [if_pos c1] at hm
      refine Ev.steps tokX4_here 1 (P := True) (pc' := 26) (lv' := [some (.ref 24)]) (st' := [.int 257]) (h' := mkS x S) rfl trivial ?_
      refine Ev.fgt (lv' := [none]) trivial ?_
      exact bpX4_here_24_26 x S 257 _ _ hm
    · rw [if_neg c1] at hm
      obtain ⟨o2, hm⟩ := oblk hm
      refine Ev.steps tokX4_here 6 (P := vp_in (S.1 24 6) 401 ∧ True) (pc' := 26) (lv' := [some (.ref 24)]) (st' := [.int (S.2.1 30 ((S.1 24 6).toNatClampNeg))]) (h' := mkS x S) rfl ⟨inb_ok o2, trivial⟩ ?_
      refine Ev.fgt (lv' := [none]) trivial ?_
      exact bpX4_here_24_26 x S (S.2.1 30 ((S.1 24 6).toNatClampNeg)) _ _ hm
theorem gpX4_here_24 (x : XT) (S : ST)  (r : Int32) (S' : ST) (hm : gfX4_here_24 x S  = some (r, S')) : Ct mX4_here 1 0 0 [.ref 24] (mkS x S) (fun v h => v = some (.int r) ∧ h = mkS x S') :=
  Ct.of (lv := [some (.ref 24)]) rfl rfl rfl (show (_ : Nat) ≤ _ from Nat.le_of_ble_eq_true rfl) (fun G => rfl) (bpX4_here_24_0 x S  r S' hm)
set_option maxHeartbeats 4000000 in
set_option maxRecDepth 20000 in
theorem bpX4_faulty_24_25 (x : XT)  (S : ST) (t1 : Int32) (r : Int32) (S' : ST) (hm : bfX4_faulty_24_25 x  S t1 = some (r, S')) : Ev mX4_faulty 1 0 0 25 [none] [.int t1, .ref 24] (mkS x S) (fun v h => v = some (.int r) ∧ h = mkS x S') := by
    unfold bfX4_faulty_24_25 at hm
    refine Ev.steps tokX4_faulty 2 (P := True) (pc' := 29) (lv' := [none]) (st' := [.int 0]) (h' := mkS x ((u2 S.1 24 1 t1), S.2.1, S.2.2.1, S.2.2.2)) rfl trivial ?_
    cases hm
    exact Ev.retz tokX4_faulty rfl rfl (Or.inl rfl) ⟨rfl, rfl⟩
set_option maxHeartbeats 4000000 in
set_option maxRecDepth 20000 in
theorem bpX4_faulty_24_0 (x : XT)  (S : ST)  (r : Int32) (S' : ST) (hm : bfX4_faulty_24_0 x  S  = some (r, S')) : Ev mX4_faulty 1 0 0 0 [some (.ref 24)] [] (mkS x S) (fun v h => v = some (.int r) ∧ h = mkS x S') := by
    unfold bfX4_faulty_24_0 at hm
    refine Ev.steps tokX4_faulty 6 (P := True) (pc' := if (S.1 24 5) ≤ (S.1 24 6) then 24 else 12) (lv' := [some (.ref 24)]) (st' := [.ref 24]) (h' := mkS x S) rfl trivial ?_
    refine Ev.ite (fun c1 => ?_) (fun c1 => ?_)
    · rw [if_pos c1] at hm
      refine Ev.steps tokX4_faulty 1 (P := True) (pc' := 25) (lv' := [some (.ref 24)]) (st' := [.int (-1), .ref 24]) (h' := mkS x S) rfl trivial ?_
      refine Ev.fgt (lv' := [none]) trivial ?_
      exact bpX4_faulty_24_25 x S (-1) _ _ hm
    · rw [if_neg c1] at hm
      obtain ⟨o2, hm⟩ := oblk hm
      refine Ev.steps tokX4_faulty 6 (P := vp_in (S.1 24 6) 401 ∧ True) (pc' := 25) (lv' := [some (.ref 24)]) (st' := [.int (S.2.1 32 ((S.1 24 6).toNatClampNeg)), .ref 24]) (h' := mkS x S) rfl ⟨inb_ok o2, trivial⟩ ?_
      refine Ev.fgt (lv' := [none]) trivial ?_
      exact bpX4_faulty_24_25 x S (S.2.1 32 ((S.1 24 6).toNatClampNeg)) _ _ hm
theorem gpX4_faulty_24 (x : XT) (S : ST)  (r : Int32) (S' : ST) (hm : gfX4_faulty_24 x S  = some (r, S')) : Ct mX4_faulty 1 0 0 [.ref 24] (mkS x S) (fun v h => v = some (.int r) ∧ h = mkS x S') :=
  Ct.of (lv := [some (.ref 24)]) rfl rfl rfl (show (_ : Nat) ≤ _ from Nat.le_of_ble_eq_true rfl) (fun G => rfl) (bpX4_faulty_24_0 x S  r S' hm)
set_option maxHeartbeats 4000000 in
set_option maxRecDepth 20000 in
theorem bpX9_aim_25_37 (x : XT)  (S : ST)  (r : Unit) (S' : ST) (hm : bfX9_aim_25_37 x  S  = some (r, S')) : Ev mX9_aim 1 0 0 37 [none, none] [] (mkS x S) (fun v h => v = none ∧ h = mkS x S') := by
    unfold bfX9_aim_25_37 at hm
    cases hm
    exact Ev.retv tokX9_aim rfl rfl ⟨rfl, rfl⟩
set_option maxHeartbeats 4000000 in
set_option maxRecDepth 20000 in
theorem bpX9_aim_25_0 (x : XT)  (S : ST) (p1 : Int32) (r : Unit) (S' : ST) (hm : bfX9_aim_25_0 x  S p1 = some (r, S')) : Ev mX9_aim 1 0 0 0 [some (.ref 25), some (.int p1)] [] (mkS x S) (fun v h => v = none ∧ h = mkS x S') := by
    unfold bfX9_aim_25_0 at hm
    refine Ev.steps tokX9_aim 2 (P := True) (pc' := if p1 < 0 then 37 else 4) (lv' := [some (.ref 25), some (.int p1)]) (st' := []) (h' := mkS x S) rfl trivial ?_
    refine Ev.ite (fun c1 => ?_) (fun c1 => ?_)
    · rw [if_pos c1] at hm
      refine Ev.fgt (lv' := [none, none]) trivial ?_
      exact bpX9_aim_25_37 x S _ _ hm
    · rw [if_neg c1] at hm
      refine Ev.steps tokX9_aim 4 (P := True) (pc' := if (S.1 25 1) ≤ p1 then 37 else 12) (lv' := [some (.ref 25), some (.int p1)]) (st' := []) (h' := mkS x S) rfl trivial ?_
      refine Ev.ite (fun c2 => ?_) (fun c2 => ?_)
      · rw [if_pos c2] at hm
        refine Ev.fgt (lv' := [none, none]) trivial ?_
        exact bpX9_aim_25_37 x S _ _ hm
      · rw [if_neg c2] at hm
        obtain ⟨o3, hm⟩ := oblk hm
        obtain ⟨o4, hm⟩ := oblk hm
        refine Ev.steps tokX9_aim 15 (P := vp_in p1 400 ∧ ¬ 512 = 0 ∧ vp_in p1 400 ∧ True) (pc' := 37) (lv' := [some (.ref 25), some (.int p1)]) (st' := []) (h' := mkS x (S.1, (u2 S.2.1 29 p1.toNatClampNeg (((S.2.1 29 p1.toNatClampNeg) - (S.2.1 29 p1.toNatClampNeg) / 512 * 512) + (512 * (S.1 25 1)))), S.2.2.1, S.2.2.2)) rfl ⟨inb_ok o3, (by decide), inb_ok o4, trivial⟩ ?_
        refine Ev.fgt (lv' := [none, none]) trivial ?_
        exact bpX9_aim_25_37 x (S.1, (u2 S.2.1 29 p1.toNatClampNeg (((S.2.1 29 p1.toNatClampNeg) - (S.2.1 29 p1.toNatClampNeg) / 512 * 512) + (512 * (S.1 25 1)))), S.2.2.1, S.2.2.2) _ _ hm
theorem gpX9_aim_25 (x : XT) (S : ST) (p1 : Int32) (r : Unit) (S' : ST) (hm : gfX9_aim_25 x S p1 = some (r, S')) : Ct mX9_aim 1 0 0 [.ref 25, .int p1] (mkS x S) (fun v h => v = none ∧ h = mkS x S') :=
  Ct.of (lv := [some (.ref 25), some (.int p1)]) rfl rfl rfl (show (_ : Nat) ≤ _ from Nat.le_of_ble_eq_true rfl) (fun G => rfl) (bpX9_aim_25_0 x S p1 r S' hm)
set_option maxHeartbeats 4000000 in
set_option maxRecDepth 20000 in
theorem bpX9_add_25_0 (x : XT)  (S : ST) (p1 : Int32) (p2 : Int32) (r : Int32) (S' : ST) (hm : bfX9_add_25_0 x  S p1 p2 = some (r, S')) : Ev mX9_add 1 0 0 0 [some (.ref 25), some (.int p1), some (.int p2)] [] (mkS x S) (fun v h => v = some (.int r) ∧ h = mkS x S') := by
    unfold bfX9_add_25_0 at hm
    refine Ev.steps tokX9_add 6 (P := True) (pc' := if (S.1 25 1) < 400 then 14 else 12) (lv' := [some (.ref 25), some (.int p1), some (.int p2)]) (st' := []) (h' := mkS x S) rfl trivial ?_
    refine Ev.ite (fun c1 => ?_) (fun c1 => ?_)
    · rw [if_pos c1] at hm
      obtain ⟨o2, hm⟩ := oblk hm
      refine Ev.steps tokX9_add 17 (P := vp_in (S.1 25 1) 400 ∧ True) (pc' := 41) (lv' := [some (.ref 25), some (.int p1), some (.int p2)]) (st' := [.int (S.1 25 1)]) (h' := mkS x ((u2 S.1 25 1 ((S.1 25 1) + 1)), (u2 S.2.1 29 ((S.1 25 1).toNatClampNeg) (p1 + (512 * p2))), S.2.2.1, S.2.2.2)) rfl ⟨inb_ok o2, trivial⟩ ?_
      cases hm
      exact Ev.reti tokX9_add rfl rfl ⟨rfl, rfl⟩
    · rw [if_neg c1] at hm
      refine Ev.steps tokX9_add 1 (P := True) (pc' := 13) (lv' := [some (.ref 25), some (.int p1), some (.int p2)]) (st' := [.int (-1)]) (h' := mkS x S) rfl trivial ?_
      cases hm
      exact Ev.reti tokX9_add rfl rfl ⟨rfl, rfl⟩
theorem gpX9_add_25 (x : XT) (S : ST) (p1 : Int32) (p2 : Int32) (r : Int32) (S' : ST) (hm : gfX9_add_25 x S p1 p2 = some (r, S')) : Ct mX9_add 1 0 0 [.ref 25, .int p1, .int p2] (mkS x S) (fun v h => v = some (.int r) ∧ h = mkS x S') :=
  Ct.of (lv := [some (.ref 25), some (.int p1), some (.int p2)]) rfl rfl rfl (show (_ : Nat) ≤ _ from Nat.le_of_ble_eq_true rfl) (fun G => rfl) (bpX9_add_25_0 x S p1 p2 r S' hm)
set_option maxHeartbeats 4000000 in
set_option maxRecDepth 20000 in
theorem bpX4_take_24_0 (x : XT)  (S : ST) (p1 : Int32) (r : Int32) (S' : ST) (hm : bfX4_take_24_0 x  S p1 = some (r, S')) : Ev mX4_take 2 0 0 0 [some (.ref 24), some (.int p1)] [] (mkS x S) (fun v h => v = some (.int r) ∧ h = mkS x S') := by
    unfold bfX4_take_24_0 at hm
    refine Ev.steps tokX4_take 1 (P := True) (pc' := 1) (lv' := [some (.ref 24), some (.int p1)]) (st' := [.ref 24]) (h' := mkS x S) rfl trivial ?_
    cases h1 : gfX4_here_24 x S with
    | none => rw [h1] at hm; cases hm
    | some q2 =>
      obtain ⟨r3, S4⟩ := q2
      rw [h1] at hm
      dsimp only at hm
      refine ev_callV (N := mX4_here) (d' := 1) (bc := 0) (bs := 0) (bc' := 0) (bs' := 0) (as := []) (rest := []) (a := 24) (ci := 4) (dcd tokX4_take rfl) okX4_here inX4_here seX4_here lk4_58 rfl (by decide) (Nat.le_of_ble_eq_true rfl) rfl ⟨by decide, rfl⟩ (gpX4_here_24 x S _ _ h1) (fun v h' hq hn => ?_)
      obtain ⟨rfl, rfl⟩ := hq
      refine Ev.steps tokX4_take 2 (P := True) (pc' := if r3 = p1 then 13 else 8) (lv' := [some (.ref 24), some (.int p1)]) (st' := []) (h' := mkS x S4) rfl trivial ?_
      refine Ev.ite (fun c5 => ?_) (fun c5 => ?_)
      · rw [if_pos c5] at hm
        refine Ev.steps tokX4_take 7 (P := True) (pc' := 24) (lv' := [some (.ref 24), some (.int p1)]) (st' := [.int 1]) (h' := mkS x ((u2 S4.1 24 6 ((S4.1 24 6) + 1)), S4.2.1, S4.2.2.1, S4.2.2.2)) rfl trivial ?_
        cases hm
        exact Ev.retz tokX4_take rfl rfl (Or.inr rfl) ⟨rfl, rfl⟩
      · rw [if_neg c5] at hm
        refine Ev.steps tokX4_take 1 (P := True) (pc' := 9) (lv' := [some (.ref 24), some (.int p1)]) (st' := [.ref 24]) (h' := mkS x S4) rfl trivial ?_
        cases h6 : gfX4_faulty_24 x S4 with
        | none => rw [h6] at hm; cases hm
        | some q7 =>
          obtain ⟨r8, S9⟩ := q7
          rw [h6] at hm
          dsimp only at hm
          refine ev_callV (N := mX4_faulty) (d' := 1) (bc := 0) (bs := 0) (bc' := 0) (bs' := 0) (as := []) (rest := []) (a := 24) (ci := 4) (dcd tokX4_take rfl) okX4_faulty inX4_faulty seX4_faulty lk4_62 rfl (by decide) (Nat.le_of_ble_eq_true rfl) rfl ⟨by decide, rfl⟩ (gpX4_faulty_24 x S4 _ _ h6) (fun v h' hq hn => ?_)
          obtain ⟨rfl, rfl⟩ := hq
          obtain ⟨o10, hm⟩ := oblk hm
          cases hm
          exact Ev.retz tokX4_take rfl rfl (bbz_ok o10) ⟨rfl, rfl⟩
theorem gpX4_take_24 (x : XT) (S : ST) (p1 : Int32) (r : Int32) (S' : ST) (hm : gfX4_take_24 x S p1 = some (r, S')) : Ct mX4_take 2 0 0 [.ref 24, .int p1] (mkS x S) (fun v h => v = some (.int r) ∧ h = mkS x S') :=
  Ct.of (lv := [some (.ref 24), some (.int p1)]) rfl rfl rfl (show (_ : Nat) ≤ _ from Nat.le_of_ble_eq_true rfl) (fun G => rfl) (bpX4_take_24_0 x S p1 r S' hm)
set_option maxHeartbeats 4000000 in
set_option maxRecDepth 20000 in
theorem bpX4_lawWord_24_28 (x : XT)  (S : ST) (t0 : Int32) (r : Int32) (S' : ST) (hm : bfX4_lawWord_24_28 x  S t0 = some (r, S')) : Ev mX4_lawWord 2 0 0 28 [none, none] [.int t0] (mkS x S) (fun v h => v = some (.int r) ∧ h = mkS x S') := by
    unfold bfX4_lawWord_24_28 at hm
    cases hm
    exact Ev.reti tokX4_lawWord rfl rfl ⟨rfl, rfl⟩
set_option maxHeartbeats 4000000 in
set_option maxRecDepth 20000 in
theorem bpX4_lawWord_24_27 (x : XT)  (S : ST)  (r : Int32) (S' : ST) (hm : bfX4_lawWord_24_27 x  S  = some (r, S')) : Ev mX4_lawWord 2 0 0 27 [none, none] [] (mkS x S) (fun v h => v = some (.int r) ∧ h = mkS x S') := by
    unfold bfX4_lawWord_24_27 at hm
    refine Ev.steps tokX4_lawWord 1 (P := True) (pc' := 28) (lv' := [none, none]) (st' := [.int (-1)]) (h' := mkS x S) rfl trivial ?_
    exact bpX4_lawWord_24_28 x S (-1) _ _ hm
set_option maxHeartbeats 4000000 in
set_option maxRecDepth 20000 in
theorem bpX4_lawWord_24_0 (x : XT)  (S : ST)  (r : Int32) (S' : ST) (hm : bfX4_lawWord_24_0 x  S  = some (r, S')) : Ev mX4_lawWord 2 0 0 0 [some (.ref 24), none] [] (mkS x S) (fun v h => v = some (.int r) ∧ h = mkS x S') := by
    unfold bfX4_lawWord_24_0 at hm
    refine Ev.steps tokX4_lawWord 1 (P := True) (pc' := 1) (lv' := [some (.ref 24), none]) (st' := [.ref 24]) (h' := mkS x S) rfl trivial ?_
    cases h1 : gfX4_here_24 x S with
    | none => rw [h1] at hm; cases hm
    | some q2 =>
      obtain ⟨r3, S4⟩ := q2
      rw [h1] at hm
      dsimp only at hm
      refine ev_callV (N := mX4_here) (d' := 1) (bc := 0) (bs := 0) (bc' := 0) (bs' := 0) (as := []) (rest := []) (a := 24) (ci := 4) (dcd tokX4_lawWord rfl) okX4_here inX4_here seX4_here lk4_58 rfl (by decide) (Nat.le_of_ble_eq_true rfl) rfl ⟨by decide, rfl⟩ (gpX4_here_24 x S _ _ h1) (fun v h' hq hn => ?_)
      obtain ⟨rfl, rfl⟩ := hq
      refine Ev.steps tokX4_lawWord 4 (P := True) (pc' := if r3 < 274 then 27 else 12) (lv' := [some (.ref 24), some (.int r3)]) (st' := []) (h' := mkS x S4) rfl trivial ?_
      refine Ev.ite (fun c5 => ?_) (fun c5 => ?_)
      · rw [if_pos c5] at hm
        refine Ev.fgt (lv' := [none, none]) trivial ?_
        exact bpX4_lawWord_24_27 x S4 _ _ hm
      · rw [if_neg c5] at hm
        refine Ev.steps tokX4_lawWord 3 (P := True) (pc' := if 281 < r3 then 27 else 19) (lv' := [some (.ref 24), some (.int r3)]) (st' := []) (h' := mkS x S4) rfl trivial ?_
        refine Ev.ite (fun c6 => ?_) (fun c6 => ?_)
        · rw [if_pos c6] at hm
          refine Ev.fgt (lv' := [none, none]) trivial ?_
          exact bpX4_lawWord_24_27 x S4 _ _ hm
        · rw [if_neg c6] at hm
          refine Ev.steps tokX4_lawWord 4 (P := True) (pc' := 28) (lv' := [some (.ref 24), some (.int r3)]) (st' := [.int (r3 - 274)]) (h' := mkS x S4) rfl trivial ?_
          refine Ev.fgt (lv' := [none, none]) trivial ?_
          exact bpX4_lawWord_24_28 x S4 (r3 - 274) _ _ hm
theorem gpX4_lawWord_24 (x : XT) (S : ST)  (r : Int32) (S' : ST) (hm : gfX4_lawWord_24 x S  = some (r, S')) : Ct mX4_lawWord 2 0 0 [.ref 24] (mkS x S) (fun v h => v = some (.int r) ∧ h = mkS x S') :=
  Ct.of (lv := [some (.ref 24), none]) rfl rfl rfl (show (_ : Nat) ≤ _ from Nat.le_of_ble_eq_true rfl) (fun G => rfl) (bpX4_lawWord_24_0 x S  r S' hm)
set_option maxHeartbeats 4000000 in
set_option maxRecDepth 20000 in
theorem bpX4_numberedWord_24_48 (x : XT)  (S : ST) (t0 : Int32) (r : Int32) (S' : ST) (hm : bfX4_numberedWord_24_48 x  S t0 = some (r, S')) : Ev mX4_numberedWord 2 0 0 48 [none, none, none] [.int t0] (mkS x S) (fun v h => v = some (.int r) ∧ h = mkS x S') := by
    unfold bfX4_numberedWord_24_48 at hm
    cases hm
    exact Ev.reti tokX4_numberedWord rfl rfl ⟨rfl, rfl⟩
set_option maxHeartbeats 4000000 in
set_option maxRecDepth 20000 in
theorem bpX4_numberedWord_24_47 (x : XT)  (S : ST)  (r : Int32) (S' : ST) (hm : bfX4_numberedWord_24_47 x  S  = some (r, S')) : Ev mX4_numberedWord 2 0 0 47 [none, none, none] [] (mkS x S) (fun v h => v = some (.int r) ∧ h = mkS x S') := by
    unfold bfX4_numberedWord_24_47 at hm
    refine Ev.steps tokX4_numberedWord 1 (P := True) (pc' := 48) (lv' := [none, none, none]) (st' := [.int (-1)]) (h' := mkS x S) rfl trivial ?_
    exact bpX4_numberedWord_24_48 x S (-1) _ _ hm
set_option maxHeartbeats 4000000 in
set_option maxRecDepth 20000 in
theorem bpX4_numberedWord_24_0 (x : XT)  (S : ST) (p1 : Int32) (p2 : Int32) (r : Int32) (S' : ST) (hm : bfX4_numberedWord_24_0 x  S p1 p2 = some (r, S')) : Ev mX4_numberedWord 2 0 0 0 [some (.ref 24), some (.int p1), some (.int p2)] [] (mkS x S) (fun v h => v = some (.int r) ∧ h = mkS x S') := by
    unfold bfX4_numberedWord_24_0 at hm
    refine Ev.steps tokX4_numberedWord 7 (P := True) (pc' := 11) (lv' := [some (.ref 24), some (.int p1), some (.int p2)]) (st' := [.ref 24]) (h' := mkS x ((u2 S.1 24 6 ((S.1 24 6) + 1)), S.2.1, S.2.2.1, S.2.2.2)) rfl trivial ?_
    cases h1 : gfX4_here_24 x ((u2 S.1 24 6 ((S.1 24 6) + 1)), S.2.1, S.2.2.1, S.2.2.2) with
    | none => rw [h1] at hm; cases hm
    | some q2 =>
      obtain ⟨r3, S4⟩ := q2
      rw [h1] at hm
      dsimp only at hm
      refine ev_callV (N := mX4_here) (d' := 1) (bc := 0) (bs := 0) (bc' := 0) (bs' := 0) (as := []) (rest := []) (a := 24) (ci := 4) (dcd tokX4_numberedWord rfl) okX4_here inX4_here seX4_here lk4_58 rfl (by decide) (Nat.le_of_ble_eq_true rfl) rfl ⟨by decide, rfl⟩ (gpX4_here_24 x ((u2 S.1 24 6 ((S.1 24 6) + 1)), S.2.1, S.2.2.1, S.2.2.2) _ _ h1) (fun v h' hq hn => ?_)
      obtain ⟨rfl, rfl⟩ := hq
      refine Ev.steps tokX4_numberedWord 2 (P := True) (pc' := if ¬ r3 = 256 then 47 else 20) (lv' := [some (.ref 24), some (.int p1), some (.int p2)]) (st' := []) (h' := mkS x S4) rfl trivial ?_
      refine Ev.ite (fun c5 => ?_) (fun c5 => ?_)
      · rw [if_pos c5] at hm
        refine Ev.fgt (lv' := [none, none, none]) trivial ?_
        exact bpX4_numberedWord_24_47 x S4 _ _ hm
      · rw [if_neg c5] at hm
        obtain ⟨o6, hm⟩ := oblk hm
        refine Ev.steps tokX4_numberedWord 7 (P := vp_in (S4.1 24 6) 401 ∧ True) (pc' := if p2 ≤ (S4.2.1 31 ((S4.1 24 6).toNatClampNeg)) then 47 else 33) (lv' := [some (.ref 24), some (.int p1), some (.int p2)]) (st' := []) (h' := mkS x S4) rfl ⟨inb_ok o6, trivial⟩ ?_
        refine Ev.ite (fun c7 => ?_) (fun c7 => ?_)
        · rw [if_pos c7] at hm
          refine Ev.fgt (lv' := [none, none, none]) trivial ?_
          exact bpX4_numberedWord_24_47 x S4 _ _ hm
        · rw [if_neg c7] at hm
          obtain ⟨o8, hm⟩ := oblk hm
          refine Ev.steps tokX4_numberedWord 8 (P := vp_in (S4.1 24 6) 401 ∧ True) (pc' := 48) (lv' := [some (.ref 24), some (.int p1), some (.int p2)]) (st' := [.int (p1 + (S4.2.1 31 ((S4.1 24 6).toNatClampNeg)))]) (h' := mkS x S4) rfl ⟨inb_ok o8, trivial⟩ ?_
          refine Ev.fgt (lv' := [none, none, none]) trivial ?_
          exact bpX4_numberedWord_24_48 x S4 (p1 + (S4.2.1 31 ((S4.1 24 6).toNatClampNeg))) _ _ hm
theorem gpX4_numberedWord_24 (x : XT) (S : ST) (p1 : Int32) (p2 : Int32) (r : Int32) (S' : ST) (hm : gfX4_numberedWord_24 x S p1 p2 = some (r, S')) : Ct mX4_numberedWord 2 0 0 [.ref 24, .int p1, .int p2] (mkS x S) (fun v h => v = some (.int r) ∧ h = mkS x S') :=
  Ct.of (lv := [some (.ref 24), some (.int p1), some (.int p2)]) rfl rfl rfl (show (_ : Nat) ≤ _ from Nat.le_of_ble_eq_true rfl) (fun G => rfl) (bpX4_numberedWord_24_0 x S p1 p2 r S' hm)
set_option maxHeartbeats 4000000 in
set_option maxRecDepth 20000 in
theorem bpX4_orderWord_24_0 (x : XT)  (S : ST)  (r : Int32) (S' : ST) (hm : bfX4_orderWord_24_0 x  S  = some (r, S')) : Ev mX4_orderWord 3 0 0 0 [some (.ref 24)] [] (mkS x S) (fun v h => v = some (.int r) ∧ h = mkS x S') := by
    unfold bfX4_orderWord_24_0 at hm
    refine Ev.steps tokX4_orderWord 1 (P := True) (pc' := 1) (lv' := [some (.ref 24)]) (st' := [.ref 24]) (h' := mkS x S) rfl trivial ?_
    cases h1 : gfX4_here_24 x S with
    | none => rw [h1] at hm; cases hm
    | some q2 =>
      obtain ⟨r3, S4⟩ := q2
      rw [h1] at hm
      dsimp only at hm
      refine ev_callV (N := mX4_here) (d' := 1) (bc := 0) (bs := 0) (bc' := 0) (bs' := 0) (as := []) (rest := []) (a := 24) (ci := 4) (dcd tokX4_orderWord rfl) okX4_here inX4_here seX4_here lk4_58 rfl (by decide) (Nat.le_of_ble_eq_true rfl) rfl ⟨by decide, rfl⟩ (gpX4_here_24 x S _ _ h1) (fun v h' hq hn => ?_)
      obtain ⟨rfl, rfl⟩ := hq
      by_cases c5 : r3 = 275
      · rw [if_pos c5] at hm
        refine ev_tIn (off := 83) (t := 87) (dcd tokX4_orderWord rfl) (by rw [c5]; decide) (by rw [c5]; decide) (by rw [c5]; rfl) rfl ?_
        refine Ev.steps tokX4_orderWord 3 (P := True) (pc' := 92) (lv' := [some (.ref 24)]) (st' := [.int 10, .int 14, .ref 24]) (h' := mkS x S4) rfl trivial ?_
        cases h6 : gfX4_numberedWord_24 x S4 14 10 with
        | none => rw [h6] at hm; cases hm
        | some q7 =>
          obtain ⟨r8, S9⟩ := q7
          rw [h6] at hm
          dsimp only at hm
          refine ev_callV (N := mX4_numberedWord) (d' := 2) (bc := 0) (bs := 0) (bc' := 0) (bs' := 0) (as := [.int 14, .int 10]) (rest := []) (a := 24) (ci := 4) (dcd tokX4_orderWord rfl) okX4_numberedWord inX4_numberedWord seX4_numberedWord lk4_161 rfl (by decide) (Nat.le_of_ble_eq_true rfl) rfl ⟨by decide, rfl⟩ (gpX4_numberedWord_24 x S4 14 10 _ _ h6) (fun v h' hq hn => ?_)
          obtain ⟨rfl, rfl⟩ := hq
          cases hm
          exact Ev.reti tokX4_orderWord rfl rfl ⟨rfl, rfl⟩
      rw [if_neg c5] at hm
      by_cases c10 : r3 = 276
      · rw [if_pos c10] at hm
        refine ev_tIn (off := 68) (t := 72) (dcd tokX4_orderWord rfl) (by rw [c10]; decide) (by rw [c10]; decide) (by rw [c10]; rfl) rfl ?_
        refine Ev.steps tokX4_orderWord 3 (P := True) (pc' := 75) (lv' := [some (.ref 24)]) (st' := [.int 5, .int 4, .ref 24]) (h' := mkS x S4) rfl trivial ?_
        cases h11 : gfX4_numberedWord_24 x S4 4 5 with
        | none => rw [h11] at hm; cases hm
        | some q12 =>
          obtain ⟨r13, S14⟩ := q12
          rw [h11] at hm
          dsimp only at hm
          refine ev_callV (N := mX4_numberedWord) (d' := 2) (bc := 0) (bs := 0) (bc' := 0) (bs' := 0) (as := [.int 4, .int 5]) (rest := []) (a := 24) (ci := 4) (dcd tokX4_orderWord rfl) okX4_numberedWord inX4_numberedWord seX4_numberedWord lk4_161 rfl (by decide) (Nat.le_of_ble_eq_true rfl) rfl ⟨by decide, rfl⟩ (gpX4_numberedWord_24 x S4 4 5 _ _ h11) (fun v h' hq hn => ?_)
          obtain ⟨rfl, rfl⟩ := hq
          cases hm
          exact Ev.reti tokX4_orderWord rfl rfl ⟨rfl, rfl⟩
      rw [if_neg c10] at hm
      by_cases c15 : r3 = 277
      · rw [if_pos c15] at hm
        refine ev_tIn (off := 92) (t := 96) (dcd tokX4_orderWord rfl) (by rw [c15]; decide) (by rw [c15]; decide) (by rw [c15]; rfl) rfl ?_
        refine Ev.steps tokX4_orderWord 1 (P := True) (pc' := 97) (lv' := [some (.ref 24)]) (st' := [.int (-1)]) (h' := mkS x S4) rfl trivial ?_
        cases hm
        exact Ev.reti tokX4_orderWord rfl rfl ⟨rfl, rfl⟩
      rw [if_neg c15] at hm
      by_cases c16 : r3 = 278
      · rw [if_pos c16] at hm
        refine ev_tIn (off := 92) (t := 96) (dcd tokX4_orderWord rfl) (by rw [c16]; decide) (by rw [c16]; decide) (by rw [c16]; rfl) rfl ?_
        refine Ev.steps tokX4_orderWord 1 (P := True) (pc' := 97) (lv' := [some (.ref 24)]) (st' := [.int (-1)]) (h' := mkS x S4) rfl trivial ?_
        cases hm
        exact Ev.reti tokX4_orderWord rfl rfl ⟨rfl, rfl⟩
      rw [if_neg c16] at hm
      by_cases c17 : r3 = 279
      · rw [if_pos c17] at hm
        refine ev_tIn (off := 92) (t := 96) (dcd tokX4_orderWord rfl) (by rw [c17]; decide) (by rw [c17]; decide) (by rw [c17]; rfl) rfl ?_
        refine Ev.steps tokX4_orderWord 1 (P := True) (pc' := 97) (lv' := [some (.ref 24)]) (st' := [.int (-1)]) (h' := mkS x S4) rfl trivial ?_
        cases hm
        exact Ev.reti tokX4_orderWord rfl rfl ⟨rfl, rfl⟩
      rw [if_neg c17] at hm
      by_cases c18 : r3 = 280
      · rw [if_pos c18] at hm
        refine ev_tIn (off := 60) (t := 64) (dcd tokX4_orderWord rfl) (by rw [c18]; decide) (by rw [c18]; decide) (by rw [c18]; rfl) rfl ?_
        refine Ev.steps tokX4_orderWord 1 (P := True) (pc' := 65) (lv' := [some (.ref 24)]) (st' := [.int 0]) (h' := mkS x S4) rfl trivial ?_
        cases hm
        exact Ev.reti tokX4_orderWord rfl rfl ⟨rfl, rfl⟩
      rw [if_neg c18] at hm
      by_cases c19 : r3 = 281
      · rw [if_pos c19] at hm
        refine ev_tIn (off := 92) (t := 96) (dcd tokX4_orderWord rfl) (by rw [c19]; decide) (by rw [c19]; decide) (by rw [c19]; rfl) rfl ?_
        refine Ev.steps tokX4_orderWord 1 (P := True) (pc' := 97) (lv' := [some (.ref 24)]) (st' := [.int (-1)]) (h' := mkS x S4) rfl trivial ?_
        cases hm
        exact Ev.reti tokX4_orderWord rfl rfl ⟨rfl, rfl⟩
      rw [if_neg c19] at hm
      by_cases c20 : r3 = 282
      · rw [if_pos c20] at hm
        refine ev_tIn (off := 62) (t := 66) (dcd tokX4_orderWord rfl) (by rw [c20]; decide) (by rw [c20]; decide) (by rw [c20]; rfl) rfl ?_
        refine Ev.steps tokX4_orderWord 1 (P := True) (pc' := 67) (lv' := [some (.ref 24)]) (st' := [.int 1]) (h' := mkS x S4) rfl trivial ?_
        cases hm
        exact Ev.reti tokX4_orderWord rfl rfl ⟨rfl, rfl⟩
      rw [if_neg c20] at hm
      by_cases c21 : r3 = 283
      · rw [if_pos c21] at hm
        refine ev_tIn (off := 64) (t := 68) (dcd tokX4_orderWord rfl) (by rw [c21]; decide) (by rw [c21]; decide) (by rw [c21]; rfl) rfl ?_
        refine Ev.steps tokX4_orderWord 1 (P := True) (pc' := 69) (lv' := [some (.ref 24)]) (st' := [.int 2]) (h' := mkS x S4) rfl trivial ?_
        cases hm
        exact Ev.reti tokX4_orderWord rfl rfl ⟨rfl, rfl⟩
      rw [if_neg c21] at hm
      by_cases c22 : r3 = 284
      · rw [if_pos c22] at hm
        refine ev_tIn (off := 66) (t := 70) (dcd tokX4_orderWord rfl) (by rw [c22]; decide) (by rw [c22]; decide) (by rw [c22]; rfl) rfl ?_
        refine Ev.steps tokX4_orderWord 1 (P := True) (pc' := 71) (lv' := [some (.ref 24)]) (st' := [.int 3]) (h' := mkS x S4) rfl trivial ?_
        cases hm
        exact Ev.reti tokX4_orderWord rfl rfl ⟨rfl, rfl⟩
      rw [if_neg c22] at hm
      by_cases c23 : r3 = 285
      · rw [if_pos c23] at hm
        refine ev_tIn (off := 75) (t := 79) (dcd tokX4_orderWord rfl) (by rw [c23]; decide) (by rw [c23]; decide) (by rw [c23]; rfl) rfl ?_
        refine Ev.steps tokX4_orderWord 3 (P := True) (pc' := 83) (lv' := [some (.ref 24)]) (st' := [.int 5, .int 9, .ref 24]) (h' := mkS x S4) rfl trivial ?_
        cases h24 : gfX4_numberedWord_24 x S4 9 5 with
        | none => rw [h24] at hm; cases hm
        | some q25 =>
          obtain ⟨r26, S27⟩ := q25
          rw [h24] at hm
          dsimp only at hm
          refine ev_callV (N := mX4_numberedWord) (d' := 2) (bc := 0) (bs := 0) (bc' := 0) (bs' := 0) (as := [.int 9, .int 5]) (rest := []) (a := 24) (ci := 4) (dcd tokX4_orderWord rfl) okX4_numberedWord inX4_numberedWord seX4_numberedWord lk4_161 rfl (by decide) (Nat.le_of_ble_eq_true rfl) rfl ⟨by decide, rfl⟩ (gpX4_numberedWord_24 x S4 9 5 _ _ h24) (fun v h' hq hn => ?_)
          obtain ⟨rfl, rfl⟩ := hq
          cases hm
          exact Ev.reti tokX4_orderWord rfl rfl ⟨rfl, rfl⟩
      rw [if_neg c23] at hm
      refine ev_tOut (t := 96) (dcd tokX4_orderWord rfl) (by have zc5 := lv_neT c5 (show (275 : Int32).toInt = 275 from by decide); have zc10 := lv_neT c10 (show (276 : Int32).toInt = 276 from by decide); have zc15 := lv_neT c15 (show (277 : Int32).toInt = 277 from by decide); have zc16 := lv_neT c16 (show (278 : Int32).toInt = 278 from by decide); have zc17 := lv_neT c17 (show (279 : Int32).toInt = 279 from by decide); have zc18 := lv_neT c18 (show (280 : Int32).toInt = 280 from by decide); have zc19 := lv_neT c19 (show (281 : Int32).toInt = 281 from by decide); have zc20 := lv_neT c20 (show (282 : Int32).toInt = 282 from by decide); have zc21 := lv_neT c21 (show (283 : Int32).toInt = 283 from by decide); have zc22 := lv_neT c22 (show (284 : Int32).toInt = 284 from by decide); have zc23 := lv_neT c23 (show (285 : Int32).toInt = 285 from by decide); omega) rfl ?_
      refine Ev.steps tokX4_orderWord 1 (P := True) (pc' := 97) (lv' := [some (.ref 24)]) (st' := [.int (-1)]) (h' := mkS x S4) rfl trivial ?_
      cases hm
      exact Ev.reti tokX4_orderWord rfl rfl ⟨rfl, rfl⟩
theorem gpX4_orderWord_24 (x : XT) (S : ST)  (r : Int32) (S' : ST) (hm : gfX4_orderWord_24 x S  = some (r, S')) : Ct mX4_orderWord 3 0 0 [.ref 24] (mkS x S) (fun v h => v = some (.int r) ∧ h = mkS x S') :=
  Ct.of (lv := [some (.ref 24)]) rfl rfl rfl (show (_ : Nat) ≤ _ from Nat.le_of_ble_eq_true rfl) (fun G => rfl) (bpX4_orderWord_24_0 x S  r S' hm)
end MIR
