section MIR
set_option maxHeartbeats 4000000 in
set_option maxRecDepth 20000 in
theorem bpX11_ways_130_27 (x : XT)  (S : ST)  (r : Int64) (S' : ST) (hm : bfX11_ways_130_27 x  S  = some (r, S')) : Ev mX11_ways 129 0 0 27 [none, none, none, none, none, none] [] (mkS x S) (fun v h => v = some (.long r) ∧ h = mkS x S') := by
    unfold bfX11_ways_130_27 at hm
    refine Ev.steps tokX11_ways 1 (P := True) (pc' := 30) (lv' := [none, none, none, none, none, none]) (st' := [.long (-1)]) (h' := mkS x S) rfl trivial ?_
    cases hm
    exact Ev.retl tokX11_ways rfl rfl ⟨rfl, rfl⟩
set_option maxHeartbeats 4000000 in
set_option maxRecDepth 20000 in
theorem bpX11_ways_130_40 (x : XT) (k40 : ST → Int32 → Int32 → Int32 → Int32 → Option (Int64 × ST)) (hk40 : ∀ (S : ST) (v2 : Int32) (v3 : Int32) (v4 : Int32) (v5 : Int32) (r : Int64) (S' : ST), k40 S v2 v3 v4 v5 = some (r, S') → Ev mX11_ways 129 0 0 40 [some (.ref 130), none, some (.int v2), some (.int v3), some (.int v4), some (.int v5)] [] (mkS x S) (fun v h => v = some (.long r) ∧ h = mkS x S')) (S : ST) (v2 : Int32) (v3 : Int32) (v4 : Int32) (v5 : Int32) (r : Int64) (S' : ST) (hm : bfX11_ways_130_40 x k40 S v2 v3 v4 v5 = some (r, S')) : Ev mX11_ways 129 0 0 40 [some (.ref 130), none, some (.int v2), some (.int v3), some (.int v4), some (.int v5)] [] (mkS x S) (fun v h => v = some (.long r) ∧ h = mkS x S') := by
    unfold bfX11_ways_130_40 at hm
    refine Ev.steps tokX11_ways 3 (P := True) (pc' := if v4 ≤ v5 then 58 else 47) (lv' := [some (.ref 130), none, some (.int v2), some (.int v3), some (.int v4), some (.int v5)]) (st' := []) (h' := mkS x S) rfl trivial ?_
    refine Ev.ite (fun c1 => ?_) (fun c1 => ?_)
    · rw [if_pos c1] at hm
      refine Ev.steps tokX11_ways 3 (P := True) (pc' := 61) (lv' := [some (.ref 130), none, some (.int v2), some (.int v3), some (.int v4), some (.int v5)]) (st' := [.int v3, .int v2, .ref 130]) (h' := mkS x S) rfl trivial ?_
      cases h2 : gfX11_partsAt_130 x S v2 v3 with
      | none => rw [h2] at hm; cases hm
      | some q3 =>
        obtain ⟨r4, S5⟩ := q3
        rw [h2] at hm
        dsimp only at hm
        refine ev_callV (N := mX11_partsAt) (d' := 2) (bc := 0) (bs := 0) (bc' := 0) (bs' := 0) (as := [.int v2, .int v3]) (rest := []) (a := 130) (ci := 11) (dcd tokX11_ways rfl) okX11_partsAt inX11_partsAt seX11_partsAt lk11_431 rfl (by decide) (Nat.le_of_ble_eq_true rfl) rfl ⟨by decide, rfl⟩ (gpX11_partsAt_130 x S v2 v3 _ _ h2) (fun v h' hq hn => ?_)
        obtain ⟨rfl, rfl⟩ := hq
        cases hm
        exact Ev.retl tokX11_ways rfl rfl ⟨rfl, rfl⟩
    · rw [if_neg c1] at hm
      refine Ev.steps tokX11_ways 2 (P := True) (pc' := 49) (lv' := [some (.ref 130), none, some (.int v2), some (.int v3), some (.int v4), some (.int v5)]) (st' := [.int 0, .ref 130]) (h' := mkS x S) rfl trivial ?_
      cases h6 : gfX11_steps_130 x S 0 with
      | none => rw [h6] at hm; cases hm
      | some q7 =>
        obtain ⟨r8, S9⟩ := q7
        rw [h6] at hm
        dsimp only at hm
        refine ev_callV (N := mX11_steps) (d' := 3) (bc := 0) (bs := 0) (bc' := 0) (bs' := 0) (as := [.int 0]) (rest := []) (a := 130) (ci := 11) (dcd tokX11_ways rfl) okX11_steps inX11_steps seX11_steps lk11_427 rfl (by decide) (Nat.le_of_ble_eq_true rfl) rfl ⟨by decide, rfl⟩ (gpX11_steps_130 x S 0 _ _ h6) (fun v h' hq hn => ?_)
        obtain ⟨rfl, rfl⟩ := hq
        refine Ev.steps tokX11_ways 2 (P := True) (pc' := 40) (lv' := [some (.ref 130), none, some (.int v2), some (.int v3), some (.int v4), some (.int (v5 + 1))]) (st' := []) (h' := mkS x S9) rfl trivial ?_
        exact hk40 S9 v2 v3 v4 (v5 + 1) _ _ hm
theorem lpX11_ways_130_40 (x : XT)  : ∀ (n : Nat) (S : ST) (v2 : Int32) (v3 : Int32) (v4 : Int32) (v5 : Int32) (r : Int64) (S' : ST), lfX11_ways_130_40 x  n S v2 v3 v4 v5 = some (r, S') → Ev mX11_ways 129 0 0 40 [some (.ref 130), none, some (.int v2), some (.int v3), some (.int v4), some (.int v5)] [] (mkS x S) (fun v h => v = some (.long r) ∧ h = mkS x S')
  | 0, _, _, _, _, _, _, _, hm => by cases hm
  | n + 1, S, v2, v3, v4, v5, r, S', hm => bpX11_ways_130_40 x (lfX11_ways_130_40 x  n) (lpX11_ways_130_40 x  n) S v2 v3 v4 v5 r S' hm
set_option maxHeartbeats 4000000 in
set_option maxRecDepth 20000 in
theorem bpX11_ways_130_0 (x : XT)  (S : ST) (p1 : Int32) (p2 : Int32) (p3 : Int32) (p4 : Int32) (r : Int64) (S' : ST) (hm : bfX11_ways_130_0 x  S p1 p2 p3 p4 = some (r, S')) : Ev mX11_ways 129 0 0 0 [some (.ref 130), some (.int p1), some (.int p2), some (.int p3), some (.int p4), none] [] (mkS x S) (fun v h => v = some (.long r) ∧ h = mkS x S') := by
    unfold bfX11_ways_130_0 at hm
    refine Ev.steps tokX11_ways 2 (P := True) (pc' := 2) (lv' := [some (.ref 130), some (.int p1), some (.int p2), some (.int p3), some (.int p4), none]) (st' := [.int p1, .ref 130]) (h' := mkS x S) rfl trivial ?_
    cases h1 : gfX11_isGoer_130 x S p1 with
    | none => rw [h1] at hm; cases hm
    | some q2 =>
      obtain ⟨r3, S4⟩ := q2
      rw [h1] at hm
      dsimp only at hm
      refine ev_callV (N := mX11_isGoer) (d' := 2) (bc := 0) (bs := 0) (bc' := 0) (bs' := 0) (as := [.int p1]) (rest := []) (a := 130) (ci := 11) (dcd tokX11_ways rfl) okX11_isGoer inX11_isGoer seX11_isGoer lk11_149 rfl (by decide) (Nat.le_of_ble_eq_true rfl) rfl ⟨by decide, rfl⟩ (gpX11_isGoer_130 x S p1 _ _ h1) (fun v h' hq hn => ?_)
      obtain ⟨rfl, rfl⟩ := hq
      refine Ev.steps tokX11_ways 1 (P := True) (pc' := if r3 = 0 then 27 else 8) (lv' := [some (.ref 130), some (.int p1), some (.int p2), some (.int p3), some (.int p4), none]) (st' := []) (h' := mkS x S4) rfl trivial ?_
      refine Ev.ite (fun c5 => ?_) (fun c5 => ?_)
      · rw [if_pos c5] at hm
        refine Ev.fgt (lv' := [none, none, none, none, none, none]) trivial ?_
        exact bpX11_ways_130_27 x S4 _ _ hm
      · rw [if_neg c5] at hm
        refine Ev.steps tokX11_ways 2 (P := True) (pc' := 10) (lv' := [some (.ref 130), some (.int p1), some (.int p2), some (.int p3), some (.int p4), none]) (st' := [.int p3, .int p2]) (h' := mkS x S4) rfl trivial ?_
        cases h6 : gfX11_canBeGoal x S4 p2 p3 with
        | none => rw [h6] at hm; cases hm
        | some q7 =>
          obtain ⟨r8, S9⟩ := q7
          rw [h6] at hm
          dsimp only at hm
          refine ev_callS (N := mX11_canBeGoal) (d' := 3) (bc := 0) (bs := 0) (bc' := 0) (bs' := 0) (as := [.int p2, .int p3]) (rest := []) (dcd tokX11_ways rfl) okX11_canBeGoal inX11_canBeGoal lk11_392 rfl (by decide) (Nat.le_of_ble_eq_true rfl) (gpX11_canBeGoal x S4 p2 p3 _ _ h6) (fun v h' hq hn => ?_)
          obtain ⟨rfl, rfl⟩ := hq
          refine Ev.steps tokX11_ways 1 (P := True) (pc' := if r8 = 0 then 27 else 16) (lv' := [some (.ref 130), some (.int p1), some (.int p2), some (.int p3), some (.int p4), none]) (st' := []) (h' := mkS x S9) rfl trivial ?_
          refine Ev.ite (fun c10 => ?_) (fun c10 => ?_)
          · rw [if_pos c10] at hm
            refine Ev.fgt (lv' := [none, none, none, none, none, none]) trivial ?_
            exact bpX11_ways_130_27 x S9 _ _ hm
          · rw [if_neg c10] at hm
            refine Ev.steps tokX11_ways 3 (P := True) (pc' := 21) (lv' := [some (.ref 130), some (.int p1), some (.int p2), some (.int p3), some (.int p4), none]) (st' := [.int 12, .int 0, .int p4]) (h' := mkS x S9) rfl trivial ?_
            cases h11 : gfX11_lies x S9 p4 0 12 with
            | none => rw [h11] at hm; cases hm
            | some q12 =>
              obtain ⟨r13, S14⟩ := q12
              rw [h11] at hm
              dsimp only at hm
              refine ev_callS (N := mX11_lies) (d' := 1) (bc := 0) (bs := 0) (bc' := 0) (bs' := 0) (as := [.int p4, .int 0, .int 12]) (rest := []) (dcd tokX11_ways rfl) okX11_lies inX11_lies lk11_18 rfl (by decide) (Nat.le_of_ble_eq_true rfl) (gpX11_lies x S9 p4 0 12 _ _ h11) (fun v h' hq hn => ?_)
              obtain ⟨rfl, rfl⟩ := hq
              refine Ev.steps tokX11_ways 1 (P := True) (pc' := if ¬ r13 = 0 then 31 else 27) (lv' := [some (.ref 130), some (.int p1), some (.int p2), some (.int p3), some (.int p4), none]) (st' := []) (h' := mkS x S14) rfl trivial ?_
              refine Ev.ite (fun c15 => ?_) (fun c15 => ?_)
              · rw [if_pos c15] at hm
                refine Ev.steps tokX11_ways 3 (P := True) (pc' := 34) (lv' := [some (.ref 130), some (.int p1), some (.int p2), some (.int p3), some (.int p4), none]) (st' := [.long 1, .int p1, .ref 130]) (h' := mkS x S14) rfl trivial ?_
                cases h16 : gfX11_laysParts_130 x S14 p1 1 with
                | none => rw [h16] at hm; cases hm
                | some q17 =>
                  obtain ⟨r18, S19⟩ := q17
                  rw [h16] at hm
                  dsimp only at hm
                  refine ev_callV (N := mX11_laysParts) (d' := 128) (bc := 0) (bs := 0) (bc' := 0) (bs' := 0) (as := [.int p1, .long 1]) (rest := []) (a := 130) (ci := 11) (dcd tokX11_ways rfl) okX11_laysParts inX11_laysParts seX11_laysParts lk11_423 rfl (by decide) (Nat.le_of_ble_eq_true rfl) rfl ⟨by decide, rfl⟩ (gpX11_laysParts_130 x S14 p1 1 _ _ h16) (fun v h' hq hn => ?_)
                  obtain ⟨rfl, rfl⟩ := hq
                  refine Ev.steps tokX11_ways 2 (P := True) (pc' := 40) (lv' := [some (.ref 130), some (.int p1), some (.int p2), some (.int p3), some (.int p4), some (.int 0)]) (st' := []) (h' := mkS x S19) rfl trivial ?_
                  refine Ev.fgt (lv' := [some (.ref 130), none, some (.int p2), some (.int p3), some (.int p4), some (.int 0)]) ⟨rfl, rfl, rfl, rfl, rfl, trivial⟩ ?_
                  exact lpX11_ways_130_40 x  20000 S19 p2 p3 p4 0 _ _ hm
              · rw [if_neg c15] at hm
                refine Ev.fgt (lv' := [none, none, none, none, none, none]) trivial ?_
                exact bpX11_ways_130_27 x S14 _ _ hm
theorem gpX11_ways_130 (x : XT) (S : ST) (p1 : Int32) (p2 : Int32) (p3 : Int32) (p4 : Int32) (r : Int64) (S' : ST) (hm : gfX11_ways_130 x S p1 p2 p3 p4 = some (r, S')) : Ct mX11_ways 129 0 0 [.ref 130, .int p1, .int p2, .int p3, .int p4] (mkS x S) (fun v h => v = some (.long r) ∧ h = mkS x S') :=
  Ct.of (lv := [some (.ref 130), some (.int p1), some (.int p2), some (.int p3), some (.int p4), none]) rfl rfl rfl (show (_ : Nat) ≤ _ from Nat.le_of_ble_eq_true rfl) (fun G => rfl) (bpX11_ways_130_0 x S p1 p2 p3 p4 r S' hm)
set_option maxHeartbeats 4000000 in
set_option maxRecDepth 20000 in
theorem bpX11_likely_130_27 (x : XT)  (S : ST)  (r : Int64) (S' : ST) (hm : bfX11_likely_130_27 x  S  = some (r, S')) : Ev mX11_likely 129 0 0 27 [none, none, none, none, none, none] [] (mkS x S) (fun v h => v = some (.long r) ∧ h = mkS x S') := by
    unfold bfX11_likely_130_27 at hm
    refine Ev.steps tokX11_likely 1 (P := True) (pc' := 30) (lv' := [none, none, none, none, none, none]) (st' := [.long (-1)]) (h' := mkS x S) rfl trivial ?_
    cases hm
    exact Ev.retl tokX11_likely rfl rfl ⟨rfl, rfl⟩
set_option maxHeartbeats 4000000 in
set_option maxRecDepth 20000 in
theorem bpX11_likely_130_42 (x : XT) (k42 : ST → Int32 → Int32 → Int32 → Int32 → Option (Int64 × ST)) (hk42 : ∀ (S : ST) (v2 : Int32) (v3 : Int32) (v4 : Int32) (v5 : Int32) (r : Int64) (S' : ST), k42 S v2 v3 v4 v5 = some (r, S') → Ev mX11_likely 129 0 0 42 [some (.ref 130), none, some (.int v2), some (.int v3), some (.int v4), some (.int v5)] [] (mkS x S) (fun v h => v = some (.long r) ∧ h = mkS x S')) (S : ST) (v2 : Int32) (v3 : Int32) (v4 : Int32) (v5 : Int32) (r : Int64) (S' : ST) (hm : bfX11_likely_130_42 x k42 S v2 v3 v4 v5 = some (r, S')) : Ev mX11_likely 129 0 0 42 [some (.ref 130), none, some (.int v2), some (.int v3), some (.int v4), some (.int v5)] [] (mkS x S) (fun v h => v = some (.long r) ∧ h = mkS x S') := by
    unfold bfX11_likely_130_42 at hm
    refine Ev.steps tokX11_likely 3 (P := True) (pc' := if v4 ≤ v5 then 60 else 49) (lv' := [some (.ref 130), none, some (.int v2), some (.int v3), some (.int v4), some (.int v5)]) (st' := []) (h' := mkS x S) rfl trivial ?_
    refine Ev.ite (fun c1 => ?_) (fun c1 => ?_)
    · rw [if_pos c1] at hm
      refine Ev.steps tokX11_likely 3 (P := True) (pc' := 63) (lv' := [some (.ref 130), none, some (.int v2), some (.int v3), some (.int v4), some (.int v5)]) (st' := [.int v3, .int v2, .ref 130]) (h' := mkS x S) rfl trivial ?_
      cases h2 : gfX11_partsAt_130 x S v2 v3 with
      | none => rw [h2] at hm; cases hm
      | some q3 =>
        obtain ⟨r4, S5⟩ := q3
        rw [h2] at hm
        dsimp only at hm
        refine ev_callV (N := mX11_partsAt) (d' := 2) (bc := 0) (bs := 0) (bc' := 0) (bs' := 0) (as := [.int v2, .int v3]) (rest := []) (a := 130) (ci := 11) (dcd tokX11_likely rfl) okX11_partsAt inX11_partsAt seX11_partsAt lk11_431 rfl (by decide) (Nat.le_of_ble_eq_true rfl) rfl ⟨by decide, rfl⟩ (gpX11_partsAt_130 x S v2 v3 _ _ h2) (fun v h' hq hn => ?_)
        obtain ⟨rfl, rfl⟩ := hq
        cases hm
        exact Ev.retl tokX11_likely rfl rfl ⟨rfl, rfl⟩
    · rw [if_neg c1] at hm
      refine Ev.steps tokX11_likely 2 (P := True) (pc' := 51) (lv' := [some (.ref 130), none, some (.int v2), some (.int v3), some (.int v4), some (.int v5)]) (st' := [.int 1, .ref 130]) (h' := mkS x S) rfl trivial ?_
      cases h6 : gfX11_steps_130 x S 1 with
      | none => rw [h6] at hm; cases hm
      | some q7 =>
        obtain ⟨r8, S9⟩ := q7
        rw [h6] at hm
        dsimp only at hm
        refine ev_callV (N := mX11_steps) (d' := 3) (bc := 0) (bs := 0) (bc' := 0) (bs' := 0) (as := [.int 1]) (rest := []) (a := 130) (ci := 11) (dcd tokX11_likely rfl) okX11_steps inX11_steps seX11_steps lk11_427 rfl (by decide) (Nat.le_of_ble_eq_true rfl) rfl ⟨by decide, rfl⟩ (gpX11_steps_130 x S 1 _ _ h6) (fun v h' hq hn => ?_)
        obtain ⟨rfl, rfl⟩ := hq
        refine Ev.steps tokX11_likely 2 (P := True) (pc' := 42) (lv' := [some (.ref 130), none, some (.int v2), some (.int v3), some (.int v4), some (.int (v5 + 1))]) (st' := []) (h' := mkS x S9) rfl trivial ?_
        exact hk42 S9 v2 v3 v4 (v5 + 1) _ _ hm
theorem lpX11_likely_130_42 (x : XT)  : ∀ (n : Nat) (S : ST) (v2 : Int32) (v3 : Int32) (v4 : Int32) (v5 : Int32) (r : Int64) (S' : ST), lfX11_likely_130_42 x  n S v2 v3 v4 v5 = some (r, S') → Ev mX11_likely 129 0 0 42 [some (.ref 130), none, some (.int v2), some (.int v3), some (.int v4), some (.int v5)] [] (mkS x S) (fun v h => v = some (.long r) ∧ h = mkS x S')
  | 0, _, _, _, _, _, _, _, hm => by cases hm
  | n + 1, S, v2, v3, v4, v5, r, S', hm => bpX11_likely_130_42 x (lfX11_likely_130_42 x  n) (lpX11_likely_130_42 x  n) S v2 v3 v4 v5 r S' hm
set_option maxHeartbeats 4000000 in
set_option maxRecDepth 20000 in
theorem bpX11_likely_130_0 (x : XT)  (S : ST) (p1 : Int32) (p2 : Int32) (p3 : Int32) (p4 : Int32) (r : Int64) (S' : ST) (hm : bfX11_likely_130_0 x  S p1 p2 p3 p4 = some (r, S')) : Ev mX11_likely 129 0 0 0 [some (.ref 130), some (.int p1), some (.int p2), some (.int p3), some (.int p4), none] [] (mkS x S) (fun v h => v = some (.long r) ∧ h = mkS x S') := by
    unfold bfX11_likely_130_0 at hm
    refine Ev.steps tokX11_likely 2 (P := True) (pc' := 2) (lv' := [some (.ref 130), some (.int p1), some (.int p2), some (.int p3), some (.int p4), none]) (st' := [.int p1, .ref 130]) (h' := mkS x S) rfl trivial ?_
    cases h1 : gfX11_isGoer_130 x S p1 with
    | none => rw [h1] at hm; cases hm
    | some q2 =>
      obtain ⟨r3, S4⟩ := q2
      rw [h1] at hm
      dsimp only at hm
      refine ev_callV (N := mX11_isGoer) (d' := 2) (bc := 0) (bs := 0) (bc' := 0) (bs' := 0) (as := [.int p1]) (rest := []) (a := 130) (ci := 11) (dcd tokX11_likely rfl) okX11_isGoer inX11_isGoer seX11_isGoer lk11_149 rfl (by decide) (Nat.le_of_ble_eq_true rfl) rfl ⟨by decide, rfl⟩ (gpX11_isGoer_130 x S p1 _ _ h1) (fun v h' hq hn => ?_)
      obtain ⟨rfl, rfl⟩ := hq
      refine Ev.steps tokX11_likely 1 (P := True) (pc' := if r3 = 0 then 27 else 8) (lv' := [some (.ref 130), some (.int p1), some (.int p2), some (.int p3), some (.int p4), none]) (st' := []) (h' := mkS x S4) rfl trivial ?_
      refine Ev.ite (fun c5 => ?_) (fun c5 => ?_)
      · rw [if_pos c5] at hm
        refine Ev.fgt (lv' := [none, none, none, none, none, none]) trivial ?_
        exact bpX11_likely_130_27 x S4 _ _ hm
      · rw [if_neg c5] at hm
        refine Ev.steps tokX11_likely 2 (P := True) (pc' := 10) (lv' := [some (.ref 130), some (.int p1), some (.int p2), some (.int p3), some (.int p4), none]) (st' := [.int p3, .int p2]) (h' := mkS x S4) rfl trivial ?_
        cases h6 : gfX11_canBeGoal x S4 p2 p3 with
        | none => rw [h6] at hm; cases hm
        | some q7 =>
          obtain ⟨r8, S9⟩ := q7
          rw [h6] at hm
          dsimp only at hm
          refine ev_callS (N := mX11_canBeGoal) (d' := 3) (bc := 0) (bs := 0) (bc' := 0) (bs' := 0) (as := [.int p2, .int p3]) (rest := []) (dcd tokX11_likely rfl) okX11_canBeGoal inX11_canBeGoal lk11_392 rfl (by decide) (Nat.le_of_ble_eq_true rfl) (gpX11_canBeGoal x S4 p2 p3 _ _ h6) (fun v h' hq hn => ?_)
          obtain ⟨rfl, rfl⟩ := hq
          refine Ev.steps tokX11_likely 1 (P := True) (pc' := if r8 = 0 then 27 else 16) (lv' := [some (.ref 130), some (.int p1), some (.int p2), some (.int p3), some (.int p4), none]) (st' := []) (h' := mkS x S9) rfl trivial ?_
          refine Ev.ite (fun c10 => ?_) (fun c10 => ?_)
          · rw [if_pos c10] at hm
            refine Ev.fgt (lv' := [none, none, none, none, none, none]) trivial ?_
            exact bpX11_likely_130_27 x S9 _ _ hm
          · rw [if_neg c10] at hm
            refine Ev.steps tokX11_likely 3 (P := True) (pc' := 21) (lv' := [some (.ref 130), some (.int p1), some (.int p2), some (.int p3), some (.int p4), none]) (st' := [.int 30, .int 0, .int p4]) (h' := mkS x S9) rfl trivial ?_
            cases h11 : gfX11_lies x S9 p4 0 30 with
            | none => rw [h11] at hm; cases hm
            | some q12 =>
              obtain ⟨r13, S14⟩ := q12
              rw [h11] at hm
              dsimp only at hm
              refine ev_callS (N := mX11_lies) (d' := 1) (bc := 0) (bs := 0) (bc' := 0) (bs' := 0) (as := [.int p4, .int 0, .int 30]) (rest := []) (dcd tokX11_likely rfl) okX11_lies inX11_lies lk11_18 rfl (by decide) (Nat.le_of_ble_eq_true rfl) (gpX11_lies x S9 p4 0 30 _ _ h11) (fun v h' hq hn => ?_)
              obtain ⟨rfl, rfl⟩ := hq
              refine Ev.steps tokX11_likely 1 (P := True) (pc' := if ¬ r13 = 0 then 31 else 27) (lv' := [some (.ref 130), some (.int p1), some (.int p2), some (.int p3), some (.int p4), none]) (st' := []) (h' := mkS x S14) rfl trivial ?_
              refine Ev.ite (fun c15 => ?_) (fun c15 => ?_)
              · rw [if_pos c15] at hm
                refine Ev.steps tokX11_likely 3 (P := True) (pc' := 36) (lv' := [some (.ref 130), some (.int p1), some (.int p2), some (.int p3), some (.int p4), none]) (st' := [.long 1000000000000, .int p1, .ref 130]) (h' := mkS x S14) rfl trivial ?_
                cases h16 : gfX11_laysParts_130 x S14 p1 1000000000000 with
                | none => rw [h16] at hm; cases hm
                | some q17 =>
                  obtain ⟨r18, S19⟩ := q17
                  rw [h16] at hm
                  dsimp only at hm
                  refine ev_callV (N := mX11_laysParts) (d' := 128) (bc := 0) (bs := 0) (bc' := 0) (bs' := 0) (as := [.int p1, .long 1000000000000]) (rest := []) (a := 130) (ci := 11) (dcd tokX11_likely rfl) okX11_laysParts inX11_laysParts seX11_laysParts lk11_423 rfl (by decide) (Nat.le_of_ble_eq_true rfl) rfl ⟨by decide, rfl⟩ (gpX11_laysParts_130 x S14 p1 1000000000000 _ _ h16) (fun v h' hq hn => ?_)
                  obtain ⟨rfl, rfl⟩ := hq
                  refine Ev.steps tokX11_likely 2 (P := True) (pc' := 42) (lv' := [some (.ref 130), some (.int p1), some (.int p2), some (.int p3), some (.int p4), some (.int 0)]) (st' := []) (h' := mkS x S19) rfl trivial ?_
                  refine Ev.fgt (lv' := [some (.ref 130), none, some (.int p2), some (.int p3), some (.int p4), some (.int 0)]) ⟨rfl, rfl, rfl, rfl, rfl, trivial⟩ ?_
                  exact lpX11_likely_130_42 x  20000 S19 p2 p3 p4 0 _ _ hm
              · rw [if_neg c15] at hm
                refine Ev.fgt (lv' := [none, none, none, none, none, none]) trivial ?_
                exact bpX11_likely_130_27 x S14 _ _ hm
theorem gpX11_likely_130 (x : XT) (S : ST) (p1 : Int32) (p2 : Int32) (p3 : Int32) (p4 : Int32) (r : Int64) (S' : ST) (hm : gfX11_likely_130 x S p1 p2 p3 p4 = some (r, S')) : Ct mX11_likely 129 0 0 [.ref 130, .int p1, .int p2, .int p3, .int p4] (mkS x S) (fun v h => v = some (.long r) ∧ h = mkS x S') :=
  Ct.of (lv := [some (.ref 130), some (.int p1), some (.int p2), some (.int p3), some (.int p4), none]) rfl rfl rfl (show (_ : Nat) ≤ _ from Nat.le_of_ble_eq_true rfl) (fun G => rfl) (bpX11_likely_130_0 x S p1 p2 p3 p4 r S' hm)
set_option maxHeartbeats 4000000 in
set_option maxRecDepth 20000 in
theorem bpX11_again_130_25 (x : XT)  (S : ST)  (r : Int32) (S' : ST) (hm : bfX11_again_130_25 x  S  = some (r, S')) : Ev mX11_again 126 0 0 25 [none, none, none, none, none, none] [] (mkS x S) (fun v h => v = some (.int r) ∧ h = mkS x S') := by
    unfold bfX11_again_130_25 at hm
    refine Ev.steps tokX11_again 1 (P := True) (pc' := 26) (lv' := [none, none, none, none, none, none]) (st' := [.int (-1)]) (h' := mkS x S) rfl trivial ?_
    cases hm
    exact Ev.reti tokX11_again rfl rfl ⟨rfl, rfl⟩
set_option maxHeartbeats 4000000 in
set_option maxRecDepth 20000 in
theorem bpX11_again_130_128 (x : XT)  (S : ST) (t0 : Int32) (r : Int32) (S' : ST) (hm : bfX11_again_130_128 x  S t0 = some (r, S')) : Ev mX11_again 126 0 0 128 [none, none, none, none, none, none] [.int t0] (mkS x S) (fun v h => v = some (.int r) ∧ h = mkS x S') := by
    unfold bfX11_again_130_128 at hm
    cases hm
    exact Ev.reti tokX11_again rfl rfl ⟨rfl, rfl⟩
set_option maxHeartbeats 4000000 in
set_option maxRecDepth 20000 in
theorem bpX11_again_130_64 (x : XT) (k64 : ST → Int32 → Int32 → Int32 → Int32 → Int32 → Option (Int32 × ST)) (hk64 : ∀ (S : ST) (v1 : Int32) (v2 : Int32) (v3 : Int32) (v4 : Int32) (v5 : Int32) (r : Int32) (S' : ST), k64 S v1 v2 v3 v4 v5 = some (r, S') → Ev mX11_again 126 0 0 64 [some (.ref 130), some (.int v1), some (.int v2), some (.int v3), some (.int v4), some (.int v5)] [] (mkS x S) (fun v h => v = some (.int r) ∧ h = mkS x S')) (S : ST) (v1 : Int32) (v2 : Int32) (v3 : Int32) (v4 : Int32) (v5 : Int32) (r : Int32) (S' : ST) (hm : bfX11_again_130_64 x k64 S v1 v2 v3 v4 v5 = some (r, S')) : Ev mX11_again 126 0 0 64 [some (.ref 130), some (.int v1), some (.int v2), some (.int v3), some (.int v4), some (.int v5)] [] (mkS x S) (fun v h => v = some (.int r) ∧ h = mkS x S') := by
    unfold bfX11_again_130_64 at hm
    obtain ⟨o1, hm⟩ := oblk hm
    refine Ev.steps tokX11_again 6 (P := vp_in v4 20 ∧ True) (pc' := if ¬ (S.2.1 152 v4.toNatClampNeg) = (-1) then 104 else 75) (lv' := [some (.ref 130), some (.int v1), some (.int v2), some (.int v3), some (.int v4), some (.int v5)]) (st' := []) (h' := mkS x S) rfl ⟨inb_ok o1, trivial⟩ ?_
    refine Ev.ite (fun c2 => ?_) (fun c2 => ?_)
    · rw [if_pos c2] at hm
      refine Ev.steps tokX11_again 2 (P := True) (pc' := if ¬ v3 = 0 then 118 else 108) (lv' := [some (.ref 130), some (.int v1), some (.int v2), some (.int v3), some (.int v4), some (.int v5)]) (st' := []) (h' := mkS x S) rfl trivial ?_
      refine Ev.ite (fun c3 => ?_) (fun c3 => ?_)
      · rw [if_pos c3] at hm
        obtain ⟨o4, hm⟩ := oblk hm
        refine Ev.steps tokX11_again 6 (P := vp_in v4 20 ∧ True) (pc' := 128) (lv' := [some (.ref 130), some (.int v1), some (.int v2), some (.int v3), some (.int v4), some (.int v5)]) (st' := [.int (v5 - (S.2.1 152 v4.toNatClampNeg))]) (h' := mkS x S) rfl ⟨inb_ok o4, trivial⟩ ?_
        refine Ev.fgt (lv' := [none, none, none, none, none, none]) trivial ?_
        exact bpX11_again_130_128 x S (v5 - (S.2.1 152 v4.toNatClampNeg)) _ _ hm
      · rw [if_neg c3] at hm
        obtain ⟨o5, hm⟩ := oblk hm
        refine Ev.steps tokX11_again 5 (P := vp_in v4 20 ∧ True) (pc' := 128) (lv' := [some (.ref 130), some (.int v1), some (.int v2), some (.int v3), some (.int v4), some (.int v5)]) (st' := [.int (S.2.1 152 v4.toNatClampNeg)]) (h' := mkS x S) rfl ⟨inb_ok o5, trivial⟩ ?_
        refine Ev.fgt (lv' := [none, none, none, none, none, none]) trivial ?_
        exact bpX11_again_130_128 x S (S.2.1 152 v4.toNatClampNeg) _ _ hm
    · rw [if_neg c2] at hm
      obtain ⟨o6, hm⟩ := oblk hm
      refine Ev.steps tokX11_again 9 (P := vp_in v4 20 ∧ True) (pc' := 89) (lv' := [some (.ref 130), some (.int v1), some (.int v2), some (.int v3), some (.int v4), some (.int v5)]) (st' := [.int v4, .int v2, .int v1, .ref 130]) (h' := mkS x (S.1, (u2 S.2.1 152 v4.toNatClampNeg v5), S.2.2.1, S.2.2.2)) rfl ⟨inb_ok o6, trivial⟩ ?_
      cases h7 : gfX11_setsGate_130 x (S.1, (u2 S.2.1 152 v4.toNatClampNeg v5), S.2.2.1, S.2.2.2) v1 v2 v4 with
      | none => rw [h7] at hm; cases hm
      | some q8 =>
        obtain ⟨r9, S10⟩ := q8
        rw [h7] at hm
        dsimp only at hm
        refine ev_callV (N := mX11_setsGate) (d' := 2) (bc := 0) (bs := 0) (bc' := 0) (bs' := 0) (as := [.int v1, .int v2, .int v4]) (rest := []) (a := 130) (ci := 11) (dcd tokX11_again rfl) okX11_setsGate inX11_setsGate seX11_setsGate lk11_159 rfl (by decide) (Nat.le_of_ble_eq_true rfl) rfl ⟨by decide, rfl⟩ (gpX11_setsGate_130 x (S.1, (u2 S.2.1 152 v4.toNatClampNeg v5), S.2.2.1, S.2.2.2) v1 v2 v4 _ _ h7) (fun v h' hq hn => ?_)
        obtain ⟨rfl, rfl⟩ := hq
        refine Ev.steps tokX11_again 1 (P := True) (pc' := 93) (lv' := [some (.ref 130), some (.int v1), some (.int v2), some (.int v3), some (.int v4), some (.int v5)]) (st' := [.ref 130]) (h' := mkS x S10) rfl trivial ?_
        cases h11 : gfX11_turnsNow_130 x S10 with
        | none => rw [h11] at hm; cases hm
        | some q12 =>
          obtain ⟨r13, S14⟩ := q12
          rw [h11] at hm
          dsimp only at hm
          refine ev_callV (N := mX11_turnsNow) (d' := 125) (bc := 0) (bs := 0) (bc' := 0) (bs' := 0) (as := []) (rest := []) (a := 130) (ci := 11) (dcd tokX11_again rfl) okX11_turnsNow inX11_turnsNow seX11_turnsNow lk11_163 rfl (by decide) (Nat.le_of_ble_eq_true rfl) rfl ⟨by decide, rfl⟩ (gpX11_turnsNow_130 x S10 _ _ h11) (fun v h' hq hn => ?_)
          obtain ⟨rfl, rfl⟩ := hq
          refine Ev.steps tokX11_again 3 (P := True) (pc' := 64) (lv' := [some (.ref 130), some (.int v1), some (.int v2), some (.int v3), some (.int r13), some (.int (v5 + 1))]) (st' := []) (h' := mkS x S14) rfl trivial ?_
          exact hk64 S14 v1 v2 v3 r13 (v5 + 1) _ _ hm
theorem lpX11_again_130_64 (x : XT)  : ∀ (n : Nat) (S : ST) (v1 : Int32) (v2 : Int32) (v3 : Int32) (v4 : Int32) (v5 : Int32) (r : Int32) (S' : ST), lfX11_again_130_64 x  n S v1 v2 v3 v4 v5 = some (r, S') → Ev mX11_again 126 0 0 64 [some (.ref 130), some (.int v1), some (.int v2), some (.int v3), some (.int v4), some (.int v5)] [] (mkS x S) (fun v h => v = some (.int r) ∧ h = mkS x S')
  | 0, _, _, _, _, _, _, _, _, hm => by cases hm
  | n + 1, S, v1, v2, v3, v4, v5, r, S', hm => bpX11_again_130_64 x (lfX11_again_130_64 x  n) (lpX11_again_130_64 x  n) S v1 v2 v3 v4 v5 r S' hm
set_option maxHeartbeats 4000000 in
set_option maxRecDepth 20000 in
theorem bpX11_again_130_30 (x : XT) (k30 : ST → Int32 → Int32 → Int32 → Int32 → Option (Int32 × ST)) (hk30 : ∀ (S : ST) (v1 : Int32) (v2 : Int32) (v3 : Int32) (v4 : Int32) (r : Int32) (S' : ST), k30 S v1 v2 v3 v4 = some (r, S') → Ev mX11_again 126 0 0 30 [some (.ref 130), some (.int v1), some (.int v2), some (.int v3), some (.int v4), none] [] (mkS x S) (fun v h => v = some (.int r) ∧ h = mkS x S')) (S : ST) (v1 : Int32) (v2 : Int32) (v3 : Int32) (v4 : Int32) (r : Int32) (S' : ST) (hm : bfX11_again_130_30 x k30 S v1 v2 v3 v4 = some (r, S')) : Ev mX11_again 126 0 0 30 [some (.ref 130), some (.int v1), some (.int v2), some (.int v3), some (.int v4), none] [] (mkS x S) (fun v h => v = some (.int r) ∧ h = mkS x S') := by
    unfold bfX11_again_130_30 at hm
    refine Ev.steps tokX11_again 3 (P := True) (pc' := if 20 ≤ v4 then 51 else 37) (lv' := [some (.ref 130), some (.int v1), some (.int v2), some (.int v3), some (.int v4), none]) (st' := []) (h' := mkS x S) rfl trivial ?_
    refine Ev.ite (fun c1 => ?_) (fun c1 => ?_)
    · rw [if_pos c1] at hm
      obtain ⟨o2, hm⟩ := oblk hm
      refine Ev.steps tokX11_again 9 (P := vp_in (5 + v1) 5703 ∧ True) (pc' := 64) (lv' := [some (.ref 130), some (.int v1), some (.int v2), some (.int v3), some (.int (S.2.1 132 ((5 + v1).toNatClampNeg))), some (.int 0)]) (st' := []) (h' := mkS x S) rfl ⟨inb_ok o2, trivial⟩ ?_
      exact lpX11_again_130_64 x  20000 S v1 v2 v3 (S.2.1 132 ((5 + v1).toNatClampNeg)) 0 _ _ hm
    · rw [if_neg c1] at hm
      obtain ⟨o3, hm⟩ := oblk hm
      refine Ev.steps tokX11_again 7 (P := vp_in v4 20 ∧ True) (pc' := 30) (lv' := [some (.ref 130), some (.int v1), some (.int v2), some (.int v3), some (.int (v4 + 1)), none]) (st' := []) (h' := mkS x (S.1, (u2 S.2.1 152 v4.toNatClampNeg (-1)), S.2.2.1, S.2.2.2)) rfl ⟨inb_ok o3, trivial⟩ ?_
      exact hk30 (S.1, (u2 S.2.1 152 v4.toNatClampNeg (-1)), S.2.2.1, S.2.2.2) v1 v2 v3 (v4 + 1) _ _ hm
theorem lpX11_again_130_30 (x : XT)  : ∀ (n : Nat) (S : ST) (v1 : Int32) (v2 : Int32) (v3 : Int32) (v4 : Int32) (r : Int32) (S' : ST), lfX11_again_130_30 x  n S v1 v2 v3 v4 = some (r, S') → Ev mX11_again 126 0 0 30 [some (.ref 130), some (.int v1), some (.int v2), some (.int v3), some (.int v4), none] [] (mkS x S) (fun v h => v = some (.int r) ∧ h = mkS x S')
  | 0, _, _, _, _, _, _, _, hm => by cases hm
  | n + 1, S, v1, v2, v3, v4, r, S', hm => bpX11_again_130_30 x (lfX11_again_130_30 x  n) (lpX11_again_130_30 x  n) S v1 v2 v3 v4 r S' hm
set_option maxHeartbeats 4000000 in
set_option maxRecDepth 20000 in
theorem bpX11_again_130_0 (x : XT)  (S : ST) (p1 : Int32) (p2 : Int32) (p3 : Int32) (r : Int32) (S' : ST) (hm : bfX11_again_130_0 x  S p1 p2 p3 = some (r, S')) : Ev mX11_again 126 0 0 0 [some (.ref 130), some (.int p1), some (.int p2), some (.int p3), none, none] [] (mkS x S) (fun v h => v = some (.int r) ∧ h = mkS x S') := by
    unfold bfX11_again_130_0 at hm
    refine Ev.steps tokX11_again 2 (P := True) (pc' := 2) (lv' := [some (.ref 130), some (.int p1), some (.int p2), some (.int p3), none, none]) (st' := [.int p1, .ref 130]) (h' := mkS x S) rfl trivial ?_
    cases h1 : gfX11_isGoer_130 x S p1 with
    | none => rw [h1] at hm; cases hm
    | some q2 =>
      obtain ⟨r3, S4⟩ := q2
      rw [h1] at hm
      dsimp only at hm
      refine ev_callV (N := mX11_isGoer) (d' := 2) (bc := 0) (bs := 0) (bc' := 0) (bs' := 0) (as := [.int p1]) (rest := []) (a := 130) (ci := 11) (dcd tokX11_again rfl) okX11_isGoer inX11_isGoer seX11_isGoer lk11_149 rfl (by decide) (Nat.le_of_ble_eq_true rfl) rfl ⟨by decide, rfl⟩ (gpX11_isGoer_130 x S p1 _ _ h1) (fun v h' hq hn => ?_)
      obtain ⟨rfl, rfl⟩ := hq
      refine Ev.steps tokX11_again 1 (P := True) (pc' := if r3 = 0 then 25 else 8) (lv' := [some (.ref 130), some (.int p1), some (.int p2), some (.int p3), none, none]) (st' := []) (h' := mkS x S4) rfl trivial ?_
      refine Ev.ite (fun c5 => ?_) (fun c5 => ?_)
      · rw [if_pos c5] at hm
        refine Ev.fgt (lv' := [none, none, none, none, none, none]) trivial ?_
        exact bpX11_again_130_25 x S4 _ _ hm
      · rw [if_neg c5] at hm
        refine Ev.steps tokX11_again 2 (P := True) (pc' := 10) (lv' := [some (.ref 130), some (.int p1), some (.int p2), some (.int p3), none, none]) (st' := [.int p2, .ref 130]) (h' := mkS x S4) rfl trivial ?_
        cases h6 : gfX11_isGate_130 x S4 p2 with
        | none => rw [h6] at hm; cases hm
        | some q7 =>
          obtain ⟨r8, S9⟩ := q7
          rw [h6] at hm
          dsimp only at hm
          refine ev_callV (N := mX11_isGate) (d' := 2) (bc := 0) (bs := 0) (bc' := 0) (bs' := 0) (as := [.int p2]) (rest := []) (a := 130) (ci := 11) (dcd tokX11_again rfl) okX11_isGate inX11_isGate seX11_isGate lk11_143 rfl (by decide) (Nat.le_of_ble_eq_true rfl) rfl ⟨by decide, rfl⟩ (gpX11_isGate_130 x S4 p2 _ _ h6) (fun v h' hq hn => ?_)
          obtain ⟨rfl, rfl⟩ := hq
          refine Ev.steps tokX11_again 1 (P := True) (pc' := if r8 = 0 then 25 else 16) (lv' := [some (.ref 130), some (.int p1), some (.int p2), some (.int p3), none, none]) (st' := []) (h' := mkS x S9) rfl trivial ?_
          refine Ev.ite (fun c10 => ?_) (fun c10 => ?_)
          · rw [if_pos c10] at hm
            refine Ev.fgt (lv' := [none, none, none, none, none, none]) trivial ?_
            exact bpX11_again_130_25 x S9 _ _ hm
          · rw [if_neg c10] at hm
            refine Ev.steps tokX11_again 3 (P := True) (pc' := 19) (lv' := [some (.ref 130), some (.int p1), some (.int p2), some (.int p3), none, none]) (st' := [.int 1, .int 0, .int p3]) (h' := mkS x S9) rfl trivial ?_
            cases h11 : gfX11_lies x S9 p3 0 1 with
            | none => rw [h11] at hm; cases hm
            | some q12 =>
              obtain ⟨r13, S14⟩ := q12
              rw [h11] at hm
              dsimp only at hm
              refine ev_callS (N := mX11_lies) (d' := 1) (bc := 0) (bs := 0) (bc' := 0) (bs' := 0) (as := [.int p3, .int 0, .int 1]) (rest := []) (dcd tokX11_again rfl) okX11_lies inX11_lies lk11_18 rfl (by decide) (Nat.le_of_ble_eq_true rfl) (gpX11_lies x S9 p3 0 1 _ _ h11) (fun v h' hq hn => ?_)
              obtain ⟨rfl, rfl⟩ := hq
              refine Ev.steps tokX11_again 1 (P := True) (pc' := if ¬ r13 = 0 then 27 else 25) (lv' := [some (.ref 130), some (.int p1), some (.int p2), some (.int p3), none, none]) (st' := []) (h' := mkS x S14) rfl trivial ?_
              refine Ev.ite (fun c15 => ?_) (fun c15 => ?_)
              · rw [if_pos c15] at hm
                refine Ev.steps tokX11_again 2 (P := True) (pc' := 30) (lv' := [some (.ref 130), some (.int p1), some (.int p2), some (.int p3), some (.int 0), none]) (st' := []) (h' := mkS x S14) rfl trivial ?_
                exact lpX11_again_130_30 x  20000 S14 p1 p2 p3 0 _ _ hm
              · rw [if_neg c15] at hm
                refine Ev.fgt (lv' := [none, none, none, none, none, none]) trivial ?_
                exact bpX11_again_130_25 x S14 _ _ hm
theorem gpX11_again_130 (x : XT) (S : ST) (p1 : Int32) (p2 : Int32) (p3 : Int32) (r : Int32) (S' : ST) (hm : gfX11_again_130 x S p1 p2 p3 = some (r, S')) : Ct mX11_again 126 0 0 [.ref 130, .int p1, .int p2, .int p3] (mkS x S) (fun v h => v = some (.int r) ∧ h = mkS x S') :=
  Ct.of (lv := [some (.ref 130), some (.int p1), some (.int p2), some (.int p3), none, none]) rfl rfl rfl (show (_ : Nat) ≤ _ from Nat.le_of_ble_eq_true rfl) (fun G => rfl) (bpX11_again_130_0 x S p1 p2 p3 r S' hm)
set_option maxHeartbeats 4000000 in
set_option maxRecDepth 20000 in
theorem bpX11_hasWay_130_55 (x : XT) (k16 : ST → Int32 → Int32 → Int32 → Int32 → Option (Int32 × ST)) (hk16 : ∀ (S : ST) (v2 : Int32) (v3 : Int32) (v4 : Int32) (v5 : Int32) (r : Int32) (S' : ST), k16 S v2 v3 v4 v5 = some (r, S') → Ev mX11_hasWay 3 0 0 16 [some (.ref 130), none, some (.int v2), some (.int v3), some (.int v4), some (.int v5)] [] (mkS x S) (fun v h => v = some (.int r) ∧ h = mkS x S')) (S : ST) (v2 : Int32) (v3 : Int32) (v5 : Int32) (t0 : Int32) (r : Int32) (S' : ST) (hm : bfX11_hasWay_130_55 x k16 S v2 v3 v5 t0 = some (r, S')) : Ev mX11_hasWay 3 0 0 55 [some (.ref 130), none, some (.int v2), some (.int v3), none, some (.int v5)] [.int t0] (mkS x S) (fun v h => v = some (.int r) ∧ h = mkS x S') := by
    unfold bfX11_hasWay_130_55 at hm
    refine Ev.steps tokX11_hasWay 3 (P := True) (pc' := 16) (lv' := [some (.ref 130), none, some (.int v2), some (.int v3), some (.int t0), some (.int (v5 + 1))]) (st' := []) (h' := mkS x S) rfl trivial ?_
    exact hk16 S v2 v3 t0 (v5 + 1) _ _ hm
set_option maxHeartbeats 4000000 in
set_option maxRecDepth 20000 in
theorem bpX11_hasWay_130_50 (x : XT) (k16 : ST → Int32 → Int32 → Int32 → Int32 → Option (Int32 × ST)) (hk16 : ∀ (S : ST) (v2 : Int32) (v3 : Int32) (v4 : Int32) (v5 : Int32) (r : Int32) (S' : ST), k16 S v2 v3 v4 v5 = some (r, S') → Ev mX11_hasWay 3 0 0 16 [some (.ref 130), none, some (.int v2), some (.int v3), some (.int v4), some (.int v5)] [] (mkS x S) (fun v h => v = some (.int r) ∧ h = mkS x S')) (S : ST) (v2 : Int32) (v3 : Int32) (v5 : Int32) (r : Int32) (S' : ST) (hm : bfX11_hasWay_130_50 x k16 S v2 v3 v5 = some (r, S')) : Ev mX11_hasWay 3 0 0 50 [some (.ref 130), none, some (.int v2), some (.int v3), none, some (.int v5)] [] (mkS x S) (fun v h => v = some (.int r) ∧ h = mkS x S') := by
    unfold bfX11_hasWay_130_50 at hm
    refine Ev.steps tokX11_hasWay 2 (P := True) (pc' := 55) (lv' := [some (.ref 130), none, some (.int v2), some (.int v3), none, some (.int v5)]) (st' := [.int 1]) (h' := mkS x S) rfl trivial ?_
    exact bpX11_hasWay_130_55 x k16 hk16 S v2 v3 v5 1 _ _ hm
set_option maxHeartbeats 4000000 in
set_option maxRecDepth 20000 in
theorem bpX11_hasWay_130_54 (x : XT) (k16 : ST → Int32 → Int32 → Int32 → Int32 → Option (Int32 × ST)) (hk16 : ∀ (S : ST) (v2 : Int32) (v3 : Int32) (v4 : Int32) (v5 : Int32) (r : Int32) (S' : ST), k16 S v2 v3 v4 v5 = some (r, S') → Ev mX11_hasWay 3 0 0 16 [some (.ref 130), none, some (.int v2), some (.int v3), some (.int v4), some (.int v5)] [] (mkS x S) (fun v h => v = some (.int r) ∧ h = mkS x S')) (S : ST) (v2 : Int32) (v3 : Int32) (v5 : Int32) (r : Int32) (S' : ST) (hm : bfX11_hasWay_130_54 x k16 S v2 v3 v5 = some (r, S')) : Ev mX11_hasWay 3 0 0 54 [some (.ref 130), none, some (.int v2), some (.int v3), none, some (.int v5)] [] (mkS x S) (fun v h => v = some (.int r) ∧ h = mkS x S') := by
    unfold bfX11_hasWay_130_54 at hm
    refine Ev.steps tokX11_hasWay 1 (P := True) (pc' := 55) (lv' := [some (.ref 130), none, some (.int v2), some (.int v3), none, some (.int v5)]) (st' := [.int 0]) (h' := mkS x S) rfl trivial ?_
    exact bpX11_hasWay_130_55 x k16 hk16 S v2 v3 v5 0 _ _ hm
set_option maxHeartbeats 4000000 in
set_option maxRecDepth 20000 in
theorem bpX11_hasWay_130_16 (x : XT) (k16 : ST → Int32 → Int32 → Int32 → Int32 → Option (Int32 × ST)) (hk16 : ∀ (S : ST) (v2 : Int32) (v3 : Int32) (v4 : Int32) (v5 : Int32) (r : Int32) (S' : ST), k16 S v2 v3 v4 v5 = some (r, S') → Ev mX11_hasWay 3 0 0 16 [some (.ref 130), none, some (.int v2), some (.int v3), some (.int v4), some (.int v5)] [] (mkS x S) (fun v h => v = some (.int r) ∧ h = mkS x S')) (S : ST) (v2 : Int32) (v3 : Int32) (v4 : Int32) (v5 : Int32) (r : Int32) (S' : ST) (hm : bfX11_hasWay_130_16 x k16 S v2 v3 v4 v5 = some (r, S')) : Ev mX11_hasWay 3 0 0 16 [some (.ref 130), none, some (.int v2), some (.int v3), some (.int v4), some (.int v5)] [] (mkS x S) (fun v h => v = some (.int r) ∧ h = mkS x S') := by
    unfold bfX11_hasWay_130_16 at hm
    refine Ev.steps tokX11_hasWay 3 (P := True) (pc' := if 120 ≤ v5 then 63 else 23) (lv' := [some (.ref 130), none, some (.int v2), some (.int v3), some (.int v4), some (.int v5)]) (st' := []) (h' := mkS x S) rfl trivial ?_
    refine Ev.ite (fun c1 => ?_) (fun c1 => ?_)
    · rw [if_pos c1] at hm
      refine Ev.steps tokX11_hasWay 1 (P := True) (pc' := 65) (lv' := [some (.ref 130), none, some (.int v2), some (.int v3), some (.int v4), some (.int v5)]) (st' := [.int v4]) (h' := mkS x S) rfl trivial ?_
      obtain ⟨o2, hm⟩ := oblk hm
      cases hm
      exact Ev.retz tokX11_hasWay rfl rfl (bbz_ok o2) ⟨rfl, rfl⟩
    · rw [if_neg c1] at hm
      refine Ev.steps tokX11_hasWay 2 (P := True) (pc' := if ¬ v4 = 0 then 50 else 28) (lv' := [some (.ref 130), none, some (.int v2), some (.int v3), some (.int v4), some (.int v5)]) (st' := []) (h' := mkS x S) rfl trivial ?_
      refine Ev.ite (fun c3 => ?_) (fun c3 => ?_)
      · rw [if_pos c3] at hm
        refine Ev.fgt (lv' := [some (.ref 130), none, some (.int v2), some (.int v3), none, some (.int v5)]) ⟨rfl, rfl, rfl, rfl, trivial⟩ ?_
        exact bpX11_hasWay_130_50 x k16 hk16 S v2 v3 v5 _ _ hm
      · rw [if_neg c3] at hm
        obtain ⟨o4, hm⟩ := oblk hm
        refine Ev.steps tokX11_hasWay 6 (P := vp_in v5 120 ∧ True) (pc' := if 1000000 ≤ (S.2.1 148 v5.toNatClampNeg) then 54 else 40) (lv' := [some (.ref 130), none, some (.int v2), some (.int v3), some (.int v4), some (.int v5)]) (st' := []) (h' := mkS x S) rfl ⟨inb_ok o4, trivial⟩ ?_
        refine Ev.ite (fun c5 => ?_) (fun c5 => ?_)
        · rw [if_pos c5] at hm
          refine Ev.fgt (lv' := [some (.ref 130), none, some (.int v2), some (.int v3), none, some (.int v5)]) ⟨rfl, rfl, rfl, rfl, trivial⟩ ?_
          exact bpX11_hasWay_130_54 x k16 hk16 S v2 v3 v5 _ _ hm
        · rw [if_neg c5] at hm
          refine Ev.steps tokX11_hasWay 3 (P := True) (pc' := 44) (lv' := [some (.ref 130), none, some (.int v2), some (.int v3), some (.int v4), some (.int v5)]) (st' := [.int v3, .int v2, .int v5]) (h' := mkS x S) rfl trivial ?_
          cases h6 : gfX11_isGoal x S v5 v2 v3 with
          | none => rw [h6] at hm; cases hm
          | some q7 =>
            obtain ⟨r8, S9⟩ := q7
            rw [h6] at hm
            dsimp only at hm
            refine ev_callS (N := mX11_isGoal) (d' := 1) (bc := 0) (bs := 0) (bc' := 0) (bs' := 0) (as := [.int v5, .int v2, .int v3]) (rest := []) (dcd tokX11_hasWay rfl) okX11_isGoal inX11_isGoal lk11_386 rfl (by decide) (Nat.le_of_ble_eq_true rfl) (gpX11_isGoal x S v5 v2 v3 _ _ h6) (fun v h' hq hn => ?_)
            obtain ⟨rfl, rfl⟩ := hq
            refine Ev.steps tokX11_hasWay 1 (P := True) (pc' := if r8 = 0 then 54 else 50) (lv' := [some (.ref 130), none, some (.int v2), some (.int v3), some (.int v4), some (.int v5)]) (st' := []) (h' := mkS x S9) rfl trivial ?_
            refine Ev.ite (fun c10 => ?_) (fun c10 => ?_)
            · rw [if_pos c10] at hm
              refine Ev.fgt (lv' := [some (.ref 130), none, some (.int v2), some (.int v3), none, some (.int v5)]) ⟨rfl, rfl, rfl, rfl, trivial⟩ ?_
              exact bpX11_hasWay_130_54 x k16 hk16 S9 v2 v3 v5 _ _ hm
            · rw [if_neg c10] at hm
              refine Ev.fgt (lv' := [some (.ref 130), none, some (.int v2), some (.int v3), none, some (.int v5)]) ⟨rfl, rfl, rfl, rfl, trivial⟩ ?_
              exact bpX11_hasWay_130_50 x k16 hk16 S9 v2 v3 v5 _ _ hm
theorem lpX11_hasWay_130_16 (x : XT)  : ∀ (n : Nat) (S : ST) (v2 : Int32) (v3 : Int32) (v4 : Int32) (v5 : Int32) (r : Int32) (S' : ST), lfX11_hasWay_130_16 x  n S v2 v3 v4 v5 = some (r, S') → Ev mX11_hasWay 3 0 0 16 [some (.ref 130), none, some (.int v2), some (.int v3), some (.int v4), some (.int v5)] [] (mkS x S) (fun v h => v = some (.int r) ∧ h = mkS x S')
  | 0, _, _, _, _, _, _, _, hm => by cases hm
  | n + 1, S, v2, v3, v4, v5, r, S', hm => bpX11_hasWay_130_16 x (lfX11_hasWay_130_16 x  n) (lpX11_hasWay_130_16 x  n) S v2 v3 v4 v5 r S' hm
set_option maxHeartbeats 4000000 in
set_option maxRecDepth 20000 in
theorem bpX11_hasWay_130_0 (x : XT)  (S : ST) (p1 : Int32) (p2 : Int32) (p3 : Int32) (r : Int32) (S' : ST) (hm : bfX11_hasWay_130_0 x  S p1 p2 p3 = some (r, S')) : Ev mX11_hasWay 3 0 0 0 [some (.ref 130), some (.int p1), some (.int p2), some (.int p3), none, none] [] (mkS x S) (fun v h => v = some (.int r) ∧ h = mkS x S') := by
    unfold bfX11_hasWay_130_0 at hm
    refine Ev.steps tokX11_hasWay 3 (P := True) (pc' := 3) (lv' := [some (.ref 130), some (.int p1), some (.int p2), some (.int p3), none, none]) (st' := [.int p1, .ref 130, .ref 130]) (h' := mkS x S) rfl trivial ?_
    cases h1 : gfX11_placeOf_130 x S p1 with
    | none => rw [h1] at hm; cases hm
    | some q2 =>
      obtain ⟨r3, S4⟩ := q2
      rw [h1] at hm
      dsimp only at hm
      refine ev_callV (N := mX11_placeOf) (d' := 1) (bc := 0) (bs := 0) (bc' := 0) (bs' := 0) (as := [.int p1]) (rest := [.ref 130]) (a := 130) (ci := 11) (dcd tokX11_hasWay rfl) okX11_placeOf inX11_placeOf seX11_placeOf lk11_402 rfl (by decide) (Nat.le_of_ble_eq_true rfl) rfl ⟨by decide, rfl⟩ (gpX11_placeOf_130 x S p1 _ _ h1) (fun v h' hq hn => ?_)
      obtain ⟨rfl, rfl⟩ := hq
      refine Ev.steps tokX11_hasWay 1 (P := True) (pc' := 7) (lv' := [some (.ref 130), some (.int p1), some (.int p2), some (.int p3), none, none]) (st' := [.int 0, .int r3, .ref 130]) (h' := mkS x S4) rfl trivial ?_
      cases h5 : gfX11_laysGone_130 x S4 r3 0 with
      | none => rw [h5] at hm; cases hm
      | some q6 =>
        obtain ⟨r7, S8⟩ := q6
        rw [h5] at hm
        dsimp only at hm
        refine ev_callV (N := mX11_laysGone) (d' := 2) (bc := 0) (bs := 0) (bc' := 0) (bs' := 0) (as := [.int r3, .int 0]) (rest := []) (a := 130) (ci := 11) (dcd tokX11_hasWay rfl) okX11_laysGone inX11_laysGone seX11_laysGone lk11_412 rfl (by decide) (Nat.le_of_ble_eq_true rfl) rfl ⟨by decide, rfl⟩ (gpX11_laysGone_130 x S4 r3 0 _ _ h5) (fun v h' hq hn => ?_)
        obtain ⟨rfl, rfl⟩ := hq
        refine Ev.steps tokX11_hasWay 4 (P := True) (pc' := 16) (lv' := [some (.ref 130), some (.int p1), some (.int p2), some (.int p3), some (.int 0), some (.int 0)]) (st' := []) (h' := mkS x S8) rfl trivial ?_
        refine Ev.fgt (lv' := [some (.ref 130), none, some (.int p2), some (.int p3), some (.int 0), some (.int 0)]) ⟨rfl, rfl, rfl, rfl, rfl, trivial⟩ ?_
        exact lpX11_hasWay_130_16 x  20000 S8 p2 p3 0 0 _ _ hm
theorem gpX11_hasWay_130 (x : XT) (S : ST) (p1 : Int32) (p2 : Int32) (p3 : Int32) (r : Int32) (S' : ST) (hm : gfX11_hasWay_130 x S p1 p2 p3 = some (r, S')) : Ct mX11_hasWay 3 0 0 [.ref 130, .int p1, .int p2, .int p3] (mkS x S) (fun v h => v = some (.int r) ∧ h = mkS x S') :=
  Ct.of (lv := [some (.ref 130), some (.int p1), some (.int p2), some (.int p3), none, none]) rfl rfl rfl (show (_ : Nat) ≤ _ from Nat.le_of_ble_eq_true rfl) (fun G => rfl) (bpX11_hasWay_130_0 x S p1 p2 p3 r S' hm)
set_option maxHeartbeats 4000000 in
set_option maxRecDepth 20000 in
theorem bpX11_fixedAt_130_82 (x : XT)  (S : ST) (v1 : Int32) (v2 : Int32) (v5 : Int32) (v6 : Int32) (r : Int32) (S' : ST) (hm : bfX11_fixedAt_130_82 x  S v1 v2 v5 v6 = some (r, S')) : Ev mX11_fixedAt 127 0 0 82 [some (.ref 130), some (.int v1), some (.int v2), none, none, some (.int v5), some (.int v6), none] [] (mkS x S) (fun v h => v = some (.int r) ∧ h = mkS x S') := by
    unfold bfX11_fixedAt_130_82 at hm
    obtain ⟨o1, hm⟩ := oblk hm
    refine Ev.steps tokX11_fixedAt 10 (P := vp_in (15 + v2) 5703 ∧ True) (pc' := 96) (lv' := [some (.ref 130), some (.int v1), some (.int v2), none, none, some (.int v5), some (.int v6), none]) (st' := [.int v2, .int v1, .ref 130]) (h' := mkS x (S.1, (u2 S.2.1 132 ((15 + v2).toNatClampNeg) v5), S.2.2.1, S.2.2.2)) rfl ⟨inb_ok o1, trivial⟩ ?_
    cases h2 : gfX11_laysGate_130 x (S.1, (u2 S.2.1 132 ((15 + v2).toNatClampNeg) v5), S.2.2.1, S.2.2.2) v1 v2 with
    | none => rw [h2] at hm; cases hm
    | some q3 =>
      obtain ⟨r4, S5⟩ := q3
      rw [h2] at hm
      dsimp only at hm
      refine ev_callV (N := mX11_laysGate) (d' := 126) (bc := 0) (bs := 0) (bc' := 0) (bs' := 0) (as := [.int v1, .int v2]) (rest := []) (a := 130) (ci := 11) (dcd tokX11_fixedAt rfl) okX11_laysGate inX11_laysGate seX11_laysGate lk11_383 rfl (by decide) (Nat.le_of_ble_eq_true rfl) rfl ⟨by decide, rfl⟩ (gpX11_laysGate_130 x (S.1, (u2 S.2.1 132 ((15 + v2).toNatClampNeg) v5), S.2.2.1, S.2.2.2) v1 v2 _ _ h2) (fun v h' hq hn => ?_)
      obtain ⟨rfl, rfl⟩ := hq
      refine Ev.steps tokX11_fixedAt 1 (P := True) (pc' := 101) (lv' := [some (.ref 130), some (.int v1), some (.int v2), none, none, some (.int v5), some (.int v6), none]) (st' := [.int v6]) (h' := mkS x S5) rfl trivial ?_
      cases hm
      exact Ev.reti tokX11_fixedAt rfl rfl ⟨rfl, rfl⟩
set_option maxHeartbeats 4000000 in
set_option maxRecDepth 20000 in
theorem bpX11_fixedAt_130_76 (x : XT) (k17 : ST → Int32 → Int32 → Int32 → Int32 → Int32 → Int32 → Int32 → Option (Int32 × ST)) (hk17 : ∀ (S : ST) (v1 : Int32) (v2 : Int32) (v3 : Int32) (v4 : Int32) (v5 : Int32) (v6 : Int32) (v7 : Int32) (r : Int32) (S' : ST), k17 S v1 v2 v3 v4 v5 v6 v7 = some (r, S') → Ev mX11_fixedAt 127 0 0 17 [some (.ref 130), some (.int v1), some (.int v2), some (.int v3), some (.int v4), some (.int v5), some (.int v6), some (.int v7)] [] (mkS x S) (fun v h => v = some (.int r) ∧ h = mkS x S')) (S : ST) (v1 : Int32) (v2 : Int32) (v3 : Int32) (v4 : Int32) (v5 : Int32) (v6 : Int32) (v7 : Int32) (r : Int32) (S' : ST) (hm : bfX11_fixedAt_130_76 x k17 S v1 v2 v3 v4 v5 v6 v7 = some (r, S')) : Ev mX11_fixedAt 127 0 0 76 [some (.ref 130), some (.int v1), some (.int v2), some (.int v3), some (.int v4), some (.int v5), some (.int v6), some (.int v7)] [] (mkS x S) (fun v h => v = some (.int r) ∧ h = mkS x S') := by
    unfold bfX11_fixedAt_130_76 at hm
    refine Ev.steps tokX11_fixedAt 2 (P := True) (pc' := 17) (lv' := [some (.ref 130), some (.int v1), some (.int v2), some (.int v3), some (.int v4), some (.int v5), some (.int v6), some (.int (v7 + 1))]) (st' := []) (h' := mkS x S) rfl trivial ?_
    exact hk17 S v1 v2 v3 v4 v5 v6 (v7 + 1) _ _ hm
set_option maxHeartbeats 4000000 in
set_option maxRecDepth 20000 in
theorem bpX11_fixedAt_130_74 (x : XT) (k17 : ST → Int32 → Int32 → Int32 → Int32 → Int32 → Int32 → Int32 → Option (Int32 × ST)) (hk17 : ∀ (S : ST) (v1 : Int32) (v2 : Int32) (v3 : Int32) (v4 : Int32) (v5 : Int32) (v6 : Int32) (v7 : Int32) (r : Int32) (S' : ST), k17 S v1 v2 v3 v4 v5 v6 v7 = some (r, S') → Ev mX11_fixedAt 127 0 0 17 [some (.ref 130), some (.int v1), some (.int v2), some (.int v3), some (.int v4), some (.int v5), some (.int v6), some (.int v7)] [] (mkS x S) (fun v h => v = some (.int r) ∧ h = mkS x S')) (S : ST) (v1 : Int32) (v2 : Int32) (v3 : Int32) (v4 : Int32) (v5 : Int32) (v7 : Int32) (t0 : Int32) (r : Int32) (S' : ST) (hm : bfX11_fixedAt_130_74 x k17 S v1 v2 v3 v4 v5 v7 t0 = some (r, S')) : Ev mX11_fixedAt 127 0 0 74 [some (.ref 130), some (.int v1), some (.int v2), some (.int v3), some (.int v4), some (.int v5), none, some (.int v7)] [.int t0] (mkS x S) (fun v h => v = some (.int r) ∧ h = mkS x S') := by
    unfold bfX11_fixedAt_130_74 at hm
    refine Ev.steps tokX11_fixedAt 1 (P := True) (pc' := 76) (lv' := [some (.ref 130), some (.int v1), some (.int v2), some (.int v3), some (.int v4), some (.int v5), some (.int t0), some (.int v7)]) (st' := []) (h' := mkS x S) rfl trivial ?_
    exact bpX11_fixedAt_130_76 x k17 hk17 S v1 v2 v3 v4 v5 t0 v7 _ _ hm
set_option maxHeartbeats 4000000 in
set_option maxRecDepth 20000 in
theorem bpX11_fixedAt_130_17 (x : XT) (k17 : ST → Int32 → Int32 → Int32 → Int32 → Int32 → Int32 → Int32 → Option (Int32 × ST)) (hk17 : ∀ (S : ST) (v1 : Int32) (v2 : Int32) (v3 : Int32) (v4 : Int32) (v5 : Int32) (v6 : Int32) (v7 : Int32) (r : Int32) (S' : ST), k17 S v1 v2 v3 v4 v5 v6 v7 = some (r, S') → Ev mX11_fixedAt 127 0 0 17 [some (.ref 130), some (.int v1), some (.int v2), some (.int v3), some (.int v4), some (.int v5), some (.int v6), some (.int v7)] [] (mkS x S) (fun v h => v = some (.int r) ∧ h = mkS x S')) (S : ST) (v1 : Int32) (v2 : Int32) (v3 : Int32) (v4 : Int32) (v5 : Int32) (v6 : Int32) (v7 : Int32) (r : Int32) (S' : ST) (hm : bfX11_fixedAt_130_17 x k17 S v1 v2 v3 v4 v5 v6 v7 = some (r, S')) : Ev mX11_fixedAt 127 0 0 17 [some (.ref 130), some (.int v1), some (.int v2), some (.int v3), some (.int v4), some (.int v5), some (.int v6), some (.int v7)] [] (mkS x S) (fun v h => v = some (.int r) ∧ h = mkS x S') := by
    unfold bfX11_fixedAt_130_17 at hm
    refine Ev.steps tokX11_fixedAt 3 (P := True) (pc' := if 9 < v7 then 82 else 24) (lv' := [some (.ref 130), some (.int v1), some (.int v2), some (.int v3), some (.int v4), some (.int v5), some (.int v6), some (.int v7)]) (st' := []) (h' := mkS x S) rfl trivial ?_
    refine Ev.ite (fun c1 => ?_) (fun c1 => ?_)
    · rw [if_pos c1] at hm
      refine Ev.fgt (lv' := [some (.ref 130), some (.int v1), some (.int v2), none, none, some (.int v5), some (.int v6), none]) ⟨rfl, rfl, rfl, rfl, rfl, trivial⟩ ?_
      exact bpX11_fixedAt_130_82 x S v1 v2 v5 v6 _ _ hm
    · rw [if_neg c1] at hm
      refine Ev.steps tokX11_fixedAt 3 (P := True) (pc' := if ¬ v6 = (-1) then 82 else 30) (lv' := [some (.ref 130), some (.int v1), some (.int v2), some (.int v3), some (.int v4), some (.int v5), some (.int v6), some (.int v7)]) (st' := []) (h' := mkS x S) rfl trivial ?_
      refine Ev.ite (fun c2 => ?_) (fun c2 => ?_)
      · rw [if_pos c2] at hm
        refine Ev.fgt (lv' := [some (.ref 130), some (.int v1), some (.int v2), none, none, some (.int v5), some (.int v6), none]) ⟨rfl, rfl, rfl, rfl, rfl, trivial⟩ ?_
        exact bpX11_fixedAt_130_82 x S v1 v2 v5 v6 _ _ hm
      · rw [if_neg c2] at hm
        refine Ev.steps tokX11_fixedAt 3 (P := True) (pc' := if ¬ v7 = v5 then 40 else 37) (lv' := [some (.ref 130), some (.int v1), some (.int v2), some (.int v3), some (.int v4), some (.int v5), some (.int v6), some (.int v7)]) (st' := []) (h' := mkS x S) rfl trivial ?_
        refine Ev.ite (fun c3 => ?_) (fun c3 => ?_)
        · rw [if_pos c3] at hm
          obtain ⟨o4, hm⟩ := oblk hm
          refine Ev.steps tokX11_fixedAt 10 (P := vp_in (15 + v2) 5703 ∧ True) (pc' := 54) (lv' := [some (.ref 130), some (.int v1), some (.int v2), some (.int v3), some (.int v4), some (.int v5), some (.int v6), some (.int v7)]) (st' := [.int v2, .int v1, .ref 130]) (h' := mkS x (S.1, (u2 S.2.1 132 ((15 + v2).toNatClampNeg) v7), S.2.2.1, S.2.2.2)) rfl ⟨inb_ok o4, trivial⟩ ?_
          cases h5 : gfX11_laysGate_130 x (S.1, (u2 S.2.1 132 ((15 + v2).toNatClampNeg) v7), S.2.2.1, S.2.2.2) v1 v2 with
          | none => rw [h5] at hm; cases hm
          | some q6 =>
            obtain ⟨r7, S8⟩ := q6
            rw [h5] at hm
            dsimp only at hm
            refine ev_callV (N := mX11_laysGate) (d' := 126) (bc := 0) (bs := 0) (bc' := 0) (bs' := 0) (as := [.int v1, .int v2]) (rest := []) (a := 130) (ci := 11) (dcd tokX11_fixedAt rfl) okX11_laysGate inX11_laysGate seX11_laysGate lk11_383 rfl (by decide) (Nat.le_of_ble_eq_true rfl) rfl ⟨by decide, rfl⟩ (gpX11_laysGate_130 x (S.1, (u2 S.2.1 132 ((15 + v2).toNatClampNeg) v7), S.2.2.1, S.2.2.2) v1 v2 _ _ h5) (fun v h' hq hn => ?_)
            obtain ⟨rfl, rfl⟩ := hq
            refine Ev.steps tokX11_fixedAt 4 (P := True) (pc' := 62) (lv' := [some (.ref 130), some (.int v1), some (.int v2), some (.int v3), some (.int v4), some (.int v5), some (.int v6), some (.int v7)]) (st' := [.int v4, .int v3, .int v1, .ref 130]) (h' := mkS x S8) rfl trivial ?_
            cases h9 : gfX11_hasWay_130 x S8 v1 v3 v4 with
            | none => rw [h9] at hm; cases hm
            | some q10 =>
              obtain ⟨r11, S12⟩ := q10
              rw [h9] at hm
              dsimp only at hm
              refine ev_callV (N := mX11_hasWay) (d' := 3) (bc := 0) (bs := 0) (bc' := 0) (bs' := 0) (as := [.int v1, .int v3, .int v4]) (rest := []) (a := 130) (ci := 11) (dcd tokX11_fixedAt rfl) okX11_hasWay inX11_hasWay seX11_hasWay lk11_437 rfl (by decide) (Nat.le_of_ble_eq_true rfl) rfl ⟨by decide, rfl⟩ (gpX11_hasWay_130 x S8 v1 v3 v4 _ _ h9) (fun v h' hq hn => ?_)
              obtain ⟨rfl, rfl⟩ := hq
              refine Ev.steps tokX11_fixedAt 1 (P := True) (pc' := if r11 = 0 then 73 else 68) (lv' := [some (.ref 130), some (.int v1), some (.int v2), some (.int v3), some (.int v4), some (.int v5), some (.int v6), some (.int v7)]) (st' := []) (h' := mkS x S12) rfl trivial ?_
              refine Ev.ite (fun c13 => ?_) (fun c13 => ?_)
              · rw [if_pos c13] at hm
                refine Ev.steps tokX11_fixedAt 1 (P := True) (pc' := 74) (lv' := [some (.ref 130), some (.int v1), some (.int v2), some (.int v3), some (.int v4), some (.int v5), some (.int v6), some (.int v7)]) (st' := [.int (-1)]) (h' := mkS x S12) rfl trivial ?_
                refine Ev.fgt (lv' := [some (.ref 130), some (.int v1), some (.int v2), some (.int v3), some (.int v4), some (.int v5), none, some (.int v7)]) ⟨rfl, rfl, rfl, rfl, rfl, rfl, rfl, trivial⟩ ?_
                exact bpX11_fixedAt_130_74 x k17 hk17 S12 v1 v2 v3 v4 v5 v7 (-1) _ _ hm
              · rw [if_neg c13] at hm
                refine Ev.steps tokX11_fixedAt 2 (P := True) (pc' := 74) (lv' := [some (.ref 130), some (.int v1), some (.int v2), some (.int v3), some (.int v4), some (.int v5), some (.int v6), some (.int v7)]) (st' := [.int v7]) (h' := mkS x S12) rfl trivial ?_
                refine Ev.fgt (lv' := [some (.ref 130), some (.int v1), some (.int v2), some (.int v3), some (.int v4), some (.int v5), none, some (.int v7)]) ⟨rfl, rfl, rfl, rfl, rfl, rfl, rfl, trivial⟩ ?_
                exact bpX11_fixedAt_130_74 x k17 hk17 S12 v1 v2 v3 v4 v5 v7 v7 _ _ hm
        · rw [if_neg c3] at hm
          refine Ev.steps tokX11_fixedAt 1 (P := True) (pc' := 76) (lv' := [some (.ref 130), some (.int v1), some (.int v2), some (.int v3), some (.int v4), some (.int v5), some (.int v6), some (.int v7)]) (st' := []) (h' := mkS x S) rfl trivial ?_
          exact bpX11_fixedAt_130_76 x k17 hk17 S v1 v2 v3 v4 v5 v6 v7 _ _ hm
theorem lpX11_fixedAt_130_17 (x : XT)  : ∀ (n : Nat) (S : ST) (v1 : Int32) (v2 : Int32) (v3 : Int32) (v4 : Int32) (v5 : Int32) (v6 : Int32) (v7 : Int32) (r : Int32) (S' : ST), lfX11_fixedAt_130_17 x  n S v1 v2 v3 v4 v5 v6 v7 = some (r, S') → Ev mX11_fixedAt 127 0 0 17 [some (.ref 130), some (.int v1), some (.int v2), some (.int v3), some (.int v4), some (.int v5), some (.int v6), some (.int v7)] [] (mkS x S) (fun v h => v = some (.int r) ∧ h = mkS x S')
  | 0, _, _, _, _, _, _, _, _, _, _, hm => by cases hm
  | n + 1, S, v1, v2, v3, v4, v5, v6, v7, r, S', hm => bpX11_fixedAt_130_17 x (lfX11_fixedAt_130_17 x  n) (lpX11_fixedAt_130_17 x  n) S v1 v2 v3 v4 v5 v6 v7 r S' hm
set_option maxHeartbeats 4000000 in
set_option maxRecDepth 20000 in
theorem bpX11_fixedAt_130_0 (x : XT)  (S : ST) (p1 : Int32) (p2 : Int32) (p3 : Int32) (p4 : Int32) (r : Int32) (S' : ST) (hm : bfX11_fixedAt_130_0 x  S p1 p2 p3 p4 = some (r, S')) : Ev mX11_fixedAt 127 0 0 0 [some (.ref 130), some (.int p1), some (.int p2), some (.int p3), some (.int p4), none, none, none] [] (mkS x S) (fun v h => v = some (.int r) ∧ h = mkS x S') := by
    unfold bfX11_fixedAt_130_0 at hm
    obtain ⟨o1, hm⟩ := oblk hm
    refine Ev.steps tokX11_fixedAt 11 (P := vp_in (15 + p2) 5703 ∧ True) (pc' := 17) (lv' := [some (.ref 130), some (.int p1), some (.int p2), some (.int p3), some (.int p4), some (.int (S.2.1 132 ((15 + p2).toNatClampNeg))), some (.int (-1)), some (.int 0)]) (st' := []) (h' := mkS x S) rfl ⟨inb_ok o1, trivial⟩ ?_
    exact lpX11_fixedAt_130_17 x  20000 S p1 p2 p3 p4 (S.2.1 132 ((15 + p2).toNatClampNeg)) (-1) 0 _ _ hm
theorem gpX11_fixedAt_130 (x : XT) (S : ST) (p1 : Int32) (p2 : Int32) (p3 : Int32) (p4 : Int32) (r : Int32) (S' : ST) (hm : gfX11_fixedAt_130 x S p1 p2 p3 p4 = some (r, S')) : Ct mX11_fixedAt 127 0 0 [.ref 130, .int p1, .int p2, .int p3, .int p4] (mkS x S) (fun v h => v = some (.int r) ∧ h = mkS x S') :=
  Ct.of (lv := [some (.ref 130), some (.int p1), some (.int p2), some (.int p3), some (.int p4), none, none, none]) rfl rfl rfl (show (_ : Nat) ≤ _ from Nat.le_of_ble_eq_true rfl) (fun G => rfl) (bpX11_fixedAt_130_0 x S p1 p2 p3 p4 r S' hm)
set_option maxHeartbeats 4000000 in
set_option maxRecDepth 20000 in
theorem bpX11_fixed_130_16 (x : XT)  (S : ST)  (r : Int32) (S' : ST) (hm : bfX11_fixed_130_16 x  S  = some (r, S')) : Ev mX11_fixed 128 0 0 16 [none, none, none, none, none, none] [] (mkS x S) (fun v h => v = some (.int r) ∧ h = mkS x S') := by
    unfold bfX11_fixed_130_16 at hm
    refine Ev.steps tokX11_fixed 1 (P := True) (pc' := 17) (lv' := [none, none, none, none, none, none]) (st' := [.int (-1)]) (h' := mkS x S) rfl trivial ?_
    cases hm
    exact Ev.reti tokX11_fixed rfl rfl ⟨rfl, rfl⟩
set_option maxHeartbeats 4000000 in
set_option maxRecDepth 20000 in
theorem bpX11_fixed_130_39 (x : XT) (k39 : ST → Int32 → Int32 → Int32 → Int32 → Option (Int32 × ST)) (hk39 : ∀ (S : ST) (v1 : Int32) (v2 : Int32) (v3 : Int32) (v4 : Int32) (r : Int32) (S' : ST), k39 S v1 v2 v3 v4 = some (r, S') → Ev mX11_fixed 128 0 0 39 [some (.ref 130), some (.int v1), some (.int v2), some (.int v3), some (.int v4), none] [] (mkS x S) (fun v h => v = some (.int r) ∧ h = mkS x S')) (S : ST) (v1 : Int32) (v2 : Int32) (v3 : Int32) (v4 : Int32) (r : Int32) (S' : ST) (hm : bfX11_fixed_130_39 x k39 S v1 v2 v3 v4 = some (r, S')) : Ev mX11_fixed 128 0 0 39 [some (.ref 130), some (.int v1), some (.int v2), some (.int v3), some (.int v4), none] [] (mkS x S) (fun v h => v = some (.int r) ∧ h = mkS x S') := by
    unfold bfX11_fixed_130_39 at hm
    refine Ev.steps tokX11_fixed 2 (P := True) (pc' := 42) (lv' := [some (.ref 130), some (.int v1), some (.int v2), some (.int v3), some (.int v4), none]) (st' := [.ref 130, .int v4]) (h' := mkS x S) rfl trivial ?_
    cases h1 : gfX11_gateMany_130 x S with
    | none => rw [h1] at hm; cases hm
    | some q2 =>
      obtain ⟨r3, S4⟩ := q2
      rw [h1] at hm
      dsimp only at hm
      refine ev_callV (N := mX11_gateMany) (d' := 1) (bc := 0) (bs := 0) (bc' := 0) (bs' := 0) (as := []) (rest := [.int v4]) (a := 130) (ci := 11) (dcd tokX11_fixed rfl) okX11_gateMany inX11_gateMany seX11_gateMany lk11_124 rfl (by decide) (Nat.le_of_ble_eq_true rfl) rfl ⟨by decide, rfl⟩ (gpX11_gateMany_130 x S _ _ h1) (fun v h' hq hn => ?_)
      obtain ⟨rfl, rfl⟩ := hq
      refine Ev.steps tokX11_fixed 1 (P := True) (pc' := if r3 ≤ v4 then 80 else 48) (lv' := [some (.ref 130), some (.int v1), some (.int v2), some (.int v3), some (.int v4), none]) (st' := []) (h' := mkS x S4) rfl trivial ?_
      refine Ev.ite (fun c5 => ?_) (fun c5 => ?_)
      · rw [if_pos c5] at hm
        refine Ev.steps tokX11_fixed 1 (P := True) (pc' := 81) (lv' := [some (.ref 130), some (.int v1), some (.int v2), some (.int v3), some (.int v4), none]) (st' := [.int (-1)]) (h' := mkS x S4) rfl trivial ?_
        cases hm
        exact Ev.reti tokX11_fixed rfl rfl ⟨rfl, rfl⟩
      · rw [if_neg c5] at hm
        refine Ev.steps tokX11_fixed 5 (P := True) (pc' := 54) (lv' := [some (.ref 130), some (.int v1), some (.int v2), some (.int v3), some (.int v4), none]) (st' := [.int v3, .int v2, .int v4, .int v1, .ref 130]) (h' := mkS x S4) rfl trivial ?_
        cases h6 : gfX11_fixedAt_130 x S4 v1 v4 v2 v3 with
        | none => rw [h6] at hm; cases hm
        | some q7 =>
          obtain ⟨r8, S9⟩ := q7
          rw [h6] at hm
          dsimp only at hm
          refine ev_callV (N := mX11_fixedAt) (d' := 127) (bc := 0) (bs := 0) (bc' := 0) (bs' := 0) (as := [.int v1, .int v4, .int v2, .int v3]) (rest := []) (a := 130) (ci := 11) (dcd tokX11_fixed rfl) okX11_fixedAt inX11_fixedAt seX11_fixedAt lk11_440 rfl (by decide) (Nat.le_of_ble_eq_true rfl) rfl ⟨by decide, rfl⟩ (gpX11_fixedAt_130 x S4 v1 v4 v2 v3 _ _ h6) (fun v h' hq hn => ?_)
          obtain ⟨rfl, rfl⟩ := hq
          refine Ev.steps tokX11_fixed 4 (P := True) (pc' := if r8 = (-1) then 74 else 65) (lv' := [some (.ref 130), some (.int v1), some (.int v2), some (.int v3), some (.int v4), some (.int r8)]) (st' := []) (h' := mkS x S9) rfl trivial ?_
          refine Ev.ite (fun c10 => ?_) (fun c10 => ?_)
          · rw [if_pos c10] at hm
            refine Ev.steps tokX11_fixed 2 (P := True) (pc' := 39) (lv' := [some (.ref 130), some (.int v1), some (.int v2), some (.int v3), some (.int (v4 + 1)), some (.int r8)]) (st' := []) (h' := mkS x S9) rfl trivial ?_
            refine Ev.fgt (lv' := [some (.ref 130), some (.int v1), some (.int v2), some (.int v3), some (.int (v4 + 1)), none]) ⟨rfl, rfl, rfl, rfl, rfl, trivial⟩ ?_
            exact hk39 S9 v1 v2 v3 (v4 + 1) _ _ hm
          · rw [if_neg c10] at hm
            refine Ev.steps tokX11_fixed 5 (P := True) (pc' := 73) (lv' := [some (.ref 130), some (.int v1), some (.int v2), some (.int v3), some (.int v4), some (.int r8)]) (st' := [.int ((10 * v4) + r8)]) (h' := mkS x S9) rfl trivial ?_
            cases hm
            exact Ev.reti tokX11_fixed rfl rfl ⟨rfl, rfl⟩
theorem lpX11_fixed_130_39 (x : XT)  : ∀ (n : Nat) (S : ST) (v1 : Int32) (v2 : Int32) (v3 : Int32) (v4 : Int32) (r : Int32) (S' : ST), lfX11_fixed_130_39 x  n S v1 v2 v3 v4 = some (r, S') → Ev mX11_fixed 128 0 0 39 [some (.ref 130), some (.int v1), some (.int v2), some (.int v3), some (.int v4), none] [] (mkS x S) (fun v h => v = some (.int r) ∧ h = mkS x S')
  | 0, _, _, _, _, _, _, _, hm => by cases hm
  | n + 1, S, v1, v2, v3, v4, r, S', hm => bpX11_fixed_130_39 x (lfX11_fixed_130_39 x  n) (lpX11_fixed_130_39 x  n) S v1 v2 v3 v4 r S' hm
set_option maxHeartbeats 4000000 in
set_option maxRecDepth 20000 in
theorem bpX11_fixed_130_0 (x : XT)  (S : ST) (p1 : Int32) (p2 : Int32) (p3 : Int32) (r : Int32) (S' : ST) (hm : bfX11_fixed_130_0 x  S p1 p2 p3 = some (r, S')) : Ev mX11_fixed 128 0 0 0 [some (.ref 130), some (.int p1), some (.int p2), some (.int p3), none, none] [] (mkS x S) (fun v h => v = some (.int r) ∧ h = mkS x S') := by
    unfold bfX11_fixed_130_0 at hm
    refine Ev.steps tokX11_fixed 2 (P := True) (pc' := 2) (lv' := [some (.ref 130), some (.int p1), some (.int p2), some (.int p3), none, none]) (st' := [.int p1, .ref 130]) (h' := mkS x S) rfl trivial ?_
    cases h1 : gfX11_isGoer_130 x S p1 with
    | none => rw [h1] at hm; cases hm
    | some q2 =>
      obtain ⟨r3, S4⟩ := q2
      rw [h1] at hm
      dsimp only at hm
      refine ev_callV (N := mX11_isGoer) (d' := 2) (bc := 0) (bs := 0) (bc' := 0) (bs' := 0) (as := [.int p1]) (rest := []) (a := 130) (ci := 11) (dcd tokX11_fixed rfl) okX11_isGoer inX11_isGoer seX11_isGoer lk11_149 rfl (by decide) (Nat.le_of_ble_eq_true rfl) rfl ⟨by decide, rfl⟩ (gpX11_isGoer_130 x S p1 _ _ h1) (fun v h' hq hn => ?_)
      obtain ⟨rfl, rfl⟩ := hq
      refine Ev.steps tokX11_fixed 1 (P := True) (pc' := if r3 = 0 then 16 else 8) (lv' := [some (.ref 130), some (.int p1), some (.int p2), some (.int p3), none, none]) (st' := []) (h' := mkS x S4) rfl trivial ?_
      refine Ev.ite (fun c5 => ?_) (fun c5 => ?_)
      · rw [if_pos c5] at hm
        refine Ev.fgt (lv' := [none, none, none, none, none, none]) trivial ?_
        exact bpX11_fixed_130_16 x S4 _ _ hm
      · rw [if_neg c5] at hm
        refine Ev.steps tokX11_fixed 2 (P := True) (pc' := 10) (lv' := [some (.ref 130), some (.int p1), some (.int p2), some (.int p3), none, none]) (st' := [.int p3, .int p2]) (h' := mkS x S4) rfl trivial ?_
        cases h6 : gfX11_canBeGoal x S4 p2 p3 with
        | none => rw [h6] at hm; cases hm
        | some q7 =>
          obtain ⟨r8, S9⟩ := q7
          rw [h6] at hm
          dsimp only at hm
          refine ev_callS (N := mX11_canBeGoal) (d' := 3) (bc := 0) (bs := 0) (bc' := 0) (bs' := 0) (as := [.int p2, .int p3]) (rest := []) (dcd tokX11_fixed rfl) okX11_canBeGoal inX11_canBeGoal lk11_392 rfl (by decide) (Nat.le_of_ble_eq_true rfl) (gpX11_canBeGoal x S4 p2 p3 _ _ h6) (fun v h' hq hn => ?_)
          obtain ⟨rfl, rfl⟩ := hq
          refine Ev.steps tokX11_fixed 1 (P := True) (pc' := if ¬ r8 = 0 then 18 else 16) (lv' := [some (.ref 130), some (.int p1), some (.int p2), some (.int p3), none, none]) (st' := []) (h' := mkS x S9) rfl trivial ?_
          refine Ev.ite (fun c10 => ?_) (fun c10 => ?_)
          · rw [if_pos c10] at hm
            refine Ev.steps tokX11_fixed 2 (P := True) (pc' := 20) (lv' := [some (.ref 130), some (.int p1), some (.int p2), some (.int p3), none, none]) (st' := [.int p1, .ref 130]) (h' := mkS x S9) rfl trivial ?_
            cases h11 : gfX11_laysOut_130 x S9 p1 with
            | none => rw [h11] at hm; cases hm
            | some q12 =>
              obtain ⟨r13, S14⟩ := q12
              rw [h11] at hm
              dsimp only at hm
              refine ev_callV (N := mX11_laysOut) (d' := 127) (bc := 0) (bs := 0) (bc' := 0) (bs' := 0) (as := [.int p1]) (rest := []) (a := 130) (ci := 11) (dcd tokX11_fixed rfl) okX11_laysOut inX11_laysOut seX11_laysOut lk11_395 rfl (by decide) (Nat.le_of_ble_eq_true rfl) rfl ⟨by decide, rfl⟩ (gpX11_laysOut_130 x S9 p1 _ _ h11) (fun v h' hq hn => ?_)
              obtain ⟨rfl, rfl⟩ := hq
              refine Ev.steps tokX11_fixed 4 (P := True) (pc' := 27) (lv' := [some (.ref 130), some (.int p1), some (.int p2), some (.int p3), none, none]) (st' := [.int p3, .int p2, .int p1, .ref 130]) (h' := mkS x S14) rfl trivial ?_
              cases h15 : gfX11_hasWay_130 x S14 p1 p2 p3 with
              | none => rw [h15] at hm; cases hm
              | some q16 =>
                obtain ⟨r17, S18⟩ := q16
                rw [h15] at hm
                dsimp only at hm
                refine ev_callV (N := mX11_hasWay) (d' := 3) (bc := 0) (bs := 0) (bc' := 0) (bs' := 0) (as := [.int p1, .int p2, .int p3]) (rest := []) (a := 130) (ci := 11) (dcd tokX11_fixed rfl) okX11_hasWay inX11_hasWay seX11_hasWay lk11_437 rfl (by decide) (Nat.le_of_ble_eq_true rfl) rfl ⟨by decide, rfl⟩ (gpX11_hasWay_130 x S14 p1 p2 p3 _ _ h15) (fun v h' hq hn => ?_)
                obtain ⟨rfl, rfl⟩ := hq
                refine Ev.steps tokX11_fixed 1 (P := True) (pc' := if r17 = 0 then 36 else 33) (lv' := [some (.ref 130), some (.int p1), some (.int p2), some (.int p3), none, none]) (st' := []) (h' := mkS x S18) rfl trivial ?_
                refine Ev.ite (fun c19 => ?_) (fun c19 => ?_)
                · rw [if_pos c19] at hm
                  refine Ev.steps tokX11_fixed 2 (P := True) (pc' := 39) (lv' := [some (.ref 130), some (.int p1), some (.int p2), some (.int p3), some (.int 0), none]) (st' := []) (h' := mkS x S18) rfl trivial ?_
                  exact lpX11_fixed_130_39 x  20000 S18 p1 p2 p3 0 _ _ hm
                · rw [if_neg c19] at hm
                  refine Ev.steps tokX11_fixed 1 (P := True) (pc' := 35) (lv' := [some (.ref 130), some (.int p1), some (.int p2), some (.int p3), none, none]) (st' := [.int 100]) (h' := mkS x S18) rfl trivial ?_
                  cases hm
                  exact Ev.reti tokX11_fixed rfl rfl ⟨rfl, rfl⟩
          · rw [if_neg c10] at hm
            refine Ev.fgt (lv' := [none, none, none, none, none, none]) trivial ?_
            exact bpX11_fixed_130_16 x S9 _ _ hm
theorem gpX11_fixed_130 (x : XT) (S : ST) (p1 : Int32) (p2 : Int32) (p3 : Int32) (r : Int32) (S' : ST) (hm : gfX11_fixed_130 x S p1 p2 p3 = some (r, S')) : Ct mX11_fixed 128 0 0 [.ref 130, .int p1, .int p2, .int p3] (mkS x S) (fun v h => v = some (.int r) ∧ h = mkS x S') :=
  Ct.of (lv := [some (.ref 130), some (.int p1), some (.int p2), some (.int p3), none, none]) rfl rfl rfl (show (_ : Nat) ≤ _ from Nat.le_of_ble_eq_true rfl) (fun G => rfl) (bpX11_fixed_130_0 x S p1 p2 p3 r S' hm)
end MIR
