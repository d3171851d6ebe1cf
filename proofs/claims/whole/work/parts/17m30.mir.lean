section MIR
set_option maxHeartbeats 4000000 in
set_option maxRecDepth 20000 in
theorem bpX11_cut_130_36 (x : XT)  (S : ST)  (r : Int32) (S' : ST) (hm : bfX11_cut_130_36 x  S  = some (r, S')) : Ev mX11_cut 128 0 0 36 [none, none, none, none, none, none, none] [] (mkS x S) (fun v h => v = some (.int r) ∧ h = mkS x S') := by
    unfold bfX11_cut_130_36 at hm
    refine Ev.steps tokX11_cut 1 (P := True) (pc' := 37) (lv' := [none, none, none, none, none, none, none]) (st' := [.int (-1)]) (h' := mkS x S) rfl trivial ?_
    cases hm
    exact Ev.reti tokX11_cut rfl rfl ⟨rfl, rfl⟩
set_option maxHeartbeats 4000000 in
set_option maxRecDepth 20000 in
theorem bpX11_cut_130_175 (x : XT)  (S : ST) (t0 : Int32) (r : Int32) (S' : ST) (hm : bfX11_cut_130_175 x  S t0 = some (r, S')) : Ev mX11_cut 128 0 0 175 [none, none, none, none, none, none, none] [.int t0] (mkS x S) (fun v h => v = some (.int r) ∧ h = mkS x S') := by
    unfold bfX11_cut_130_175 at hm
    cases hm
    exact Ev.reti tokX11_cut rfl rfl ⟨rfl, rfl⟩
set_option maxHeartbeats 4000000 in
set_option maxRecDepth 20000 in
theorem bpX11_cut_130_155 (x : XT) (k88 : ST → Int32 → Int32 → Int32 → Int32 → Int32 → Int32 → Option (Int32 × ST)) (hk88 : ∀ (S : ST) (v1 : Int32) (v2 : Int32) (v3 : Int32) (v4 : Int32) (v5 : Int32) (v6 : Int32) (r : Int32) (S' : ST), k88 S v1 v2 v3 v4 v5 v6 = some (r, S') → Ev mX11_cut 128 0 0 88 [some (.ref 130), some (.int v1), some (.int v2), some (.int v3), some (.int v4), some (.int v5), some (.int v6)] [] (mkS x S) (fun v h => v = some (.int r) ∧ h = mkS x S')) (S : ST) (v1 : Int32) (v2 : Int32) (v3 : Int32) (v4 : Int32) (v5 : Int32) (v6 : Int32) (r : Int32) (S' : ST) (hm : bfX11_cut_130_155 x k88 S v1 v2 v3 v4 v5 v6 = some (r, S')) : Ev mX11_cut 128 0 0 155 [some (.ref 130), some (.int v1), some (.int v2), some (.int v3), some (.int v4), some (.int v5), some (.int v6)] [] (mkS x S) (fun v h => v = some (.int r) ∧ h = mkS x S') := by
    unfold bfX11_cut_130_155 at hm
    refine Ev.steps tokX11_cut 2 (P := True) (pc' := 88) (lv' := [some (.ref 130), some (.int v1), some (.int v2), some (.int v3), some (.int v4), some (.int v5), some (.int (v6 + 1))]) (st' := []) (h' := mkS x S) rfl trivial ?_
    exact hk88 S v1 v2 v3 v4 v5 (v6 + 1) _ _ hm
set_option maxHeartbeats 4000000 in
set_option maxRecDepth 20000 in
theorem bpX11_cut_130_153 (x : XT) (k88 : ST → Int32 → Int32 → Int32 → Int32 → Int32 → Int32 → Option (Int32 × ST)) (hk88 : ∀ (S : ST) (v1 : Int32) (v2 : Int32) (v3 : Int32) (v4 : Int32) (v5 : Int32) (v6 : Int32) (r : Int32) (S' : ST), k88 S v1 v2 v3 v4 v5 v6 = some (r, S') → Ev mX11_cut 128 0 0 88 [some (.ref 130), some (.int v1), some (.int v2), some (.int v3), some (.int v4), some (.int v5), some (.int v6)] [] (mkS x S) (fun v h => v = some (.int r) ∧ h = mkS x S')) (S : ST) (v1 : Int32) (v2 : Int32) (v3 : Int32) (v4 : Int32) (v6 : Int32) (t0 : Int32) (r : Int32) (S' : ST) (hm : bfX11_cut_130_153 x k88 S v1 v2 v3 v4 v6 t0 = some (r, S')) : Ev mX11_cut 128 0 0 153 [some (.ref 130), some (.int v1), some (.int v2), some (.int v3), some (.int v4), none, some (.int v6)] [.int t0] (mkS x S) (fun v h => v = some (.int r) ∧ h = mkS x S') := by
    unfold bfX11_cut_130_153 at hm
    refine Ev.steps tokX11_cut 1 (P := True) (pc' := 155) (lv' := [some (.ref 130), some (.int v1), some (.int v2), some (.int v3), some (.int v4), some (.int t0), some (.int v6)]) (st' := []) (h' := mkS x S) rfl trivial ?_
    exact bpX11_cut_130_155 x k88 hk88 S v1 v2 v3 v4 t0 v6 _ _ hm
set_option maxHeartbeats 4000000 in
set_option maxRecDepth 20000 in
theorem bpX11_cut_130_127 (x : XT) (k88 : ST → Int32 → Int32 → Int32 → Int32 → Int32 → Int32 → Option (Int32 × ST)) (hk88 : ∀ (S : ST) (v1 : Int32) (v2 : Int32) (v3 : Int32) (v4 : Int32) (v5 : Int32) (v6 : Int32) (r : Int32) (S' : ST), k88 S v1 v2 v3 v4 v5 v6 = some (r, S') → Ev mX11_cut 128 0 0 88 [some (.ref 130), some (.int v1), some (.int v2), some (.int v3), some (.int v4), some (.int v5), some (.int v6)] [] (mkS x S) (fun v h => v = some (.int r) ∧ h = mkS x S')) (S : ST) (v1 : Int32) (v2 : Int32) (v3 : Int32) (v4 : Int32) (v5 : Int32) (v6 : Int32) (r : Int32) (S' : ST) (hm : bfX11_cut_130_127 x k88 S v1 v2 v3 v4 v5 v6 = some (r, S')) : Ev mX11_cut 128 0 0 127 [some (.ref 130), some (.int v1), some (.int v2), some (.int v3), some (.int v4), some (.int v5), some (.int v6)] [] (mkS x S) (fun v h => v = some (.int r) ∧ h = mkS x S') := by
    unfold bfX11_cut_130_127 at hm
    refine Ev.steps tokX11_cut 3 (P := True) (pc' := 130) (lv' := [some (.ref 130), some (.int v1), some (.int v2), some (.int v3), some (.int v4), some (.int v5), some (.int v6)]) (st' := [.int v1, .ref 130, .ref 130]) (h' := mkS x S) rfl trivial ?_
    cases h1 : gfX11_placeOf_130 x S v1 with
    | none => rw [h1] at hm; cases hm
    | some q2 =>
      obtain ⟨r3, S4⟩ := q2
      rw [h1] at hm
      dsimp only at hm
      refine ev_callV (N := mX11_placeOf) (d' := 1) (bc := 0) (bs := 0) (bc' := 0) (bs' := 0) (as := [.int v1]) (rest := [.ref 130]) (a := 130) (ci := 11) (dcd tokX11_cut rfl) okX11_placeOf inX11_placeOf seX11_placeOf lk11_402 rfl (by decide) (Nat.le_of_ble_eq_true rfl) rfl ⟨by decide, rfl⟩ (gpX11_placeOf_130 x S v1 _ _ h1) (fun v h' hq hn => ?_)
      obtain ⟨rfl, rfl⟩ := hq
      refine Ev.steps tokX11_cut 1 (P := True) (pc' := 135) (lv' := [some (.ref 130), some (.int v1), some (.int v2), some (.int v3), some (.int v4), some (.int v5), some (.int v6)]) (st' := [.int v6, .int r3, .ref 130]) (h' := mkS x S4) rfl trivial ?_
      cases h5 : gfX11_laysGone_130 x S4 r3 v6 with
      | none => rw [h5] at hm; cases hm
      | some q6 =>
        obtain ⟨r7, S8⟩ := q6
        rw [h5] at hm
        dsimp only at hm
        refine ev_callV (N := mX11_laysGone) (d' := 2) (bc := 0) (bs := 0) (bc' := 0) (bs' := 0) (as := [.int r3, .int v6]) (rest := []) (a := 130) (ci := 11) (dcd tokX11_cut rfl) okX11_laysGone inX11_laysGone seX11_laysGone lk11_412 rfl (by decide) (Nat.le_of_ble_eq_true rfl) rfl ⟨by decide, rfl⟩ (gpX11_laysGone_130 x S4 r3 v6 _ _ h5) (fun v h' hq hn => ?_)
        obtain ⟨rfl, rfl⟩ := hq
        refine Ev.steps tokX11_cut 2 (P := True) (pc' := 140) (lv' := [some (.ref 130), some (.int v1), some (.int v2), some (.int v3), some (.int v4), some (.int v5), some (.int v6)]) (st' := [.int v2, .ref 130]) (h' := mkS x S8) rfl trivial ?_
        cases h9 : gfX11_comesTo_130 x S8 v2 with
        | none => rw [h9] at hm; cases hm
        | some q10 =>
          obtain ⟨r11, S12⟩ := q10
          rw [h9] at hm
          dsimp only at hm
          refine ev_callV (N := mX11_comesTo) (d' := 1) (bc := 0) (bs := 0) (bc' := 0) (bs' := 0) (as := [.int v2]) (rest := []) (a := 130) (ci := 11) (dcd tokX11_cut rfl) okX11_comesTo inX11_comesTo seX11_comesTo lk11_415 rfl (by decide) (Nat.le_of_ble_eq_true rfl) rfl ⟨by decide, rfl⟩ (gpX11_comesTo_130 x S8 v2 _ _ h9) (fun v h' hq hn => ?_)
          obtain ⟨rfl, rfl⟩ := hq
          refine Ev.steps tokX11_cut 1 (P := True) (pc' := if r11 = 0 then 151 else 146) (lv' := [some (.ref 130), some (.int v1), some (.int v2), some (.int v3), some (.int v4), some (.int v5), some (.int v6)]) (st' := []) (h' := mkS x S12) rfl trivial ?_
          refine Ev.ite (fun c13 => ?_) (fun c13 => ?_)
          · rw [if_pos c13] at hm
            refine Ev.steps tokX11_cut 1 (P := True) (pc' := 153) (lv' := [some (.ref 130), some (.int v1), some (.int v2), some (.int v3), some (.int v4), some (.int v5), some (.int v6)]) (st' := [.int v6]) (h' := mkS x S12) rfl trivial ?_
            refine Ev.fgt (lv' := [some (.ref 130), some (.int v1), some (.int v2), some (.int v3), some (.int v4), none, some (.int v6)]) ⟨rfl, rfl, rfl, rfl, rfl, rfl, trivial⟩ ?_
            exact bpX11_cut_130_153 x k88 hk88 S12 v1 v2 v3 v4 v6 v6 _ _ hm
          · rw [if_neg c13] at hm
            refine Ev.steps tokX11_cut 2 (P := True) (pc' := 153) (lv' := [some (.ref 130), some (.int v1), some (.int v2), some (.int v3), some (.int v4), some (.int v5), some (.int v6)]) (st' := [.int v5]) (h' := mkS x S12) rfl trivial ?_
            refine Ev.fgt (lv' := [some (.ref 130), some (.int v1), some (.int v2), some (.int v3), some (.int v4), none, some (.int v6)]) ⟨rfl, rfl, rfl, rfl, rfl, rfl, trivial⟩ ?_
            exact bpX11_cut_130_153 x k88 hk88 S12 v1 v2 v3 v4 v6 v5 _ _ hm
set_option maxHeartbeats 4000000 in
set_option maxRecDepth 20000 in
theorem bpX11_cut_130_88 (x : XT) (k88 : ST → Int32 → Int32 → Int32 → Int32 → Int32 → Int32 → Option (Int32 × ST)) (hk88 : ∀ (S : ST) (v1 : Int32) (v2 : Int32) (v3 : Int32) (v4 : Int32) (v5 : Int32) (v6 : Int32) (r : Int32) (S' : ST), k88 S v1 v2 v3 v4 v5 v6 = some (r, S') → Ev mX11_cut 128 0 0 88 [some (.ref 130), some (.int v1), some (.int v2), some (.int v3), some (.int v4), some (.int v5), some (.int v6)] [] (mkS x S) (fun v h => v = some (.int r) ∧ h = mkS x S')) (S : ST) (v1 : Int32) (v2 : Int32) (v3 : Int32) (v4 : Int32) (v5 : Int32) (v6 : Int32) (r : Int32) (S' : ST) (hm : bfX11_cut_130_88 x k88 S v1 v2 v3 v4 v5 v6 = some (r, S')) : Ev mX11_cut 128 0 0 88 [some (.ref 130), some (.int v1), some (.int v2), some (.int v3), some (.int v4), some (.int v5), some (.int v6)] [] (mkS x S) (fun v h => v = some (.int r) ∧ h = mkS x S') := by
    unfold bfX11_cut_130_88 at hm
    refine Ev.steps tokX11_cut 3 (P := True) (pc' := if v4 < v6 then 161 else 95) (lv' := [some (.ref 130), some (.int v1), some (.int v2), some (.int v3), some (.int v4), some (.int v5), some (.int v6)]) (st' := []) (h' := mkS x S) rfl trivial ?_
    refine Ev.ite (fun c1 => ?_) (fun c1 => ?_)
    · rw [if_pos c1] at hm
      refine Ev.steps tokX11_cut 2 (P := True) (pc' := if ¬ v3 = 0 then 173 else 165) (lv' := [some (.ref 130), some (.int v1), some (.int v2), some (.int v3), some (.int v4), some (.int v5), some (.int v6)]) (st' := []) (h' := mkS x S) rfl trivial ?_
      refine Ev.ite (fun c2 => ?_) (fun c2 => ?_)
      · rw [if_pos c2] at hm
        refine Ev.steps tokX11_cut 1 (P := True) (pc' := 175) (lv' := [some (.ref 130), some (.int v1), some (.int v2), some (.int v3), some (.int v4), some (.int v5), some (.int v6)]) (st' := [.int v5]) (h' := mkS x S) rfl trivial ?_
        refine Ev.fgt (lv' := [none, none, none, none, none, none, none]) trivial ?_
        exact bpX11_cut_130_175 x S v5 _ _ hm
      · rw [if_neg c2] at hm
        refine Ev.steps tokX11_cut 1 (P := True) (pc' := 167) (lv' := [some (.ref 130), some (.int v1), some (.int v2), some (.int v3), some (.int v4), some (.int v5), some (.int v6)]) (st' := [.int v5]) (h' := mkS x S) rfl trivial ?_
        cases h3 : gfX11_ones x S v5 with
        | none => rw [h3] at hm; cases hm
        | some q4 =>
          obtain ⟨r5, S6⟩ := q4
          rw [h3] at hm
          dsimp only at hm
          refine ev_callS (N := mX11_ones) (d' := 1) (bc := 0) (bs := 0) (bc' := 0) (bs' := 0) (as := [.int v5]) (rest := []) (dcd tokX11_cut rfl) okX11_ones inX11_ones lk11_443 rfl (by decide) (Nat.le_of_ble_eq_true rfl) (gpX11_ones x S v5 _ _ h3) (fun v h' hq hn => ?_)
          obtain ⟨rfl, rfl⟩ := hq
          refine Ev.steps tokX11_cut 1 (P := True) (pc' := 175) (lv' := [some (.ref 130), some (.int v1), some (.int v2), some (.int v3), some (.int v4), some (.int v5), some (.int v6)]) (st' := [.int r5]) (h' := mkS x S6) rfl trivial ?_
          refine Ev.fgt (lv' := [none, none, none, none, none, none, none]) trivial ?_
          exact bpX11_cut_130_175 x S6 r5 _ _ hm
    · rw [if_neg c1] at hm
      refine Ev.steps tokX11_cut 6 (P := True) (pc' := if ¬ (v6 &&& (v4 ^^^ (-1))) = 0 then 155 else 105) (lv' := [some (.ref 130), some (.int v1), some (.int v2), some (.int v3), some (.int v4), some (.int v5), some (.int v6)]) (st' := []) (h' := mkS x S) rfl trivial ?_
      refine Ev.ite (fun c7 => ?_) (fun c7 => ?_)
      · rw [if_pos c7] at hm
        exact bpX11_cut_130_155 x k88 hk88 S v1 v2 v3 v4 v5 v6 _ _ hm
      · rw [if_neg c7] at hm
        refine Ev.steps tokX11_cut 3 (P := True) (pc' := if v5 = (-1) then 127 else 111) (lv' := [some (.ref 130), some (.int v1), some (.int v2), some (.int v3), some (.int v4), some (.int v5), some (.int v6)]) (st' := []) (h' := mkS x S) rfl trivial ?_
        refine Ev.ite (fun c8 => ?_) (fun c8 => ?_)
        · rw [if_pos c8] at hm
          exact bpX11_cut_130_127 x k88 hk88 S v1 v2 v3 v4 v5 v6 _ _ hm
        · rw [if_neg c8] at hm
          refine Ev.steps tokX11_cut 1 (P := True) (pc' := 113) (lv' := [some (.ref 130), some (.int v1), some (.int v2), some (.int v3), some (.int v4), some (.int v5), some (.int v6)]) (st' := [.int v6]) (h' := mkS x S) rfl trivial ?_
          cases h9 : gfX11_ones x S v6 with
          | none => rw [h9] at hm; cases hm
          | some q10 =>
            obtain ⟨r11, S12⟩ := q10
            rw [h9] at hm
            dsimp only at hm
            refine ev_callS (N := mX11_ones) (d' := 1) (bc := 0) (bs := 0) (bc' := 0) (bs' := 0) (as := [.int v6]) (rest := []) (dcd tokX11_cut rfl) okX11_ones inX11_ones lk11_443 rfl (by decide) (Nat.le_of_ble_eq_true rfl) (gpX11_ones x S v6 _ _ h9) (fun v h' hq hn => ?_)
            obtain ⟨rfl, rfl⟩ := hq
            refine Ev.steps tokX11_cut 1 (P := True) (pc' := 118) (lv' := [some (.ref 130), some (.int v1), some (.int v2), some (.int v3), some (.int v4), some (.int v5), some (.int v6)]) (st' := [.int v5, .int r11]) (h' := mkS x S12) rfl trivial ?_
            cases h13 : gfX11_ones x S12 v5 with
            | none => rw [h13] at hm; cases hm
            | some q14 =>
              obtain ⟨r15, S16⟩ := q14
              rw [h13] at hm
              dsimp only at hm
              refine ev_callS (N := mX11_ones) (d' := 1) (bc := 0) (bs := 0) (bc' := 0) (bs' := 0) (as := [.int v5]) (rest := [.int r11]) (dcd tokX11_cut rfl) okX11_ones inX11_ones lk11_443 rfl (by decide) (Nat.le_of_ble_eq_true rfl) (gpX11_ones x S12 v5 _ _ h13) (fun v h' hq hn => ?_)
              obtain ⟨rfl, rfl⟩ := hq
              refine Ev.steps tokX11_cut 1 (P := True) (pc' := if r11 < r15 then 127 else 124) (lv' := [some (.ref 130), some (.int v1), some (.int v2), some (.int v3), some (.int v4), some (.int v5), some (.int v6)]) (st' := []) (h' := mkS x S16) rfl trivial ?_
              refine Ev.ite (fun c17 => ?_) (fun c17 => ?_)
              · rw [if_pos c17] at hm
                exact bpX11_cut_130_127 x k88 hk88 S16 v1 v2 v3 v4 v5 v6 _ _ hm
              · rw [if_neg c17] at hm
                refine Ev.steps tokX11_cut 1 (P := True) (pc' := 155) (lv' := [some (.ref 130), some (.int v1), some (.int v2), some (.int v3), some (.int v4), some (.int v5), some (.int v6)]) (st' := []) (h' := mkS x S16) rfl trivial ?_
                exact bpX11_cut_130_155 x k88 hk88 S16 v1 v2 v3 v4 v5 v6 _ _ hm
theorem lpX11_cut_130_88 (x : XT)  : ∀ (n : Nat) (S : ST) (v1 : Int32) (v2 : Int32) (v3 : Int32) (v4 : Int32) (v5 : Int32) (v6 : Int32) (r : Int32) (S' : ST), lfX11_cut_130_88 x  n S v1 v2 v3 v4 v5 v6 = some (r, S') → Ev mX11_cut 128 0 0 88 [some (.ref 130), some (.int v1), some (.int v2), some (.int v3), some (.int v4), some (.int v5), some (.int v6)] [] (mkS x S) (fun v h => v = some (.int r) ∧ h = mkS x S')
  | 0, _, _, _, _, _, _, _, _, _, hm => by cases hm
  | n + 1, S, v1, v2, v3, v4, v5, v6, r, S', hm => bpX11_cut_130_88 x (lfX11_cut_130_88 x  n) (lpX11_cut_130_88 x  n) S v1 v2 v3 v4 v5 v6 r S' hm
set_option maxHeartbeats 4000000 in
set_option maxRecDepth 20000 in
theorem bpX11_cut_130_49 (x : XT) (k49 : ST → Int32 → Int32 → Int32 → Int32 → Int32 → Option (Int32 × ST)) (hk49 : ∀ (S : ST) (v1 : Int32) (v2 : Int32) (v3 : Int32) (v4 : Int32) (v5 : Int32) (r : Int32) (S' : ST), k49 S v1 v2 v3 v4 v5 = some (r, S') → Ev mX11_cut 128 0 0 49 [some (.ref 130), some (.int v1), some (.int v2), some (.int v3), some (.int v4), some (.int v5), none] [] (mkS x S) (fun v h => v = some (.int r) ∧ h = mkS x S')) (S : ST) (v1 : Int32) (v2 : Int32) (v3 : Int32) (v4 : Int32) (v5 : Int32) (r : Int32) (S' : ST) (hm : bfX11_cut_130_49 x k49 S v1 v2 v3 v4 v5 = some (r, S')) : Ev mX11_cut 128 0 0 49 [some (.ref 130), some (.int v1), some (.int v2), some (.int v3), some (.int v4), some (.int v5), none] [] (mkS x S) (fun v h => v = some (.int r) ∧ h = mkS x S') := by
    unfold bfX11_cut_130_49 at hm
    refine Ev.steps tokX11_cut 2 (P := True) (pc' := 52) (lv' := [some (.ref 130), some (.int v1), some (.int v2), some (.int v3), some (.int v4), some (.int v5), none]) (st' := [.ref 130, .int v5]) (h' := mkS x S) rfl trivial ?_
    cases h1 : gfX11_gateMany_130 x S with
    | none => rw [h1] at hm; cases hm
    | some q2 =>
      obtain ⟨r3, S4⟩ := q2
      rw [h1] at hm
      dsimp only at hm
      refine ev_callV (N := mX11_gateMany) (d' := 1) (bc := 0) (bs := 0) (bc' := 0) (bs' := 0) (as := []) (rest := [.int v5]) (a := 130) (ci := 11) (dcd tokX11_cut rfl) okX11_gateMany inX11_gateMany seX11_gateMany lk11_124 rfl (by decide) (Nat.le_of_ble_eq_true rfl) rfl ⟨by decide, rfl⟩ (gpX11_gateMany_130 x S _ _ h1) (fun v h' hq hn => ?_)
      obtain ⟨rfl, rfl⟩ := hq
      refine Ev.steps tokX11_cut 1 (P := True) (pc' := if r3 ≤ v5 then 82 else 58) (lv' := [some (.ref 130), some (.int v1), some (.int v2), some (.int v3), some (.int v4), some (.int v5), none]) (st' := []) (h' := mkS x S4) rfl trivial ?_
      refine Ev.ite (fun c5 => ?_) (fun c5 => ?_)
      · rw [if_pos c5] at hm
        refine Ev.steps tokX11_cut 4 (P := True) (pc' := 88) (lv' := [some (.ref 130), some (.int v1), some (.int v2), some (.int v3), some (.int v4), some (.int (-1)), some (.int 0)]) (st' := []) (h' := mkS x S4) rfl trivial ?_
        exact lpX11_cut_130_88 x  20000 S4 v1 v2 v3 v4 (-1) 0 _ _ hm
      · rw [if_neg c5] at hm
        obtain ⟨o6, hm⟩ := oblk hm
        refine Ev.steps tokX11_cut 13 (P := vp_in (25 + v5) 5703 ∧ True) (pc' := 49) (lv' := [some (.ref 130), some (.int v1), some (.int v2), some (.int v3), some (.int (v4 ||| ((S4.2.1 132 ((25 + v5).toNatClampNeg)) <<< (v5 &&& 31)))), some (.int (v5 + 1)), none]) (st' := []) (h' := mkS x S4) rfl ⟨inb_ok o6, trivial⟩ ?_
        exact hk49 S4 v1 v2 v3 (v4 ||| ((S4.2.1 132 ((25 + v5).toNatClampNeg)) <<< (v5 &&& 31))) (v5 + 1) _ _ hm
theorem lpX11_cut_130_49 (x : XT)  : ∀ (n : Nat) (S : ST) (v1 : Int32) (v2 : Int32) (v3 : Int32) (v4 : Int32) (v5 : Int32) (r : Int32) (S' : ST), lfX11_cut_130_49 x  n S v1 v2 v3 v4 v5 = some (r, S') → Ev mX11_cut 128 0 0 49 [some (.ref 130), some (.int v1), some (.int v2), some (.int v3), some (.int v4), some (.int v5), none] [] (mkS x S) (fun v h => v = some (.int r) ∧ h = mkS x S')
  | 0, _, _, _, _, _, _, _, _, hm => by cases hm
  | n + 1, S, v1, v2, v3, v4, v5, r, S', hm => bpX11_cut_130_49 x (lfX11_cut_130_49 x  n) (lpX11_cut_130_49 x  n) S v1 v2 v3 v4 v5 r S' hm
set_option maxHeartbeats 4000000 in
set_option maxRecDepth 20000 in
theorem bpX11_cut_130_0 (x : XT)  (S : ST) (p1 : Int32) (p2 : Int32) (p3 : Int32) (r : Int32) (S' : ST) (hm : bfX11_cut_130_0 x  S p1 p2 p3 = some (r, S')) : Ev mX11_cut 128 0 0 0 [some (.ref 130), some (.int p1), some (.int p2), some (.int p3), none, none, none] [] (mkS x S) (fun v h => v = some (.int r) ∧ h = mkS x S') := by
    unfold bfX11_cut_130_0 at hm
    refine Ev.steps tokX11_cut 2 (P := True) (pc' := 2) (lv' := [some (.ref 130), some (.int p1), some (.int p2), some (.int p3), none, none, none]) (st' := [.int p1, .ref 130]) (h' := mkS x S) rfl trivial ?_
    cases h1 : gfX11_isGoer_130 x S p1 with
    | none => rw [h1] at hm; cases hm
    | some q2 =>
      obtain ⟨r3, S4⟩ := q2
      rw [h1] at hm
      dsimp only at hm
      refine ev_callV (N := mX11_isGoer) (d' := 2) (bc := 0) (bs := 0) (bc' := 0) (bs' := 0) (as := [.int p1]) (rest := []) (a := 130) (ci := 11) (dcd tokX11_cut rfl) okX11_isGoer inX11_isGoer seX11_isGoer lk11_149 rfl (by decide) (Nat.le_of_ble_eq_true rfl) rfl ⟨by decide, rfl⟩ (gpX11_isGoer_130 x S p1 _ _ h1) (fun v h' hq hn => ?_)
      obtain ⟨rfl, rfl⟩ := hq
      refine Ev.steps tokX11_cut 1 (P := True) (pc' := if r3 = 0 then 36 else 8) (lv' := [some (.ref 130), some (.int p1), some (.int p2), some (.int p3), none, none, none]) (st' := []) (h' := mkS x S4) rfl trivial ?_
      refine Ev.ite (fun c5 => ?_) (fun c5 => ?_)
      · rw [if_pos c5] at hm
        refine Ev.fgt (lv' := [none, none, none, none, none, none, none]) trivial ?_
        exact bpX11_cut_130_36 x S4 _ _ hm
      · rw [if_neg c5] at hm
        refine Ev.steps tokX11_cut 1 (P := True) (pc' := 9) (lv' := [some (.ref 130), some (.int p1), some (.int p2), some (.int p3), none, none, none]) (st' := [.int p2]) (h' := mkS x S4) rfl trivial ?_
        cases h6 : gfX11_isPark x S4 p2 with
        | none => rw [h6] at hm; cases hm
        | some q7 =>
          obtain ⟨r8, S9⟩ := q7
          rw [h6] at hm
          dsimp only at hm
          refine ev_callS (N := mX11_isPark) (d' := 2) (bc := 0) (bs := 0) (bc' := 0) (bs' := 0) (as := [.int p2]) (rest := []) (dcd tokX11_cut rfl) okX11_isPark inX11_isPark lk11_128 rfl (by decide) (Nat.le_of_ble_eq_true rfl) (gpX11_isPark x S4 p2 _ _ h6) (fun v h' hq hn => ?_)
          obtain ⟨rfl, rfl⟩ := hq
          refine Ev.steps tokX11_cut 1 (P := True) (pc' := if r8 = 0 then 36 else 15) (lv' := [some (.ref 130), some (.int p1), some (.int p2), some (.int p3), none, none, none]) (st' := []) (h' := mkS x S9) rfl trivial ?_
          refine Ev.ite (fun c10 => ?_) (fun c10 => ?_)
          · rw [if_pos c10] at hm
            refine Ev.fgt (lv' := [none, none, none, none, none, none, none]) trivial ?_
            exact bpX11_cut_130_36 x S9 _ _ hm
          · rw [if_neg c10] at hm
            refine Ev.steps tokX11_cut 3 (P := True) (pc' := 18) (lv' := [some (.ref 130), some (.int p1), some (.int p2), some (.int p3), none, none, none]) (st' := [.int 1, .int 0, .int p3]) (h' := mkS x S9) rfl trivial ?_
            cases h11 : gfX11_lies x S9 p3 0 1 with
            | none => rw [h11] at hm; cases hm
            | some q12 =>
              obtain ⟨r13, S14⟩ := q12
              rw [h11] at hm
              dsimp only at hm
              refine ev_callS (N := mX11_lies) (d' := 1) (bc := 0) (bs := 0) (bc' := 0) (bs' := 0) (as := [.int p3, .int 0, .int 1]) (rest := []) (dcd tokX11_cut rfl) okX11_lies inX11_lies lk11_18 rfl (by decide) (Nat.le_of_ble_eq_true rfl) (gpX11_lies x S9 p3 0 1 _ _ h11) (fun v h' hq hn => ?_)
              obtain ⟨rfl, rfl⟩ := hq
              refine Ev.steps tokX11_cut 1 (P := True) (pc' := if r13 = 0 then 36 else 24) (lv' := [some (.ref 130), some (.int p1), some (.int p2), some (.int p3), none, none, none]) (st' := []) (h' := mkS x S14) rfl trivial ?_
              refine Ev.ite (fun c15 => ?_) (fun c15 => ?_)
              · rw [if_pos c15] at hm
                refine Ev.fgt (lv' := [none, none, none, none, none, none, none]) trivial ?_
                exact bpX11_cut_130_36 x S14 _ _ hm
              · rw [if_neg c15] at hm
                obtain ⟨o16, hm⟩ := oblk hm
                refine Ev.steps tokX11_cut 8 (P := vp_in (0 + p1) 5703 ∧ True) (pc' := if ¬ (S14.2.1 132 ((0 + p1).toNatClampNeg)) = p2 then 38 else 36) (lv' := [some (.ref 130), some (.int p1), some (.int p2), some (.int p3), none, none, none]) (st' := []) (h' := mkS x S14) rfl ⟨inb_ok o16, trivial⟩ ?_
                refine Ev.ite (fun c17 => ?_) (fun c17 => ?_)
                · rw [if_pos c17] at hm
                  refine Ev.steps tokX11_cut 2 (P := True) (pc' := 40) (lv' := [some (.ref 130), some (.int p1), some (.int p2), some (.int p3), none, none, none]) (st' := [.int p1, .ref 130]) (h' := mkS x S14) rfl trivial ?_
                  cases h18 : gfX11_laysOut_130 x S14 p1 with
                  | none => rw [h18] at hm; cases hm
                  | some q19 =>
                    obtain ⟨r20, S21⟩ := q19
                    rw [h18] at hm
                    dsimp only at hm
                    refine ev_callV (N := mX11_laysOut) (d' := 127) (bc := 0) (bs := 0) (bc' := 0) (bs' := 0) (as := [.int p1]) (rest := []) (a := 130) (ci := 11) (dcd tokX11_cut rfl) okX11_laysOut inX11_laysOut seX11_laysOut lk11_395 rfl (by decide) (Nat.le_of_ble_eq_true rfl) rfl ⟨by decide, rfl⟩ (gpX11_laysOut_130 x S14 p1 _ _ h18) (fun v h' hq hn => ?_)
                    obtain ⟨rfl, rfl⟩ := hq
                    refine Ev.steps tokX11_cut 4 (P := True) (pc' := 49) (lv' := [some (.ref 130), some (.int p1), some (.int p2), some (.int p3), some (.int 0), some (.int 0), none]) (st' := []) (h' := mkS x S21) rfl trivial ?_
                    exact lpX11_cut_130_49 x  20000 S21 p1 p2 p3 0 0 _ _ hm
                · rw [if_neg c17] at hm
                  refine Ev.fgt (lv' := [none, none, none, none, none, none, none]) trivial ?_
                  exact bpX11_cut_130_36 x S14 _ _ hm
theorem gpX11_cut_130 (x : XT) (S : ST) (p1 : Int32) (p2 : Int32) (p3 : Int32) (r : Int32) (S' : ST) (hm : gfX11_cut_130 x S p1 p2 p3 = some (r, S')) : Ct mX11_cut 128 0 0 [.ref 130, .int p1, .int p2, .int p3] (mkS x S) (fun v h => v = some (.int r) ∧ h = mkS x S') :=
  Ct.of (lv := [some (.ref 130), some (.int p1), some (.int p2), some (.int p3), none, none, none]) rfl rfl rfl (show (_ : Nat) ≤ _ from Nat.le_of_ble_eq_true rfl) (fun G => rfl) (bpX11_cut_130_0 x S p1 p2 p3 r S' hm)
set_option maxHeartbeats 4000000 in
set_option maxRecDepth 20000 in
theorem bpX11_meet_130_30 (x : XT)  (S : ST)  (r : Int32) (S' : ST) (hm : bfX11_meet_130_30 x  S  = some (r, S')) : Ev mX11_meet 128 0 0 30 [none, none, none, none, none, none, none, none] [] (mkS x S) (fun v h => v = some (.int r) ∧ h = mkS x S') := by
    unfold bfX11_meet_130_30 at hm
    refine Ev.steps tokX11_meet 1 (P := True) (pc' := 31) (lv' := [none, none, none, none, none, none, none, none]) (st' := [.int (-1)]) (h' := mkS x S) rfl trivial ?_
    cases hm
    exact Ev.reti tokX11_meet rfl rfl ⟨rfl, rfl⟩
set_option maxHeartbeats 4000000 in
set_option maxRecDepth 20000 in
theorem bpX11_meet_130_169 (x : XT)  (S : ST) (t0 : Int32) (r : Int32) (S' : ST) (hm : bfX11_meet_130_169 x  S t0 = some (r, S')) : Ev mX11_meet 128 0 0 169 [none, none, none, none, none, none, none, none] [.int t0] (mkS x S) (fun v h => v = some (.int r) ∧ h = mkS x S') := by
    unfold bfX11_meet_130_169 at hm
    cases hm
    exact Ev.reti tokX11_meet rfl rfl ⟨rfl, rfl⟩
set_option maxHeartbeats 4000000 in
set_option maxRecDepth 20000 in
theorem bpX11_meet_130_162 (x : XT)  (S : ST) (v4 : Int32) (r : Int32) (S' : ST) (hm : bfX11_meet_130_162 x  S v4 = some (r, S')) : Ev mX11_meet 128 0 0 162 [none, none, none, none, some (.int v4), none, none, none] [] (mkS x S) (fun v h => v = some (.int r) ∧ h = mkS x S') := by
    unfold bfX11_meet_130_162 at hm
    refine Ev.steps tokX11_meet 2 (P := True) (pc' := 169) (lv' := [none, none, none, none, some (.int v4), none, none, none]) (st' := [.int v4]) (h' := mkS x S) rfl trivial ?_
    refine Ev.fgt (lv' := [none, none, none, none, none, none, none, none]) trivial ?_
    exact bpX11_meet_130_169 x S v4 _ _ hm
set_option maxHeartbeats 4000000 in
set_option maxRecDepth 20000 in
theorem bpX11_meet_130_146 (x : XT) (k102 : ST → Int32 → Int32 → Int32 → Int32 → Option (Int32 × ST)) (hk102 : ∀ (S : ST) (v3 : Int32) (v4 : Int32) (v5 : Int32) (v6 : Int32) (r : Int32) (S' : ST), k102 S v3 v4 v5 v6 = some (r, S') → Ev mX11_meet 128 0 0 102 [some (.ref 130), none, none, some (.int v3), some (.int v4), some (.int v5), some (.int v6), none] [] (mkS x S) (fun v h => v = some (.int r) ∧ h = mkS x S')) (S : ST) (v3 : Int32) (v4 : Int32) (v5 : Int32) (v6 : Int32) (r : Int32) (S' : ST) (hm : bfX11_meet_130_146 x k102 S v3 v4 v5 v6 = some (r, S')) : Ev mX11_meet 128 0 0 146 [some (.ref 130), none, none, some (.int v3), some (.int v4), some (.int v5), some (.int v6), none] [] (mkS x S) (fun v h => v = some (.int r) ∧ h = mkS x S') := by
    unfold bfX11_meet_130_146 at hm
    refine Ev.steps tokX11_meet 2 (P := True) (pc' := 102) (lv' := [some (.ref 130), none, none, some (.int v3), some (.int v4), some (.int v5), some (.int (v6 + 1)), none]) (st' := []) (h' := mkS x S) rfl trivial ?_
    exact hk102 S v3 v4 v5 (v6 + 1) _ _ hm
set_option maxHeartbeats 4000000 in
set_option maxRecDepth 20000 in
theorem bpX11_meet_130_102 (x : XT) (k102 : ST → Int32 → Int32 → Int32 → Int32 → Option (Int32 × ST)) (hk102 : ∀ (S : ST) (v3 : Int32) (v4 : Int32) (v5 : Int32) (v6 : Int32) (r : Int32) (S' : ST), k102 S v3 v4 v5 v6 = some (r, S') → Ev mX11_meet 128 0 0 102 [some (.ref 130), none, none, some (.int v3), some (.int v4), some (.int v5), some (.int v6), none] [] (mkS x S) (fun v h => v = some (.int r) ∧ h = mkS x S')) (S : ST) (v3 : Int32) (v4 : Int32) (v5 : Int32) (v6 : Int32) (r : Int32) (S' : ST) (hm : bfX11_meet_130_102 x k102 S v3 v4 v5 v6 = some (r, S')) : Ev mX11_meet 128 0 0 102 [some (.ref 130), none, none, some (.int v3), some (.int v4), some (.int v5), some (.int v6), none] [] (mkS x S) (fun v h => v = some (.int r) ∧ h = mkS x S') := by
    unfold bfX11_meet_130_102 at hm
    refine Ev.steps tokX11_meet 3 (P := True) (pc' := if 120 ≤ v6 then 152 else 109) (lv' := [some (.ref 130), none, none, some (.int v3), some (.int v4), some (.int v5), some (.int v6), none]) (st' := []) (h' := mkS x S) rfl trivial ?_
    refine Ev.ite (fun c1 => ?_) (fun c1 => ?_)
    · rw [if_pos c1] at hm
      refine Ev.steps tokX11_meet 3 (P := True) (pc' := if v4 = (-1) then 162 else 158) (lv' := [some (.ref 130), none, none, some (.int v3), some (.int v4), some (.int v5), some (.int v6), none]) (st' := []) (h' := mkS x S) rfl trivial ?_
      refine Ev.ite (fun c2 => ?_) (fun c2 => ?_)
      · rw [if_pos c2] at hm
        refine Ev.fgt (lv' := [none, none, none, none, some (.int v4), none, none, none]) ⟨rfl, trivial⟩ ?_
        exact bpX11_meet_130_162 x S v4 _ _ hm
      · rw [if_neg c2] at hm
        refine Ev.steps tokX11_meet 2 (P := True) (pc' := if ¬ v3 = 0 then 167 else 162) (lv' := [some (.ref 130), none, none, some (.int v3), some (.int v4), some (.int v5), some (.int v6), none]) (st' := []) (h' := mkS x S) rfl trivial ?_
        refine Ev.ite (fun c3 => ?_) (fun c3 => ?_)
        · rw [if_pos c3] at hm
          refine Ev.steps tokX11_meet 1 (P := True) (pc' := 169) (lv' := [some (.ref 130), none, none, some (.int v3), some (.int v4), some (.int v5), some (.int v6), none]) (st' := [.int v5]) (h' := mkS x S) rfl trivial ?_
          refine Ev.fgt (lv' := [none, none, none, none, none, none, none, none]) trivial ?_
          exact bpX11_meet_130_169 x S v5 _ _ hm
        · rw [if_neg c3] at hm
          refine Ev.fgt (lv' := [none, none, none, none, some (.int v4), none, none, none]) ⟨rfl, trivial⟩ ?_
          exact bpX11_meet_130_162 x S v4 _ _ hm
    · rw [if_neg c1] at hm
      obtain ⟨o4, hm⟩ := oblk hm
      obtain ⟨o5, hm⟩ := oblk hm
      refine Ev.steps tokX11_meet 8 (P := vp_in v6 120 ∧ vp_in v6 120 ∧ True) (pc' := 123) (lv' := [some (.ref 130), none, none, some (.int v3), some (.int v4), some (.int v5), some (.int v6), none]) (st' := [.int (S.2.1 148 v6.toNatClampNeg), .int (S.2.1 153 v6.toNatClampNeg)]) (h' := mkS x S) rfl ⟨inb_ok o4, inb_ok o5, trivial⟩ ?_
      cases h6 : gfX11_greater x S (S.2.1 153 v6.toNatClampNeg) (S.2.1 148 v6.toNatClampNeg) with
      | none => rw [h6] at hm; cases hm
      | some q7 =>
        obtain ⟨r8, S9⟩ := q7
        rw [h6] at hm
        dsimp only at hm
        refine ev_callS (N := mX11_greater) (d' := 1) (bc := 0) (bs := 0) (bc' := 0) (bs' := 0) (as := [.int (S.2.1 153 v6.toNatClampNeg), .int (S.2.1 148 v6.toNatClampNeg)]) (rest := []) (dcd tokX11_meet rfl) okX11_greater inX11_greater lk11_352 rfl (by decide) (Nat.le_of_ble_eq_true rfl) (gpX11_greater x S (S.2.1 153 v6.toNatClampNeg) (S.2.1 148 v6.toNatClampNeg) _ _ h6) (fun v h' hq hn => ?_)
        obtain ⟨rfl, rfl⟩ := hq
        refine Ev.steps tokX11_meet 4 (P := True) (pc' := if r8 < v5 then 138 else 135) (lv' := [some (.ref 130), none, none, some (.int v3), some (.int v4), some (.int v5), some (.int v6), some (.int r8)]) (st' := []) (h' := mkS x S9) rfl trivial ?_
        refine Ev.ite (fun c10 => ?_) (fun c10 => ?_)
        · rw [if_pos c10] at hm
          refine Ev.steps tokX11_meet 4 (P := True) (pc' := 146) (lv' := [some (.ref 130), none, none, some (.int v3), some (.int v6), some (.int r8), some (.int v6), some (.int r8)]) (st' := []) (h' := mkS x S9) rfl trivial ?_
          refine Ev.fgt (lv' := [some (.ref 130), none, none, some (.int v3), some (.int v6), some (.int r8), some (.int v6), none]) ⟨rfl, rfl, rfl, rfl, rfl, trivial⟩ ?_
          exact bpX11_meet_130_146 x k102 hk102 S9 v3 v6 r8 v6 _ _ hm
        · rw [if_neg c10] at hm
          refine Ev.steps tokX11_meet 1 (P := True) (pc' := 146) (lv' := [some (.ref 130), none, none, some (.int v3), some (.int v4), some (.int v5), some (.int v6), some (.int r8)]) (st' := []) (h' := mkS x S9) rfl trivial ?_
          refine Ev.fgt (lv' := [some (.ref 130), none, none, some (.int v3), some (.int v4), some (.int v5), some (.int v6), none]) ⟨rfl, rfl, rfl, rfl, rfl, trivial⟩ ?_
          exact bpX11_meet_130_146 x k102 hk102 S9 v3 v4 v5 v6 _ _ hm
theorem lpX11_meet_130_102 (x : XT)  : ∀ (n : Nat) (S : ST) (v3 : Int32) (v4 : Int32) (v5 : Int32) (v6 : Int32) (r : Int32) (S' : ST), lfX11_meet_130_102 x  n S v3 v4 v5 v6 = some (r, S') → Ev mX11_meet 128 0 0 102 [some (.ref 130), none, none, some (.int v3), some (.int v4), some (.int v5), some (.int v6), none] [] (mkS x S) (fun v h => v = some (.int r) ∧ h = mkS x S')
  | 0, _, _, _, _, _, _, _, hm => by cases hm
  | n + 1, S, v3, v4, v5, v6, r, S', hm => bpX11_meet_130_102 x (lfX11_meet_130_102 x  n) (lpX11_meet_130_102 x  n) S v3 v4 v5 v6 r S' hm
set_option maxHeartbeats 4000000 in
set_option maxRecDepth 20000 in
theorem bpX11_meet_130_50 (x : XT) (k50 : ST → Int32 → Int32 → Int32 → Option (Int32 × ST)) (hk50 : ∀ (S : ST) (v2 : Int32) (v3 : Int32) (v4 : Int32) (r : Int32) (S' : ST), k50 S v2 v3 v4 = some (r, S') → Ev mX11_meet 128 0 0 50 [some (.ref 130), none, some (.int v2), some (.int v3), some (.int v4), none, none, none] [] (mkS x S) (fun v h => v = some (.int r) ∧ h = mkS x S')) (S : ST) (v2 : Int32) (v3 : Int32) (v4 : Int32) (r : Int32) (S' : ST) (hm : bfX11_meet_130_50 x k50 S v2 v3 v4 = some (r, S')) : Ev mX11_meet 128 0 0 50 [some (.ref 130), none, some (.int v2), some (.int v3), some (.int v4), none, none, none] [] (mkS x S) (fun v h => v = some (.int r) ∧ h = mkS x S') := by
    unfold bfX11_meet_130_50 at hm
    refine Ev.steps tokX11_meet 3 (P := True) (pc' := if 120 ≤ v4 then 77 else 57) (lv' := [some (.ref 130), none, some (.int v2), some (.int v3), some (.int v4), none, none, none]) (st' := []) (h' := mkS x S) rfl trivial ?_
    refine Ev.ite (fun c1 => ?_) (fun c1 => ?_)
    · rw [if_pos c1] at hm
      refine Ev.steps tokX11_meet 2 (P := True) (pc' := 79) (lv' := [some (.ref 130), none, some (.int v2), some (.int v3), some (.int v4), none, none, none]) (st' := [.int v2, .ref 130]) (h' := mkS x S) rfl trivial ?_
      cases h2 : gfX11_laysOut_130 x S v2 with
      | none => rw [h2] at hm; cases hm
      | some q3 =>
        obtain ⟨r4, S5⟩ := q3
        rw [h2] at hm
        dsimp only at hm
        refine ev_callV (N := mX11_laysOut) (d' := 127) (bc := 0) (bs := 0) (bc' := 0) (bs' := 0) (as := [.int v2]) (rest := []) (a := 130) (ci := 11) (dcd tokX11_meet rfl) okX11_laysOut inX11_laysOut seX11_laysOut lk11_395 rfl (by decide) (Nat.le_of_ble_eq_true rfl) rfl ⟨by decide, rfl⟩ (gpX11_laysOut_130 x S v2 _ _ h2) (fun v h' hq hn => ?_)
        obtain ⟨rfl, rfl⟩ := hq
        refine Ev.steps tokX11_meet 3 (P := True) (pc' := 85) (lv' := [some (.ref 130), none, some (.int v2), some (.int v3), some (.int v4), none, none, none]) (st' := [.int v2, .ref 130, .ref 130]) (h' := mkS x S5) rfl trivial ?_
        cases h6 : gfX11_placeOf_130 x S5 v2 with
        | none => rw [h6] at hm; cases hm
        | some q7 =>
          obtain ⟨r8, S9⟩ := q7
          rw [h6] at hm
          dsimp only at hm
          refine ev_callV (N := mX11_placeOf) (d' := 1) (bc := 0) (bs := 0) (bc' := 0) (bs' := 0) (as := [.int v2]) (rest := [.ref 130]) (a := 130) (ci := 11) (dcd tokX11_meet rfl) okX11_placeOf inX11_placeOf seX11_placeOf lk11_402 rfl (by decide) (Nat.le_of_ble_eq_true rfl) rfl ⟨by decide, rfl⟩ (gpX11_placeOf_130 x S5 v2 _ _ h6) (fun v h' hq hn => ?_)
          obtain ⟨rfl, rfl⟩ := hq
          refine Ev.steps tokX11_meet 1 (P := True) (pc' := 89) (lv' := [some (.ref 130), none, some (.int v2), some (.int v3), some (.int v4), none, none, none]) (st' := [.int 0, .int r8, .ref 130]) (h' := mkS x S9) rfl trivial ?_
          cases h10 : gfX11_laysGone_130 x S9 r8 0 with
          | none => rw [h10] at hm; cases hm
          | some q11 =>
            obtain ⟨r12, S13⟩ := q11
            rw [h10] at hm
            dsimp only at hm
            refine ev_callV (N := mX11_laysGone) (d' := 2) (bc := 0) (bs := 0) (bc' := 0) (bs' := 0) (as := [.int r8, .int 0]) (rest := []) (a := 130) (ci := 11) (dcd tokX11_meet rfl) okX11_laysGone inX11_laysGone seX11_laysGone lk11_412 rfl (by decide) (Nat.le_of_ble_eq_true rfl) rfl ⟨by decide, rfl⟩ (gpX11_laysGone_130 x S9 r8 0 _ _ h10) (fun v h' hq hn => ?_)
            obtain ⟨rfl, rfl⟩ := hq
            refine Ev.steps tokX11_meet 6 (P := True) (pc' := 102) (lv' := [some (.ref 130), none, some (.int v2), some (.int v3), some (.int (-1)), some (.int 1000000), some (.int 0), none]) (st' := []) (h' := mkS x S13) rfl trivial ?_
            refine Ev.fgt (lv' := [some (.ref 130), none, none, some (.int v3), some (.int (-1)), some (.int 1000000), some (.int 0), none]) ⟨rfl, rfl, rfl, rfl, rfl, trivial⟩ ?_
            exact lpX11_meet_130_102 x  20000 S13 v3 (-1) 1000000 0 _ _ hm
    · rw [if_neg c1] at hm
      obtain ⟨o14, hm⟩ := oblk hm
      obtain ⟨o15, hm⟩ := oblk hm
      refine Ev.steps tokX11_meet 10 (P := vp_in v4 120 ∧ vp_in v4 120 ∧ True) (pc' := 50) (lv' := [some (.ref 130), none, some (.int v2), some (.int v3), some (.int (v4 + 1)), none, none, none]) (st' := []) (h' := mkS x (S.1, (u2 S.2.1 153 v4.toNatClampNeg (S.2.1 148 v4.toNatClampNeg)), S.2.2.1, S.2.2.2)) rfl ⟨inb_ok o14, inb_ok o15, trivial⟩ ?_
      exact hk50 (S.1, (u2 S.2.1 153 v4.toNatClampNeg (S.2.1 148 v4.toNatClampNeg)), S.2.2.1, S.2.2.2) v2 v3 (v4 + 1) _ _ hm
theorem lpX11_meet_130_50 (x : XT)  : ∀ (n : Nat) (S : ST) (v2 : Int32) (v3 : Int32) (v4 : Int32) (r : Int32) (S' : ST), lfX11_meet_130_50 x  n S v2 v3 v4 = some (r, S') → Ev mX11_meet 128 0 0 50 [some (.ref 130), none, some (.int v2), some (.int v3), some (.int v4), none, none, none] [] (mkS x S) (fun v h => v = some (.int r) ∧ h = mkS x S')
  | 0, _, _, _, _, _, _, hm => by cases hm
  | n + 1, S, v2, v3, v4, r, S', hm => bpX11_meet_130_50 x (lfX11_meet_130_50 x  n) (lpX11_meet_130_50 x  n) S v2 v3 v4 r S' hm
set_option maxHeartbeats 4000000 in
set_option maxRecDepth 20000 in
theorem bpX11_meet_130_0 (x : XT)  (S : ST) (p1 : Int32) (p2 : Int32) (p3 : Int32) (r : Int32) (S' : ST) (hm : bfX11_meet_130_0 x  S p1 p2 p3 = some (r, S')) : Ev mX11_meet 128 0 0 0 [some (.ref 130), some (.int p1), some (.int p2), some (.int p3), none, none, none, none] [] (mkS x S) (fun v h => v = some (.int r) ∧ h = mkS x S') := by
    unfold bfX11_meet_130_0 at hm
    refine Ev.steps tokX11_meet 2 (P := True) (pc' := 2) (lv' := [some (.ref 130), some (.int p1), some (.int p2), some (.int p3), none, none, none, none]) (st' := [.int p1, .ref 130]) (h' := mkS x S) rfl trivial ?_
    cases h1 : gfX11_isGoer_130 x S p1 with
    | none => rw [h1] at hm; cases hm
    | some q2 =>
      obtain ⟨r3, S4⟩ := q2
      rw [h1] at hm
      dsimp only at hm
      refine ev_callV (N := mX11_isGoer) (d' := 2) (bc := 0) (bs := 0) (bc' := 0) (bs' := 0) (as := [.int p1]) (rest := []) (a := 130) (ci := 11) (dcd tokX11_meet rfl) okX11_isGoer inX11_isGoer seX11_isGoer lk11_149 rfl (by decide) (Nat.le_of_ble_eq_true rfl) rfl ⟨by decide, rfl⟩ (gpX11_isGoer_130 x S p1 _ _ h1) (fun v h' hq hn => ?_)
      obtain ⟨rfl, rfl⟩ := hq
      refine Ev.steps tokX11_meet 1 (P := True) (pc' := if r3 = 0 then 30 else 8) (lv' := [some (.ref 130), some (.int p1), some (.int p2), some (.int p3), none, none, none, none]) (st' := []) (h' := mkS x S4) rfl trivial ?_
      refine Ev.ite (fun c5 => ?_) (fun c5 => ?_)
      · rw [if_pos c5] at hm
        refine Ev.fgt (lv' := [none, none, none, none, none, none, none, none]) trivial ?_
        exact bpX11_meet_130_30 x S4 _ _ hm
      · rw [if_neg c5] at hm
        refine Ev.steps tokX11_meet 2 (P := True) (pc' := 10) (lv' := [some (.ref 130), some (.int p1), some (.int p2), some (.int p3), none, none, none, none]) (st' := [.int p2, .ref 130]) (h' := mkS x S4) rfl trivial ?_
        cases h6 : gfX11_isGoer_130 x S4 p2 with
        | none => rw [h6] at hm; cases hm
        | some q7 =>
          obtain ⟨r8, S9⟩ := q7
          rw [h6] at hm
          dsimp only at hm
          refine ev_callV (N := mX11_isGoer) (d' := 2) (bc := 0) (bs := 0) (bc' := 0) (bs' := 0) (as := [.int p2]) (rest := []) (a := 130) (ci := 11) (dcd tokX11_meet rfl) okX11_isGoer inX11_isGoer seX11_isGoer lk11_149 rfl (by decide) (Nat.le_of_ble_eq_true rfl) rfl ⟨by decide, rfl⟩ (gpX11_isGoer_130 x S4 p2 _ _ h6) (fun v h' hq hn => ?_)
          obtain ⟨rfl, rfl⟩ := hq
          refine Ev.steps tokX11_meet 1 (P := True) (pc' := if r8 = 0 then 30 else 16) (lv' := [some (.ref 130), some (.int p1), some (.int p2), some (.int p3), none, none, none, none]) (st' := []) (h' := mkS x S9) rfl trivial ?_
          refine Ev.ite (fun c10 => ?_) (fun c10 => ?_)
          · rw [if_pos c10] at hm
            refine Ev.fgt (lv' := [none, none, none, none, none, none, none, none]) trivial ?_
            exact bpX11_meet_130_30 x S9 _ _ hm
          · rw [if_neg c10] at hm
            refine Ev.steps tokX11_meet 3 (P := True) (pc' := if p1 = p2 then 30 else 21) (lv' := [some (.ref 130), some (.int p1), some (.int p2), some (.int p3), none, none, none, none]) (st' := []) (h' := mkS x S9) rfl trivial ?_
            refine Ev.ite (fun c11 => ?_) (fun c11 => ?_)
            · rw [if_pos c11] at hm
              refine Ev.fgt (lv' := [none, none, none, none, none, none, none, none]) trivial ?_
              exact bpX11_meet_130_30 x S9 _ _ hm
            · rw [if_neg c11] at hm
              refine Ev.steps tokX11_meet 3 (P := True) (pc' := 24) (lv' := [some (.ref 130), some (.int p1), some (.int p2), some (.int p3), none, none, none, none]) (st' := [.int 1, .int 0, .int p3]) (h' := mkS x S9) rfl trivial ?_
              cases h12 : gfX11_lies x S9 p3 0 1 with
              | none => rw [h12] at hm; cases hm
              | some q13 =>
                obtain ⟨r14, S15⟩ := q13
                rw [h12] at hm
                dsimp only at hm
                refine ev_callS (N := mX11_lies) (d' := 1) (bc := 0) (bs := 0) (bc' := 0) (bs' := 0) (as := [.int p3, .int 0, .int 1]) (rest := []) (dcd tokX11_meet rfl) okX11_lies inX11_lies lk11_18 rfl (by decide) (Nat.le_of_ble_eq_true rfl) (gpX11_lies x S9 p3 0 1 _ _ h12) (fun v h' hq hn => ?_)
                obtain ⟨rfl, rfl⟩ := hq
                refine Ev.steps tokX11_meet 1 (P := True) (pc' := if ¬ r14 = 0 then 32 else 30) (lv' := [some (.ref 130), some (.int p1), some (.int p2), some (.int p3), none, none, none, none]) (st' := []) (h' := mkS x S15) rfl trivial ?_
                refine Ev.ite (fun c16 => ?_) (fun c16 => ?_)
                · rw [if_pos c16] at hm
                  refine Ev.steps tokX11_meet 2 (P := True) (pc' := 34) (lv' := [some (.ref 130), some (.int p1), some (.int p2), some (.int p3), none, none, none, none]) (st' := [.int p1, .ref 130]) (h' := mkS x S15) rfl trivial ?_
                  cases h17 : gfX11_laysOut_130 x S15 p1 with
                  | none => rw [h17] at hm; cases hm
                  | some q18 =>
                    obtain ⟨r19, S20⟩ := q18
                    rw [h17] at hm
                    dsimp only at hm
                    refine ev_callV (N := mX11_laysOut) (d' := 127) (bc := 0) (bs := 0) (bc' := 0) (bs' := 0) (as := [.int p1]) (rest := []) (a := 130) (ci := 11) (dcd tokX11_meet rfl) okX11_laysOut inX11_laysOut seX11_laysOut lk11_395 rfl (by decide) (Nat.le_of_ble_eq_true rfl) rfl ⟨by decide, rfl⟩ (gpX11_laysOut_130 x S15 p1 _ _ h17) (fun v h' hq hn => ?_)
                    obtain ⟨rfl, rfl⟩ := hq
                    refine Ev.steps tokX11_meet 3 (P := True) (pc' := 40) (lv' := [some (.ref 130), some (.int p1), some (.int p2), some (.int p3), none, none, none, none]) (st' := [.int p1, .ref 130, .ref 130]) (h' := mkS x S20) rfl trivial ?_
                    cases h21 : gfX11_placeOf_130 x S20 p1 with
                    | none => rw [h21] at hm; cases hm
                    | some q22 =>
                      obtain ⟨r23, S24⟩ := q22
                      rw [h21] at hm
                      dsimp only at hm
                      refine ev_callV (N := mX11_placeOf) (d' := 1) (bc := 0) (bs := 0) (bc' := 0) (bs' := 0) (as := [.int p1]) (rest := [.ref 130]) (a := 130) (ci := 11) (dcd tokX11_meet rfl) okX11_placeOf inX11_placeOf seX11_placeOf lk11_402 rfl (by decide) (Nat.le_of_ble_eq_true rfl) rfl ⟨by decide, rfl⟩ (gpX11_placeOf_130 x S20 p1 _ _ h21) (fun v h' hq hn => ?_)
                      obtain ⟨rfl, rfl⟩ := hq
                      refine Ev.steps tokX11_meet 1 (P := True) (pc' := 44) (lv' := [some (.ref 130), some (.int p1), some (.int p2), some (.int p3), none, none, none, none]) (st' := [.int 0, .int r23, .ref 130]) (h' := mkS x S24) rfl trivial ?_
                      cases h25 : gfX11_laysGone_130 x S24 r23 0 with
                      | none => rw [h25] at hm; cases hm
                      | some q26 =>
                        obtain ⟨r27, S28⟩ := q26
                        rw [h25] at hm
                        dsimp only at hm
                        refine ev_callV (N := mX11_laysGone) (d' := 2) (bc := 0) (bs := 0) (bc' := 0) (bs' := 0) (as := [.int r23, .int 0]) (rest := []) (a := 130) (ci := 11) (dcd tokX11_meet rfl) okX11_laysGone inX11_laysGone seX11_laysGone lk11_412 rfl (by decide) (Nat.le_of_ble_eq_true rfl) rfl ⟨by decide, rfl⟩ (gpX11_laysGone_130 x S24 r23 0 _ _ h25) (fun v h' hq hn => ?_)
                        obtain ⟨rfl, rfl⟩ := hq
                        refine Ev.steps tokX11_meet 2 (P := True) (pc' := 50) (lv' := [some (.ref 130), some (.int p1), some (.int p2), some (.int p3), some (.int 0), none, none, none]) (st' := []) (h' := mkS x S28) rfl trivial ?_
                        refine Ev.fgt (lv' := [some (.ref 130), none, some (.int p2), some (.int p3), some (.int 0), none, none, none]) ⟨rfl, rfl, rfl, rfl, trivial⟩ ?_
                        exact lpX11_meet_130_50 x  20000 S28 p2 p3 0 _ _ hm
                · rw [if_neg c16] at hm
                  refine Ev.fgt (lv' := [none, none, none, none, none, none, none, none]) trivial ?_
                  exact bpX11_meet_130_30 x S15 _ _ hm
theorem gpX11_meet_130 (x : XT) (S : ST) (p1 : Int32) (p2 : Int32) (p3 : Int32) (r : Int32) (S' : ST) (hm : gfX11_meet_130 x S p1 p2 p3 = some (r, S')) : Ct mX11_meet 128 0 0 [.ref 130, .int p1, .int p2, .int p3] (mkS x S) (fun v h => v = some (.int r) ∧ h = mkS x S') :=
  Ct.of (lv := [some (.ref 130), some (.int p1), some (.int p2), some (.int p3), none, none, none, none]) rfl rfl rfl (show (_ : Nat) ≤ _ from Nat.le_of_ble_eq_true rfl) (fun G => rfl) (bpX11_meet_130_0 x S p1 p2 p3 r S' hm)
set_option maxHeartbeats 4000000 in
set_option maxRecDepth 20000 in
theorem bpX11_seen_130_21 (x : XT)  (S : ST)  (r : Int32) (S' : ST) (hm : bfX11_seen_130_21 x  S  = some (r, S')) : Ev mX11_seen 3 0 0 21 [some (.ref 130), none, none, none, none] [] (mkS x S) (fun v h => v = some (.int r) ∧ h = mkS x S') := by
    unfold bfX11_seen_130_21 at hm
    refine Ev.steps tokX11_seen 2 (P := True) (pc' := 23) (lv' := [some (.ref 130), none, none, none, none]) (st' := [.int (-1), .ref 130]) (h' := mkS x S) rfl trivial ?_
    cases h1 : gfX11_refuses_130 x S (-1) with
    | none => rw [h1] at hm; cases hm
    | some q2 =>
      obtain ⟨r3, S4⟩ := q2
      rw [h1] at hm
      dsimp only at hm
      refine ev_callV (N := mX11_refuses) (d' := 1) (bc := 0) (bs := 0) (bc' := 0) (bs' := 0) (as := [.int (-1)]) (rest := []) (a := 130) (ci := 11) (dcd tokX11_seen rfl) okX11_refuses inX11_refuses seX11_refuses lk11_118 rfl (by decide) (Nat.le_of_ble_eq_true rfl) rfl ⟨by decide, rfl⟩ (gpX11_refuses_130 x S (-1) _ _ h1) (fun v h' hq hn => ?_)
      obtain ⟨rfl, rfl⟩ := hq
      cases hm
      exact Ev.reti tokX11_seen rfl rfl ⟨rfl, rfl⟩
set_option maxHeartbeats 4000000 in
set_option maxRecDepth 20000 in
theorem bpX11_seen_130_0 (x : XT)  (S : ST) (p1 : Int32) (p2 : Int32) (p3 : Int32) (r : Int32) (S' : ST) (hm : bfX11_seen_130_0 x  S p1 p2 p3 = some (r, S')) : Ev mX11_seen 3 0 0 0 [some (.ref 130), some (.int p1), some (.int p2), some (.int p3), none] [] (mkS x S) (fun v h => v = some (.int r) ∧ h = mkS x S') := by
    unfold bfX11_seen_130_0 at hm
    refine Ev.steps tokX11_seen 1 (P := True) (pc' := 1) (lv' := [some (.ref 130), some (.int p1), some (.int p2), some (.int p3), none]) (st' := [.int p1]) (h' := mkS x S) rfl trivial ?_
    cases h1 : gfX11_isArm x S p1 with
    | none => rw [h1] at hm; cases hm
    | some q2 =>
      obtain ⟨r3, S4⟩ := q2
      rw [h1] at hm
      dsimp only at hm
      refine ev_callS (N := mX11_isArm) (d' := 2) (bc := 0) (bs := 0) (bc' := 0) (bs' := 0) (as := [.int p1]) (rest := []) (dcd tokX11_seen rfl) okX11_isArm inX11_isArm lk11_132 rfl (by decide) (Nat.le_of_ble_eq_true rfl) (gpX11_isArm x S p1 _ _ h1) (fun v h' hq hn => ?_)
      obtain ⟨rfl, rfl⟩ := hq
      refine Ev.steps tokX11_seen 1 (P := True) (pc' := if r3 = 0 then 21 else 7) (lv' := [some (.ref 130), some (.int p1), some (.int p2), some (.int p3), none]) (st' := []) (h' := mkS x S4) rfl trivial ?_
      refine Ev.ite (fun c5 => ?_) (fun c5 => ?_)
      · rw [if_pos c5] at hm
        refine Ev.fgt (lv' := [some (.ref 130), none, none, none, none]) ⟨rfl, trivial⟩ ?_
        exact bpX11_seen_130_21 x S4 _ _ hm
      · rw [if_neg c5] at hm
        refine Ev.steps tokX11_seen 1 (P := True) (pc' := 8) (lv' := [some (.ref 130), some (.int p1), some (.int p2), some (.int p3), none]) (st' := [.int p2]) (h' := mkS x S4) rfl trivial ?_
        cases h6 : gfX11_isMany x S4 p2 with
        | none => rw [h6] at hm; cases hm
        | some q7 =>
          obtain ⟨r8, S9⟩ := q7
          rw [h6] at hm
          dsimp only at hm
          refine ev_callS (N := mX11_isMany) (d' := 2) (bc := 0) (bs := 0) (bc' := 0) (bs' := 0) (as := [.int p2]) (rest := []) (dcd tokX11_seen rfl) okX11_isMany inX11_isMany lk11_146 rfl (by decide) (Nat.le_of_ble_eq_true rfl) (gpX11_isMany x S4 p2 _ _ h6) (fun v h' hq hn => ?_)
          obtain ⟨rfl, rfl⟩ := hq
          refine Ev.steps tokX11_seen 1 (P := True) (pc' := if r8 = 0 then 21 else 14) (lv' := [some (.ref 130), some (.int p1), some (.int p2), some (.int p3), none]) (st' := []) (h' := mkS x S9) rfl trivial ?_
          refine Ev.ite (fun c10 => ?_) (fun c10 => ?_)
          · rw [if_pos c10] at hm
            refine Ev.fgt (lv' := [some (.ref 130), none, none, none, none]) ⟨rfl, trivial⟩ ?_
            exact bpX11_seen_130_21 x S9 _ _ hm
          · rw [if_neg c10] at hm
            refine Ev.steps tokX11_seen 1 (P := True) (pc' := 15) (lv' := [some (.ref 130), some (.int p1), some (.int p2), some (.int p3), none]) (st' := [.int p3]) (h' := mkS x S9) rfl trivial ?_
            cases h11 : gfX11_isMany x S9 p3 with
            | none => rw [h11] at hm; cases hm
            | some q12 =>
              obtain ⟨r13, S14⟩ := q12
              rw [h11] at hm
              dsimp only at hm
              refine ev_callS (N := mX11_isMany) (d' := 2) (bc := 0) (bs := 0) (bc' := 0) (bs' := 0) (as := [.int p3]) (rest := []) (dcd tokX11_seen rfl) okX11_isMany inX11_isMany lk11_146 rfl (by decide) (Nat.le_of_ble_eq_true rfl) (gpX11_isMany x S9 p3 _ _ h11) (fun v h' hq hn => ?_)
              obtain ⟨rfl, rfl⟩ := hq
              refine Ev.steps tokX11_seen 1 (P := True) (pc' := if ¬ r13 = 0 then 27 else 21) (lv' := [some (.ref 130), some (.int p1), some (.int p2), some (.int p3), none]) (st' := []) (h' := mkS x S14) rfl trivial ?_
              refine Ev.ite (fun c15 => ?_) (fun c15 => ?_)
              · rw [if_pos c15] at hm
                refine Ev.steps tokX11_seen 15 (P := vp_in 93 5703 ∧ vp_in 93 5703 ∧ True) (pc' := if ¬ (S14.2.1 132 93) = 6 then 60 else 53) (lv' := [some (.ref 130), some (.int p1), some (.int p2), some (.int p3), some (.int (71 + (3 * (S14.2.1 132 93))))]) (st' := []) (h' := mkS x S14) rfl ⟨(by unfold vp_in; decide), (by unfold vp_in; decide), trivial⟩ ?_
                refine Ev.ite (fun c16 => ?_) (fun c16 => ?_)
                · rw [if_pos c16] at hm
                  obtain ⟨o17, hm⟩ := oblk hm
                  obtain ⟨o18, hm⟩ := oblk hm
                  obtain ⟨o19, hm⟩ := oblk hm
                  refine Ev.steps tokX11_seen 32 (P := vp_in (71 + (3 * (S14.2.1 132 93))) 5703 ∧ vp_in ((71 + (3 * (S14.2.1 132 93))) + 1) 5703 ∧ vp_in ((71 + (3 * (S14.2.1 132 93))) + 2) 5703 ∧ vp_in 93 5703 ∧ vp_in 93 5703 ∧ vp_in 93 5703 ∧ True) (pc' := 107) (lv' := [some (.ref 130), some (.int p1), some (.int p2), some (.int p3), some (.int (71 + (3 * (S14.2.1 132 93))))]) (st' := [.int (((u2 (u2 (u2 S14.2.1 132 ((71 + (3 * (S14.2.1 132 93))).toNatClampNeg) p1) 132 (((71 + (3 * (S14.2.1 132 93))) + 1).toNatClampNeg) p2) 132 (((71 + (3 * (S14.2.1 132 93))) + 2).toNatClampNeg) p3) 132 93) + 1), .ref 130]) (h' := mkS x (S14.1, (u2 (u2 (u2 (u2 S14.2.1 132 ((71 + (3 * (S14.2.1 132 93))).toNatClampNeg) p1) 132 (((71 + (3 * (S14.2.1 132 93))) + 1).toNatClampNeg) p2) 132 (((71 + (3 * (S14.2.1 132 93))) + 2).toNatClampNeg) p3) 132 93 (((u2 (u2 (u2 S14.2.1 132 ((71 + (3 * (S14.2.1 132 93))).toNatClampNeg) p1) 132 (((71 + (3 * (S14.2.1 132 93))) + 1).toNatClampNeg) p2) 132 (((71 + (3 * (S14.2.1 132 93))) + 2).toNatClampNeg) p3) 132 93) + 1)), S14.2.2.1, S14.2.2.2)) rfl ⟨inb_ok o17, inb_ok o18, inb_ok o19, (by unfold vp_in; decide), (by unfold vp_in; decide), (by unfold vp_in; decide), trivial⟩ ?_
                  cases h20 : gfX11_good_130 x (S14.1, (u2 (u2 (u2 (u2 S14.2.1 132 ((71 + (3 * (S14.2.1 132 93))).toNatClampNeg) p1) 132 (((71 + (3 * (S14.2.1 132 93))) + 1).toNatClampNeg) p2) 132 (((71 + (3 * (S14.2.1 132 93))) + 2).toNatClampNeg) p3) 132 93 (((u2 (u2 (u2 S14.2.1 132 ((71 + (3 * (S14.2.1 132 93))).toNatClampNeg) p1) 132 (((71 + (3 * (S14.2.1 132 93))) + 1).toNatClampNeg) p2) 132 (((71 + (3 * (S14.2.1 132 93))) + 2).toNatClampNeg) p3) 132 93) + 1)), S14.2.2.1, S14.2.2.2) (((u2 (u2 (u2 S14.2.1 132 ((71 + (3 * (S14.2.1 132 93))).toNatClampNeg) p1) 132 (((71 + (3 * (S14.2.1 132 93))) + 1).toNatClampNeg) p2) 132 (((71 + (3 * (S14.2.1 132 93))) + 2).toNatClampNeg) p3) 132 93) + 1) with
                  | none => rw [h20] at hm; cases hm
                  | some q21 =>
                    obtain ⟨r22, S23⟩ := q21
                    rw [h20] at hm
                    dsimp only at hm
                    refine ev_callV (N := mX11_good) (d' := 1) (bc := 0) (bs := 0) (bc' := 0) (bs' := 0) (as := [.int (((u2 (u2 (u2 S14.2.1 132 ((71 + (3 * (S14.2.1 132 93))).toNatClampNeg) p1) 132 (((71 + (3 * (S14.2.1 132 93))) + 1).toNatClampNeg) p2) 132 (((71 + (3 * (S14.2.1 132 93))) + 2).toNatClampNeg) p3) 132 93) + 1)]) (rest := []) (a := 130) (ci := 11) (dcd tokX11_seen rfl) okX11_good inX11_good seX11_good lk11_14 rfl (by decide) (Nat.le_of_ble_eq_true rfl) rfl ⟨by decide, rfl⟩ (gpX11_good_130 x (S14.1, (u2 (u2 (u2 (u2 S14.2.1 132 ((71 + (3 * (S14.2.1 132 93))).toNatClampNeg) p1) 132 (((71 + (3 * (S14.2.1 132 93))) + 1).toNatClampNeg) p2) 132 (((71 + (3 * (S14.2.1 132 93))) + 2).toNatClampNeg) p3) 132 93 (((u2 (u2 (u2 S14.2.1 132 ((71 + (3 * (S14.2.1 132 93))).toNatClampNeg) p1) 132 (((71 + (3 * (S14.2.1 132 93))) + 1).toNatClampNeg) p2) 132 (((71 + (3 * (S14.2.1 132 93))) + 2).toNatClampNeg) p3) 132 93) + 1)), S14.2.2.1, S14.2.2.2) (((u2 (u2 (u2 S14.2.1 132 ((71 + (3 * (S14.2.1 132 93))).toNatClampNeg) p1) 132 (((71 + (3 * (S14.2.1 132 93))) + 1).toNatClampNeg) p2) 132 (((71 + (3 * (S14.2.1 132 93))) + 2).toNatClampNeg) p3) 132 93) + 1) _ _ h20) (fun v h' hq hn => ?_)
                    obtain ⟨rfl, rfl⟩ := hq
                    cases hm
                    exact Ev.reti tokX11_seen rfl rfl ⟨rfl, rfl⟩
                · rw [if_neg c16] at hm
                  refine Ev.steps tokX11_seen 2 (P := True) (pc' := 56) (lv' := [some (.ref 130), some (.int p1), some (.int p2), some (.int p3), some (.int (71 + (3 * (S14.2.1 132 93))))]) (st' := [.int (-5), .ref 130]) (h' := mkS x S14) rfl trivial ?_
                  cases h24 : gfX11_refuses_130 x S14 (-5) with
                  | none => rw [h24] at hm; cases hm
                  | some q25 =>
                    obtain ⟨r26, S27⟩ := q25
                    rw [h24] at hm
                    dsimp only at hm
                    refine ev_callV (N := mX11_refuses) (d' := 1) (bc := 0) (bs := 0) (bc' := 0) (bs' := 0) (as := [.int (-5)]) (rest := []) (a := 130) (ci := 11) (dcd tokX11_seen rfl) okX11_refuses inX11_refuses seX11_refuses lk11_118 rfl (by decide) (Nat.le_of_ble_eq_true rfl) rfl ⟨by decide, rfl⟩ (gpX11_refuses_130 x S14 (-5) _ _ h24) (fun v h' hq hn => ?_)
                    obtain ⟨rfl, rfl⟩ := hq
                    cases hm
                    exact Ev.reti tokX11_seen rfl rfl ⟨rfl, rfl⟩
              · rw [if_neg c15] at hm
                refine Ev.fgt (lv' := [some (.ref 130), none, none, none, none]) ⟨rfl, trivial⟩ ?_
                exact bpX11_seen_130_21 x S14 _ _ hm
theorem gpX11_seen_130 (x : XT) (S : ST) (p1 : Int32) (p2 : Int32) (p3 : Int32) (r : Int32) (S' : ST) (hm : gfX11_seen_130 x S p1 p2 p3 = some (r, S')) : Ct mX11_seen 3 0 0 [.ref 130, .int p1, .int p2, .int p3] (mkS x S) (fun v h => v = some (.int r) ∧ h = mkS x S') :=
  Ct.of (lv := [some (.ref 130), some (.int p1), some (.int p2), some (.int p3), none]) rfl rfl rfl (show (_ : Nat) ≤ _ from Nat.le_of_ble_eq_true rfl) (fun G => rfl) (bpX11_seen_130_0 x S p1 p2 p3 r S' hm)
set_option maxHeartbeats 4000000 in
set_option maxRecDepth 20000 in
theorem bpX11_forget_130_0 (x : XT)  (S : ST)  (r : Int32) (S' : ST) (hm : bfX11_forget_130_0 x  S  = some (r, S')) : Ev mX11_forget 1 0 0 0 [some (.ref 130), none] [] (mkS x S) (fun v h => v = some (.int r) ∧ h = mkS x S') := by
    unfold bfX11_forget_130_0 at hm
    refine Ev.steps tokX11_forget 11 (P := vp_in 93 5703 ∧ vp_in 93 5703 ∧ True) (pc' := 17) (lv' := [some (.ref 130), some (.int (S.2.1 132 93))]) (st' := [.int (S.2.1 132 93)]) (h' := mkS x (S.1, (u2 S.2.1 132 93 0), S.2.2.1, S.2.2.2)) rfl ⟨(by unfold vp_in; decide), (by unfold vp_in; decide), trivial⟩ ?_
    cases hm
    exact Ev.reti tokX11_forget rfl rfl ⟨rfl, rfl⟩
theorem gpX11_forget_130 (x : XT) (S : ST)  (r : Int32) (S' : ST) (hm : gfX11_forget_130 x S  = some (r, S')) : Ct mX11_forget 1 0 0 [.ref 130] (mkS x S) (fun v h => v = some (.int r) ∧ h = mkS x S') :=
  Ct.of (lv := [some (.ref 130), none]) rfl rfl rfl (show (_ : Nat) ≤ _ from Nat.le_of_ble_eq_true rfl) (fun G => rfl) (bpX11_forget_130_0 x S  r S' hm)
set_option maxHeartbeats 4000000 in
set_option maxRecDepth 20000 in
theorem bpX11_outOf_130_25 (x : XT)  (S : ST) (t0 : Int32) (r : Int32) (S' : ST) (hm : bfX11_outOf_130_25 x  S t0 = some (r, S')) : Ev mX11_outOf 126 0 0 25 [none, none, none, none] [.int t0] (mkS x S) (fun v h => v = some (.int r) ∧ h = mkS x S') := by
    unfold bfX11_outOf_130_25 at hm
    cases hm
    exact Ev.reti tokX11_outOf rfl rfl ⟨rfl, rfl⟩
set_option maxHeartbeats 4000000 in
set_option maxRecDepth 20000 in
theorem bpX11_outOf_130_0 (x : XT)  (S : ST) (p1 : Int32) (p2 : Int32) (p3 : Int32) (r : Int32) (S' : ST) (hm : bfX11_outOf_130_0 x  S p1 p2 p3 = some (r, S')) : Ev mX11_outOf 126 0 0 0 [some (.ref 130), some (.int p1), some (.int p2), some (.int p3)] [] (mkS x S) (fun v h => v = some (.int r) ∧ h = mkS x S') := by
    unfold bfX11_outOf_130_0 at hm
    refine Ev.steps tokX11_outOf 7 (P := True) (pc' := 7) (lv' := [some (.ref 130), some (.int p1), some (.int p2), some (.int p3)]) (st' := [.int (-1), .int (-1), .int 0, .int p3, .int p2, .int p1, .ref 130]) (h' := mkS x S) rfl trivial ?_
    cases h1 : gfX11_setsAsked_130 x S p1 p2 p3 0 (-1) (-1) with
    | none => rw [h1] at hm; cases hm
    | some q2 =>
      obtain ⟨r3, S4⟩ := q2
      rw [h1] at hm
      dsimp only at hm
      refine ev_callV (N := mX11_setsAsked) (d' := 1) (bc := 0) (bs := 0) (bc' := 0) (bs' := 0) (as := [.int p1, .int p2, .int p3, .int 0, .int (-1), .int (-1)]) (rest := []) (a := 130) (ci := 11) (dcd tokX11_outOf rfl) okX11_setsAsked inX11_setsAsked seX11_setsAsked lk11_348 rfl (by decide) (Nat.le_of_ble_eq_true rfl) rfl ⟨by decide, rfl⟩ (gpX11_setsAsked_130 x S p1 p2 p3 0 (-1) (-1) _ _ h1) (fun v h' hq hn => ?_)
      obtain ⟨rfl, rfl⟩ := hq
      refine Ev.steps tokX11_outOf 1 (P := True) (pc' := 11) (lv' := [some (.ref 130), some (.int p1), some (.int p2), some (.int p3)]) (st' := [.ref 130]) (h' := mkS x S4) rfl trivial ?_
      cases h5 : gfX11_isBarredNow_130 x S4 with
      | none => rw [h5] at hm; cases hm
      | some q6 =>
        obtain ⟨r7, S8⟩ := q6
        rw [h5] at hm
        dsimp only at hm
        refine ev_callV (N := mX11_isBarredNow) (d' := 125) (bc := 0) (bs := 0) (bc' := 0) (bs' := 0) (as := []) (rest := []) (a := 130) (ci := 11) (dcd tokX11_outOf rfl) okX11_isBarredNow inX11_isBarredNow seX11_isBarredNow lk11_169 rfl (by decide) (Nat.le_of_ble_eq_true rfl) rfl ⟨by decide, rfl⟩ (gpX11_isBarredNow_130 x S4 _ _ h5) (fun v h' hq hn => ?_)
        obtain ⟨rfl, rfl⟩ := hq
        refine Ev.steps tokX11_outOf 1 (P := True) (pc' := if r7 = 0 then 21 else 17) (lv' := [some (.ref 130), some (.int p1), some (.int p2), some (.int p3)]) (st' := []) (h' := mkS x S8) rfl trivial ?_
        refine Ev.ite (fun c9 => ?_) (fun c9 => ?_)
        · rw [if_pos c9] at hm
          refine Ev.steps tokX11_outOf 1 (P := True) (pc' := 22) (lv' := [some (.ref 130), some (.int p1), some (.int p2), some (.int p3)]) (st' := [.ref 130]) (h' := mkS x S8) rfl trivial ?_
          cases h10 : gfX11_turnsNow_130 x S8 with
          | none => rw [h10] at hm; cases hm
          | some q11 =>
            obtain ⟨r12, S13⟩ := q11
            rw [h10] at hm
            dsimp only at hm
            refine ev_callV (N := mX11_turnsNow) (d' := 125) (bc := 0) (bs := 0) (bc' := 0) (bs' := 0) (as := []) (rest := []) (a := 130) (ci := 11) (dcd tokX11_outOf rfl) okX11_turnsNow inX11_turnsNow seX11_turnsNow lk11_163 rfl (by decide) (Nat.le_of_ble_eq_true rfl) rfl ⟨by decide, rfl⟩ (gpX11_turnsNow_130 x S8 _ _ h10) (fun v h' hq hn => ?_)
            obtain ⟨rfl, rfl⟩ := hq
            refine Ev.fgt (lv' := [none, none, none, none]) trivial ?_
            exact bpX11_outOf_130_25 x S13 r12 _ _ hm
        · rw [if_neg c9] at hm
          refine Ev.steps tokX11_outOf 2 (P := True) (pc' := 25) (lv' := [some (.ref 130), some (.int p1), some (.int p2), some (.int p3)]) (st' := [.int (-1)]) (h' := mkS x S8) rfl trivial ?_
          refine Ev.fgt (lv' := [none, none, none, none]) trivial ?_
          exact bpX11_outOf_130_25 x S8 (-1) _ _ hm
theorem gpX11_outOf_130 (x : XT) (S : ST) (p1 : Int32) (p2 : Int32) (p3 : Int32) (r : Int32) (S' : ST) (hm : gfX11_outOf_130 x S p1 p2 p3 = some (r, S')) : Ct mX11_outOf 126 0 0 [.ref 130, .int p1, .int p2, .int p3] (mkS x S) (fun v h => v = some (.int r) ∧ h = mkS x S') :=
  Ct.of (lv := [some (.ref 130), some (.int p1), some (.int p2), some (.int p3)]) rfl rfl rfl (show (_ : Nat) ≤ _ from Nat.le_of_ble_eq_true rfl) (fun G => rfl) (bpX11_outOf_130_0 x S p1 p2 p3 r S' hm)
end MIR
