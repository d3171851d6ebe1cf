section MIR
set_option maxHeartbeats 4000000 in
set_option maxRecDepth 20000 in
theorem bpX11_small_20 (x : XT)  (S : ST) (t0 : Int32) (r : Int32) (S' : ST) (hm : bfX11_small_20 x  S t0 = some (r, S')) : Ev mX11_small 1 0 0 20 [none, none] [.int t0] (mkS x S) (fun v h => v = some (.int r) ∧ h = mkS x S') := by
    unfold bfX11_small_20 at hm
    cases hm
    exact Ev.reti tokX11_small rfl rfl ⟨rfl, rfl⟩
set_option maxHeartbeats 4000000 in
set_option maxRecDepth 20000 in
theorem bpX11_small_14 (x : XT)  (S : ST)  (r : Int32) (S' : ST) (hm : bfX11_small_14 x  S  = some (r, S')) : Ev mX11_small 1 0 0 14 [none, none] [] (mkS x S) (fun v h => v = some (.int r) ∧ h = mkS x S') := by
    unfold bfX11_small_14 at hm
    refine Ev.steps tokX11_small 2 (P := True) (pc' := 20) (lv' := [none, none]) (st' := [.int (-1)]) (h' := mkS x S) rfl trivial ?_
    exact bpX11_small_20 x S (-1) _ _ hm
set_option maxHeartbeats 4000000 in
set_option maxRecDepth 20000 in
theorem bpX11_small_0 (x : XT)  (S : ST) (p0 : Int64) (r : Int32) (S' : ST) (hm : bfX11_small_0 x  S p0 = some (r, S')) : Ev mX11_small 1 0 0 0 [some (.long p0), none] [] (mkS x S) (fun v h => v = some (.int r) ∧ h = mkS x S') := by
    unfold bfX11_small_0 at hm
    refine Ev.steps tokX11_small 4 (P := True) (pc' := if (lg_cmp p0 0) < 0 then 14 else 6) (lv' := [some (.long p0), none]) (st' := []) (h' := mkS x S) rfl trivial ?_
    refine Ev.ite (fun c1 => ?_) (fun c1 => ?_)
    · rw [if_pos c1] at hm
      refine Ev.fgt (lv' := [none, none]) trivial ?_
      exact bpX11_small_14 x S _ _ hm
    · rw [if_neg c1] at hm
      refine Ev.steps tokX11_small 4 (P := True) (pc' := if (lg_cmp p0 1000000) ≤ 0 then 18 else 14) (lv' := [some (.long p0), none]) (st' := []) (h' := mkS x S) rfl trivial ?_
      refine Ev.ite (fun c2 => ?_) (fun c2 => ?_)
      · rw [if_pos c2] at hm
        refine Ev.steps tokX11_small 2 (P := True) (pc' := 20) (lv' := [some (.long p0), none]) (st' := [.int p0.toInt32]) (h' := mkS x S) rfl trivial ?_
        refine Ev.fgt (lv' := [none, none]) trivial ?_
        exact bpX11_small_20 x S p0.toInt32 _ _ hm
      · rw [if_neg c2] at hm
        refine Ev.fgt (lv' := [none, none]) trivial ?_
        exact bpX11_small_14 x S _ _ hm
theorem gpX11_small (x : XT) (S : ST) (p0 : Int64) (r : Int32) (S' : ST) (hm : gfX11_small x S p0 = some (r, S')) : Ct mX11_small 1 0 0 [.long p0] (mkS x S) (fun v h => v = some (.int r) ∧ h = mkS x S') :=
  Ct.of (lv := [some (.long p0), none]) rfl rfl rfl (show (_ : Nat) ≤ _ from Nat.le_of_ble_eq_true rfl) (fun G => rfl) (bpX11_small_0 x S p0 r S' hm)
set_option maxHeartbeats 4000000 in
set_option maxRecDepth 20000 in
theorem bpX11_obeys_130_98 (x : XT)  (S : ST) (v2 : Int32) (t1 : Int32) (r : Int32) (S' : ST) (hm : bfX11_obeys_130_98 x  S v2 t1 = some (r, S')) : Ev mX11_obeys 128 0 0 98 [none, none, some (.int v2)] [.int t1, .ref 130] (mkS x S) (fun v h => v = some (.int r) ∧ h = mkS x S') := by
    unfold bfX11_obeys_130_98 at hm
    refine Ev.steps tokX11_obeys 2 (P := True) (pc' := 102) (lv' := [none, none, some (.int v2)]) (st' := [.int v2]) (h' := mkS x ((u2 S.1 130 28 t1), S.2.1, S.2.2.1, S.2.2.2)) rfl trivial ?_
    cases hm
    exact Ev.reti tokX11_obeys rfl rfl ⟨rfl, rfl⟩
set_option maxHeartbeats 4000000 in
set_option maxRecDepth 20000 in
theorem bpX11_obeys_130_0 (x : XT)  (S : ST)  (r : Int32) (S' : ST) (hm : bfX11_obeys_130_0 x  S  = some (r, S')) : Ev mX11_obeys 128 0 0 0 [some (.ref 130), none, none] [] (mkS x S) (fun v h => v = some (.int r) ∧ h = mkS x S') := by
    unfold bfX11_obeys_130_0 at hm
    refine Ev.steps tokX11_obeys 4 (P := vp_in 0 2 ∧ True) (pc' := 6) (lv' := [some (.ref 130), none, none]) (st' := [.long (S.2.2.1 156 0)]) (h' := mkS x S) rfl ⟨(by unfold vp_in; decide), trivial⟩ ?_
    cases h1 : gfX11_small x S (S.2.2.1 156 0) with
    | none => rw [h1] at hm; cases hm
    | some q2 =>
      obtain ⟨r3, S4⟩ := q2
      rw [h1] at hm
      dsimp only at hm
      refine ev_callS (N := mX11_small) (d' := 1) (bc := 0) (bs := 0) (bc' := 0) (bs' := 0) (as := [.long (S.2.2.1 156 0)]) (rest := []) (dcd tokX11_obeys rfl) okX11_small inX11_small lk11_486 rfl (by decide) (Nat.le_of_ble_eq_true rfl) (gpX11_small x S (S.2.2.1 156 0) _ _ h1) (fun v h' hq hn => ?_)
      obtain ⟨rfl, rfl⟩ := hq
      refine Ev.steps tokX11_obeys 3 (P := True) (pc' := 14) (lv' := [some (.ref 130), some (.int r3), none]) (st' := [.int (S4.1 130 46)]) (h' := mkS x S4) rfl trivial ?_
      by_cases c5 : (S4.1 130 46) = 22
      · rw [if_pos c5] at hm
        refine ev_tIn (off := 30) (t := 44) (dcd tokX11_obeys rfl) (by rw [c5]; decide) (by rw [c5]; decide) (by rw [c5]; rfl) rfl ?_
        refine Ev.steps tokX11_obeys 2 (P := True) (pc' := 46) (lv' := [some (.ref 130), some (.int r3), none]) (st' := [.int r3, .ref 130]) (h' := mkS x S4) rfl trivial ?_
        cases h6 : gfX11_latchesKept_130 x S4 r3 with
        | none => rw [h6] at hm; cases hm
        | some q7 =>
          obtain ⟨r8, S9⟩ := q7
          rw [h6] at hm
          dsimp only at hm
          refine ev_callV (N := mX11_latchesKept) (d' := 3) (bc := 0) (bs := 0) (bc' := 0) (bs' := 0) (as := [.int r3]) (rest := []) (a := 130) (ci := 11) (dcd tokX11_obeys rfl) okX11_latchesKept inX11_latchesKept seX11_latchesKept lk11_374 rfl (by decide) (Nat.le_of_ble_eq_true rfl) rfl ⟨by decide, rfl⟩ (gpX11_latchesKept_130 x S4 r3 _ _ h6) (fun v h' hq hn => ?_)
          obtain ⟨rfl, rfl⟩ := hq
          cases hm
          exact Ev.reti tokX11_obeys rfl rfl ⟨rfl, rfl⟩
      rw [if_neg c5] at hm
      by_cases c10 : (S4.1 130 46) = 23
      · rw [if_pos c10] at hm
        refine ev_tIn (off := 36) (t := 50) (dcd tokX11_obeys rfl) (by rw [c10]; decide) (by rw [c10]; decide) (by rw [c10]; rfl) rfl ?_
        refine Ev.steps tokX11_obeys 6 (P := vp_in 1 2 ∧ True) (pc' := 58) (lv' := [some (.ref 130), some (.int r3), none]) (st' := [.long (S4.2.2.1 156 1), .int r3, .ref 130]) (h' := mkS x S4) rfl ⟨(by unfold vp_in; decide), trivial⟩ ?_
        cases h11 : gfX11_small x S4 (S4.2.2.1 156 1) with
        | none => rw [h11] at hm; cases hm
        | some q12 =>
          obtain ⟨r13, S14⟩ := q12
          rw [h11] at hm
          dsimp only at hm
          refine ev_callS (N := mX11_small) (d' := 1) (bc := 0) (bs := 0) (bc' := 0) (bs' := 0) (as := [.long (S4.2.2.1 156 1)]) (rest := [.int r3, .ref 130]) (dcd tokX11_obeys rfl) okX11_small inX11_small lk11_486 rfl (by decide) (Nat.le_of_ble_eq_true rfl) (gpX11_small x S4 (S4.2.2.1 156 1) _ _ h11) (fun v h' hq hn => ?_)
          obtain ⟨rfl, rfl⟩ := hq
          cases h15 : gfX11_setsKept_130 x S14 r3 r13 with
          | none => rw [h15] at hm; cases hm
          | some q16 =>
            obtain ⟨r17, S18⟩ := q16
            rw [h15] at hm
            dsimp only at hm
            refine ev_callV (N := mX11_setsKept) (d' := 3) (bc := 0) (bs := 0) (bc' := 0) (bs' := 0) (as := [.int r3, .int r13]) (rest := []) (a := 130) (ci := 11) (dcd tokX11_obeys rfl) okX11_setsKept inX11_setsKept seX11_setsKept lk11_377 rfl (by decide) (Nat.le_of_ble_eq_true rfl) rfl ⟨by decide, rfl⟩ (gpX11_setsKept_130 x S14 r3 r13 _ _ h15) (fun v h' hq hn => ?_)
            obtain ⟨rfl, rfl⟩ := hq
            cases hm
            exact Ev.reti tokX11_obeys rfl rfl ⟨rfl, rfl⟩
      rw [if_neg c10] at hm
      by_cases c19 : (S4.1 130 46) = 24
      · rw [if_pos c19] at hm
        refine ev_tIn (off := 56) (t := 70) (dcd tokX11_obeys rfl) (by rw [c19]; decide) (by rw [c19]; decide) (by rw [c19]; rfl) rfl ?_
        refine Ev.steps tokX11_obeys 6 (P := vp_in 1 2 ∧ True) (pc' := 78) (lv' := [some (.ref 130), some (.int r3), none]) (st' := [.long (S4.2.2.1 156 1), .int r3, .ref 130]) (h' := mkS x S4) rfl ⟨(by unfold vp_in; decide), trivial⟩ ?_
        cases h20 : gfX11_small x S4 (S4.2.2.1 156 1) with
        | none => rw [h20] at hm; cases hm
        | some q21 =>
          obtain ⟨r22, S23⟩ := q21
          rw [h20] at hm
          dsimp only at hm
          refine ev_callS (N := mX11_small) (d' := 1) (bc := 0) (bs := 0) (bc' := 0) (bs' := 0) (as := [.long (S4.2.2.1 156 1)]) (rest := [.int r3, .ref 130]) (dcd tokX11_obeys rfl) okX11_small inX11_small lk11_486 rfl (by decide) (Nat.le_of_ble_eq_true rfl) (gpX11_small x S4 (S4.2.2.1 156 1) _ _ h20) (fun v h' hq hn => ?_)
          obtain ⟨rfl, rfl⟩ := hq
          cases h24 : gfX11_goesKept_130 x S23 r3 r22 with
          | none => rw [h24] at hm; cases hm
          | some q25 =>
            obtain ⟨r26, S27⟩ := q25
            rw [h24] at hm
            dsimp only at hm
            refine ev_callV (N := mX11_goesKept) (d' := 127) (bc := 0) (bs := 0) (bc' := 0) (bs' := 0) (as := [.int r3, .int r22]) (rest := []) (a := 130) (ci := 11) (dcd tokX11_obeys rfl) okX11_goesKept inX11_goesKept seX11_goesKept lk11_368 rfl (by decide) (Nat.le_of_ble_eq_true rfl) rfl ⟨by decide, rfl⟩ (gpX11_goesKept_130 x S23 r3 r22 _ _ h24) (fun v h' hq hn => ?_)
            obtain ⟨rfl, rfl⟩ := hq
            refine Ev.steps tokX11_obeys 4 (P := True) (pc' := if 0 ≤ r26 then 97 else 90) (lv' := [some (.ref 130), some (.int r3), some (.int r26)]) (st' := [.ref 130]) (h' := mkS x S27) rfl trivial ?_
            refine Ev.ite (fun c28 => ?_) (fun c28 => ?_)
            · rw [if_pos c28] at hm
              refine Ev.steps tokX11_obeys 1 (P := True) (pc' := 98) (lv' := [some (.ref 130), some (.int r3), some (.int r26)]) (st' := [.int r26, .ref 130]) (h' := mkS x S27) rfl trivial ?_
              refine Ev.fgt (lv' := [none, none, some (.int r26)]) ⟨rfl, trivial⟩ ?_
              exact bpX11_obeys_130_98 x S27 r26 r26 _ _ hm
            · rw [if_neg c28] at hm
              refine Ev.steps tokX11_obeys 3 (P := True) (pc' := 98) (lv' := [some (.ref 130), some (.int r3), some (.int r26)]) (st' := [.int (S27.1 130 28), .ref 130]) (h' := mkS x S27) rfl trivial ?_
              refine Ev.fgt (lv' := [none, none, some (.int r26)]) ⟨rfl, trivial⟩ ?_
              exact bpX11_obeys_130_98 x S27 r26 (S27.1 130 28) _ _ hm
      rw [if_neg c19] at hm
      by_cases c29 : (S4.1 130 46) = 25
      · rw [if_pos c29] at hm
        refine ev_tIn (off := 51) (t := 65) (dcd tokX11_obeys rfl) (by rw [c29]; decide) (by rw [c29]; decide) (by rw [c29]; rfl) rfl ?_
        refine Ev.steps tokX11_obeys 1 (P := True) (pc' := 66) (lv' := [some (.ref 130), some (.int r3), none]) (st' := [.ref 130]) (h' := mkS x S4) rfl trivial ?_
        cases h30 : gfX11_passesKept_130 x S4 with
        | none => rw [h30] at hm; cases hm
        | some q31 =>
          obtain ⟨r32, S33⟩ := q31
          rw [h30] at hm
          dsimp only at hm
          refine ev_callV (N := mX11_passesKept) (d' := 2) (bc := 0) (bs := 0) (bc' := 0) (bs' := 0) (as := []) (rest := []) (a := 130) (ci := 11) (dcd tokX11_obeys rfl) okX11_passesKept inX11_passesKept seX11_passesKept lk11_380 rfl (by decide) (Nat.le_of_ble_eq_true rfl) rfl ⟨by decide, rfl⟩ (gpX11_passesKept_130 x S4 _ _ h30) (fun v h' hq hn => ?_)
          obtain ⟨rfl, rfl⟩ := hq
          cases hm
          exact Ev.reti tokX11_obeys rfl rfl ⟨rfl, rfl⟩
      rw [if_neg c29] at hm
      refine ev_tOut (t := 70) (dcd tokX11_obeys rfl) (by have zc5 := lv_neT c5 (show (22 : Int32).toInt = 22 from by decide); have zc10 := lv_neT c10 (show (23 : Int32).toInt = 23 from by decide); have zc19 := lv_neT c19 (show (24 : Int32).toInt = 24 from by decide); have zc29 := lv_neT c29 (show (25 : Int32).toInt = 25 from by decide); omega) rfl ?_
      refine Ev.steps tokX11_obeys 6 (P := vp_in 1 2 ∧ True) (pc' := 78) (lv' := [some (.ref 130), some (.int r3), none]) (st' := [.long (S4.2.2.1 156 1), .int r3, .ref 130]) (h' := mkS x S4) rfl ⟨(by unfold vp_in; decide), trivial⟩ ?_
      cases h34 : gfX11_small x S4 (S4.2.2.1 156 1) with
      | none => rw [h34] at hm; cases hm
      | some q35 =>
        obtain ⟨r36, S37⟩ := q35
        rw [h34] at hm
        dsimp only at hm
        refine ev_callS (N := mX11_small) (d' := 1) (bc := 0) (bs := 0) (bc' := 0) (bs' := 0) (as := [.long (S4.2.2.1 156 1)]) (rest := [.int r3, .ref 130]) (dcd tokX11_obeys rfl) okX11_small inX11_small lk11_486 rfl (by decide) (Nat.le_of_ble_eq_true rfl) (gpX11_small x S4 (S4.2.2.1 156 1) _ _ h34) (fun v h' hq hn => ?_)
        obtain ⟨rfl, rfl⟩ := hq
        cases h38 : gfX11_goesKept_130 x S37 r3 r36 with
        | none => rw [h38] at hm; cases hm
        | some q39 =>
          obtain ⟨r40, S41⟩ := q39
          rw [h38] at hm
          dsimp only at hm
          refine ev_callV (N := mX11_goesKept) (d' := 127) (bc := 0) (bs := 0) (bc' := 0) (bs' := 0) (as := [.int r3, .int r36]) (rest := []) (a := 130) (ci := 11) (dcd tokX11_obeys rfl) okX11_goesKept inX11_goesKept seX11_goesKept lk11_368 rfl (by decide) (Nat.le_of_ble_eq_true rfl) rfl ⟨by decide, rfl⟩ (gpX11_goesKept_130 x S37 r3 r36 _ _ h38) (fun v h' hq hn => ?_)
          obtain ⟨rfl, rfl⟩ := hq
          refine Ev.steps tokX11_obeys 4 (P := True) (pc' := if 0 ≤ r40 then 97 else 90) (lv' := [some (.ref 130), some (.int r3), some (.int r40)]) (st' := [.ref 130]) (h' := mkS x S41) rfl trivial ?_
          refine Ev.ite (fun c42 => ?_) (fun c42 => ?_)
          · rw [if_pos c42] at hm
            refine Ev.steps tokX11_obeys 1 (P := True) (pc' := 98) (lv' := [some (.ref 130), some (.int r3), some (.int r40)]) (st' := [.int r40, .ref 130]) (h' := mkS x S41) rfl trivial ?_
            refine Ev.fgt (lv' := [none, none, some (.int r40)]) ⟨rfl, trivial⟩ ?_
            exact bpX11_obeys_130_98 x S41 r40 r40 _ _ hm
          · rw [if_neg c42] at hm
            refine Ev.steps tokX11_obeys 3 (P := True) (pc' := 98) (lv' := [some (.ref 130), some (.int r3), some (.int r40)]) (st' := [.int (S41.1 130 28), .ref 130]) (h' := mkS x S41) rfl trivial ?_
            refine Ev.fgt (lv' := [none, none, some (.int r40)]) ⟨rfl, trivial⟩ ?_
            exact bpX11_obeys_130_98 x S41 r40 (S41.1 130 28) _ _ hm
theorem gpX11_obeys_130 (x : XT) (S : ST)  (r : Int32) (S' : ST) (hm : gfX11_obeys_130 x S  = some (r, S')) : Ct mX11_obeys 128 0 0 [.ref 130] (mkS x S) (fun v h => v = some (.int r) ∧ h = mkS x S') :=
  Ct.of (lv := [some (.ref 130), none, none]) rfl rfl rfl (show (_ : Nat) ≤ _ from Nat.le_of_ble_eq_true rfl) (fun G => rfl) (bpX11_obeys_130_0 x S  r S' hm)
set_option maxHeartbeats 4000000 in
set_option maxRecDepth 20000 in
theorem bpX11_runs_130_55 (x : XT)  (S : ST)  (r : Int32) (S' : ST) (hm : bfX11_runs_130_55 x  S  = some (r, S')) : Ev mX11_runs 129 0 0 55 [none, none, none, none, none] [] (mkS x S) (fun v h => v = some (.int r) ∧ h = mkS x S') := by
    unfold bfX11_runs_130_55 at hm
    refine Ev.steps tokX11_runs 1 (P := True) (pc' := 56) (lv' := [none, none, none, none, none]) (st' := [.int 0]) (h' := mkS x S) rfl trivial ?_
    cases hm
    exact Ev.retz tokX11_runs rfl rfl (Or.inl rfl) ⟨rfl, rfl⟩
set_option maxHeartbeats 4000000 in
set_option maxRecDepth 20000 in
theorem bpX11_runs_130_67 (x : XT) (k19 : ST → Int32 → Int32 → Int32 → Int32 → Option (Int32 × ST)) (hk19 : ∀ (S : ST) (v1 : Int32) (v2 : Int32) (v3 : Int32) (v4 : Int32) (r : Int32) (S' : ST), k19 S v1 v2 v3 v4 = some (r, S') → Ev mX11_runs 129 0 0 19 [some (.ref 130), some (.int v1), some (.int v2), some (.int v3), some (.int v4)] [] (mkS x S) (fun v h => v = some (.int r) ∧ h = mkS x S')) (S : ST) (v1 : Int32) (v2 : Int32) (v3 : Int32) (v4 : Int32) (r : Int32) (S' : ST) (hm : bfX11_runs_130_67 x k19 S v1 v2 v3 v4 = some (r, S')) : Ev mX11_runs 129 0 0 67 [some (.ref 130), some (.int v1), some (.int v2), some (.int v3), some (.int v4)] [] (mkS x S) (fun v h => v = some (.int r) ∧ h = mkS x S') := by
    unfold bfX11_runs_130_67 at hm
    refine Ev.steps tokX11_runs 2 (P := True) (pc' := 19) (lv' := [some (.ref 130), some (.int v1), some (.int v2), some (.int v3), some (.int (v4 + 1))]) (st' := []) (h' := mkS x S) rfl trivial ?_
    exact hk19 S v1 v2 v3 (v4 + 1) _ _ hm
set_option maxHeartbeats 4000000 in
set_option maxRecDepth 20000 in
theorem bpX11_runs_130_19 (x : XT) (k19 : ST → Int32 → Int32 → Int32 → Int32 → Option (Int32 × ST)) (hk19 : ∀ (S : ST) (v1 : Int32) (v2 : Int32) (v3 : Int32) (v4 : Int32) (r : Int32) (S' : ST), k19 S v1 v2 v3 v4 = some (r, S') → Ev mX11_runs 129 0 0 19 [some (.ref 130), some (.int v1), some (.int v2), some (.int v3), some (.int v4)] [] (mkS x S) (fun v h => v = some (.int r) ∧ h = mkS x S')) (S : ST) (v1 : Int32) (v2 : Int32) (v3 : Int32) (v4 : Int32) (r : Int32) (S' : ST) (hm : bfX11_runs_130_19 x k19 S v1 v2 v3 v4 = some (r, S')) : Ev mX11_runs 129 0 0 19 [some (.ref 130), some (.int v1), some (.int v2), some (.int v3), some (.int v4)] [] (mkS x S) (fun v h => v = some (.int r) ∧ h = mkS x S') := by
    unfold bfX11_runs_130_19 at hm
    refine Ev.steps tokX11_runs 3 (P := True) (pc' := if v2 ≤ v4 then 73 else 25) (lv' := [some (.ref 130), some (.int v1), some (.int v2), some (.int v3), some (.int v4)]) (st' := []) (h' := mkS x S) rfl trivial ?_
    refine Ev.ite (fun c1 => ?_) (fun c1 => ?_)
    · rw [if_pos c1] at hm
      refine Ev.steps tokX11_runs 4 (P := True) (pc' := 79) (lv' := [some (.ref 130), some (.int v1), some (.int v2), some (.int v3), some (.int v4)]) (st' := [.int 1]) (h' := mkS x ((u2 S.1 130 44 v3), S.2.1, S.2.2.1, S.2.2.2)) rfl trivial ?_
      cases hm
      exact Ev.retz tokX11_runs rfl rfl (Or.inr rfl) ⟨rfl, rfl⟩
    · rw [if_neg c1] at hm
      refine Ev.steps tokX11_runs 3 (P := True) (pc' := 28) (lv' := [some (.ref 130), some (.int v1), some (.int v2), some (.int v3), some (.int v4)]) (st' := [.int 1, .int v1, .ref 130]) (h' := mkS x S) rfl trivial ?_
      cases h2 : gfX11_goesAlong_130 x S v1 1 with
      | none => rw [h2] at hm; cases hm
      | some q3 =>
        obtain ⟨r4, S5⟩ := q3
        rw [h2] at hm
        dsimp only at hm
        refine ev_callV (N := mX11_goesAlong) (d' := 124) (bc := 0) (bs := 0) (bc' := 0) (bs' := 0) (as := [.int v1, .int 1]) (rest := []) (a := 130) (ci := 11) (dcd tokX11_runs rfl) okX11_goesAlong inX11_goesAlong seX11_goesAlong lk11_490 rfl (by decide) (Nat.le_of_ble_eq_true rfl) rfl ⟨by decide, rfl⟩ (gpX11_goesAlong_130 x S v1 1 _ _ h2) (fun v h' hq hn => ?_)
        obtain ⟨rfl, rfl⟩ := hq
        refine Ev.steps tokX11_runs 3 (P := True) (pc' := if ¬ (S5.1 130 48) = 0 then 41 else 38) (lv' := [some (.ref 130), some (.int v1), some (.int v2), some (.int v3), some (.int v4)]) (st' := []) (h' := mkS x S5) rfl trivial ?_
        refine Ev.ite (fun c6 => ?_) (fun c6 => ?_)
        · rw [if_pos c6] at hm
          refine Ev.steps tokX11_runs 3 (P := True) (pc' := if (S5.1 130 47) = 0 then 55 else 48) (lv' := [some (.ref 130), some (.int v1), some (.int v2), some (.int v3), some (.int v4)]) (st' := []) (h' := mkS x S5) rfl trivial ?_
          refine Ev.ite (fun c7 => ?_) (fun c7 => ?_)
          · rw [if_pos c7] at hm
            refine Ev.fgt (lv' := [none, none, none, none, none]) trivial ?_
            exact bpX11_runs_130_55 x S5 _ _ hm
          · rw [if_neg c7] at hm
            refine Ev.steps tokX11_runs 1 (P := True) (pc' := 49) (lv' := [some (.ref 130), some (.int v1), some (.int v2), some (.int v3), some (.int v4)]) (st' := [.ref 130]) (h' := mkS x S5) rfl trivial ?_
            cases h8 : gfX11_obeys_130 x S5 with
            | none => rw [h8] at hm; cases hm
            | some q9 =>
              obtain ⟨r10, S11⟩ := q9
              rw [h8] at hm
              dsimp only at hm
              refine ev_callV (N := mX11_obeys) (d' := 128) (bc := 0) (bs := 0) (bc' := 0) (bs' := 0) (as := []) (rest := []) (a := 130) (ci := 11) (dcd tokX11_runs rfl) okX11_obeys inX11_obeys seX11_obeys lk11_494 rfl (by decide) (Nat.le_of_ble_eq_true rfl) rfl ⟨by decide, rfl⟩ (gpX11_obeys_130 x S5 _ _ h8) (fun v h' hq hn => ?_)
              obtain ⟨rfl, rfl⟩ := hq
              refine Ev.steps tokX11_runs 1 (P := True) (pc' := if 0 ≤ r10 then 57 else 55) (lv' := [some (.ref 130), some (.int v1), some (.int v2), some (.int v3), some (.int v4)]) (st' := []) (h' := mkS x S11) rfl trivial ?_
              refine Ev.ite (fun c12 => ?_) (fun c12 => ?_)
              · rw [if_pos c12] at hm
                refine Ev.steps tokX11_runs 6 (P := True) (pc' := 67) (lv' := [some (.ref 130), some (.int v1), some (.int v2), some (.int v3), some (.int v4)]) (st' := []) (h' := mkS x ((u2 S11.1 130 27 ((S11.1 130 27) + 1)), S11.2.1, S11.2.2.1, S11.2.2.2)) rfl trivial ?_
                exact bpX11_runs_130_67 x k19 hk19 ((u2 S11.1 130 27 ((S11.1 130 27) + 1)), S11.2.1, S11.2.2.1, S11.2.2.2) v1 v2 v3 v4 _ _ hm
              · rw [if_neg c12] at hm
                refine Ev.fgt (lv' := [none, none, none, none, none]) trivial ?_
                exact bpX11_runs_130_55 x S11 _ _ hm
        · rw [if_neg c6] at hm
          refine Ev.steps tokX11_runs 1 (P := True) (pc' := 67) (lv' := [some (.ref 130), some (.int v1), some (.int v2), some (.int v3), some (.int v4)]) (st' := []) (h' := mkS x S5) rfl trivial ?_
          exact bpX11_runs_130_67 x k19 hk19 S5 v1 v2 v3 v4 _ _ hm
theorem lpX11_runs_130_19 (x : XT)  : ∀ (n : Nat) (S : ST) (v1 : Int32) (v2 : Int32) (v3 : Int32) (v4 : Int32) (r : Int32) (S' : ST), lfX11_runs_130_19 x  n S v1 v2 v3 v4 = some (r, S') → Ev mX11_runs 129 0 0 19 [some (.ref 130), some (.int v1), some (.int v2), some (.int v3), some (.int v4)] [] (mkS x S) (fun v h => v = some (.int r) ∧ h = mkS x S')
  | 0, _, _, _, _, _, _, _, hm => by cases hm
  | n + 1, S, v1, v2, v3, v4, r, S', hm => bpX11_runs_130_19 x (lfX11_runs_130_19 x  n) (lpX11_runs_130_19 x  n) S v1 v2 v3 v4 r S' hm
set_option maxHeartbeats 4000000 in
set_option maxRecDepth 20000 in
theorem bpX11_runs_130_0 (x : XT)  (S : ST) (p1 : Int32) (r : Int32) (S' : ST) (hm : bfX11_runs_130_0 x  S p1 = some (r, S')) : Ev mX11_runs 129 0 0 0 [some (.ref 130), some (.int p1), none, none, none] [] (mkS x S) (fun v h => v = some (.int r) ∧ h = mkS x S') := by
    unfold bfX11_runs_130_0 at hm
    refine Ev.steps tokX11_runs 3 (P := True) (pc' := 3) (lv' := [some (.ref 130), some (.int p1), none, none, none]) (st' := [.int 0, .int p1, .ref 130]) (h' := mkS x S) rfl trivial ?_
    cases h1 : gfX11_goesAlong_130 x S p1 0 with
    | none => rw [h1] at hm; cases hm
    | some q2 =>
      obtain ⟨r3, S4⟩ := q2
      rw [h1] at hm
      dsimp only at hm
      refine ev_callV (N := mX11_goesAlong) (d' := 124) (bc := 0) (bs := 0) (bc' := 0) (bs' := 0) (as := [.int p1, .int 0]) (rest := []) (a := 130) (ci := 11) (dcd tokX11_runs rfl) okX11_goesAlong inX11_goesAlong seX11_goesAlong lk11_490 rfl (by decide) (Nat.le_of_ble_eq_true rfl) rfl ⟨by decide, rfl⟩ (gpX11_goesAlong_130 x S p1 0 _ _ h1) (fun v h' hq hn => ?_)
      obtain ⟨rfl, rfl⟩ := hq
      refine Ev.steps tokX11_runs 8 (P := True) (pc' := 19) (lv' := [some (.ref 130), some (.int p1), some (.int (S4.1 130 45)), some (.int (S4.1 130 22)), some (.int 0)]) (st' := []) (h' := mkS x S4) rfl trivial ?_
      exact lpX11_runs_130_19 x  20000 S4 p1 (S4.1 130 45) (S4.1 130 22) 0 _ _ hm
theorem gpX11_runs_130 (x : XT) (S : ST) (p1 : Int32) (r : Int32) (S' : ST) (hm : gfX11_runs_130 x S p1 = some (r, S')) : Ct mX11_runs 129 0 0 [.ref 130, .int p1] (mkS x S) (fun v h => v = some (.int r) ∧ h = mkS x S') :=
  Ct.of (lv := [some (.ref 130), some (.int p1), none, none, none]) rfl rfl rfl (show (_ : Nat) ≤ _ from Nat.le_of_ble_eq_true rfl) (fun G => rfl) (bpX11_runs_130_0 x S p1 r S' hm)
set_option maxHeartbeats 4000000 in
set_option maxRecDepth 20000 in
theorem bpX11_orders_130_122 (x : XT) (k122 : ST → Int32 → Int32 → Int32 → Option (Int32 × ST)) (hk122 : ∀ (S : ST) (v1 : Int32) (v3 : Int32) (v4 : Int32) (r : Int32) (S' : ST), k122 S v1 v3 v4 = some (r, S') → Ev mX11_orders 130 0 0 122 [some (.ref 130), some (.int v1), none, some (.int v3), some (.int v4)] [] (mkS x S) (fun v h => v = some (.int r) ∧ h = mkS x S')) (S : ST) (v1 : Int32) (v3 : Int32) (v4 : Int32) (r : Int32) (S' : ST) (hm : bfX11_orders_130_122 x k122 S v1 v3 v4 = some (r, S')) : Ev mX11_orders 130 0 0 122 [some (.ref 130), some (.int v1), none, some (.int v3), some (.int v4)] [] (mkS x S) (fun v h => v = some (.int r) ∧ h = mkS x S') := by
    unfold bfX11_orders_130_122 at hm
    refine Ev.steps tokX11_orders 3 (P := True) (pc' := if 592 ≤ v4 then 150 else 130) (lv' := [some (.ref 130), some (.int v1), none, some (.int v3), some (.int v4)]) (st' := []) (h' := mkS x S) rfl trivial ?_
    refine Ev.ite (fun c1 => ?_) (fun c1 => ?_)
    · rw [if_pos c1] at hm
      refine Ev.steps tokX11_orders 8 (P := True) (pc' := 163) (lv' := [some (.ref 130), some (.int v1), none, some (.int v3), some (.int v4)]) (st' := [.int (-3), .ref 130]) (h' := mkS x ((u2 (u2 S.1 130 31 v1) 130 43 v3), S.2.1, S.2.2.1, S.2.2.2)) rfl trivial ?_
      cases h2 : gfX11_refuses_130 x ((u2 (u2 S.1 130 31 v1) 130 43 v3), S.2.1, S.2.2.1, S.2.2.2) (-3) with
      | none => rw [h2] at hm; cases hm
      | some q3 =>
        obtain ⟨r4, S5⟩ := q3
        rw [h2] at hm
        dsimp only at hm
        refine ev_callV (N := mX11_refuses) (d' := 1) (bc := 0) (bs := 0) (bc' := 0) (bs' := 0) (as := [.int (-3)]) (rest := []) (a := 130) (ci := 11) (dcd tokX11_orders rfl) okX11_refuses inX11_refuses seX11_refuses lk11_118 rfl (by decide) (Nat.le_of_ble_eq_true rfl) rfl ⟨by decide, rfl⟩ (gpX11_refuses_130 x ((u2 (u2 S.1 130 31 v1) 130 43 v3), S.2.1, S.2.2.1, S.2.2.2) (-3) _ _ h2) (fun v h' hq hn => ?_)
        obtain ⟨rfl, rfl⟩ := hq
        cases hm
        exact Ev.reti tokX11_orders rfl rfl ⟨rfl, rfl⟩
    · rw [if_neg c1] at hm
      obtain ⟨o6, hm⟩ := oblk hm
      obtain ⟨o7, hm⟩ := oblk hm
      refine Ev.steps tokX11_orders 10 (P := vp_in v4 592 ∧ vp_in v4 592 ∧ True) (pc' := 122) (lv' := [some (.ref 130), some (.int v1), none, some (.int v3), some (.int (v4 + 1))]) (st' := []) (h' := mkS x (S.1, (u2 S.2.1 143 v4.toNatClampNeg (S.2.1 144 v4.toNatClampNeg)), S.2.2.1, S.2.2.2)) rfl ⟨inb_ok o6, inb_ok o7, trivial⟩ ?_
      exact hk122 (S.1, (u2 S.2.1 143 v4.toNatClampNeg (S.2.1 144 v4.toNatClampNeg)), S.2.2.1, S.2.2.2) v1 v3 (v4 + 1) _ _ hm
theorem lpX11_orders_130_122 (x : XT)  : ∀ (n : Nat) (S : ST) (v1 : Int32) (v3 : Int32) (v4 : Int32) (r : Int32) (S' : ST), lfX11_orders_130_122 x  n S v1 v3 v4 = some (r, S') → Ev mX11_orders 130 0 0 122 [some (.ref 130), some (.int v1), none, some (.int v3), some (.int v4)] [] (mkS x S) (fun v h => v = some (.int r) ∧ h = mkS x S')
  | 0, _, _, _, _, _, _, hm => by cases hm
  | n + 1, S, v1, v3, v4, r, S', hm => bpX11_orders_130_122 x (lfX11_orders_130_122 x  n) (lpX11_orders_130_122 x  n) S v1 v3 v4 r S' hm
set_option maxHeartbeats 4000000 in
set_option maxRecDepth 20000 in
theorem bpX11_orders_130_95 (x : XT) (k95 : ST → Int32 → Int32 → Int32 → Option (Int32 × ST)) (hk95 : ∀ (S : ST) (v1 : Int32) (v2 : Int32) (v3 : Int32) (r : Int32) (S' : ST), k95 S v1 v2 v3 = some (r, S') → Ev mX11_orders 130 0 0 95 [some (.ref 130), some (.int v1), some (.int v2), some (.int v3), none] [] (mkS x S) (fun v h => v = some (.int r) ∧ h = mkS x S')) (S : ST) (v1 : Int32) (v2 : Int32) (v3 : Int32) (r : Int32) (S' : ST) (hm : bfX11_orders_130_95 x k95 S v1 v2 v3 = some (r, S')) : Ev mX11_orders 130 0 0 95 [some (.ref 130), some (.int v1), some (.int v2), some (.int v3), none] [] (mkS x S) (fun v h => v = some (.int r) ∧ h = mkS x S') := by
    unfold bfX11_orders_130_95 at hm
    refine Ev.steps tokX11_orders 4 (P := True) (pc' := if v2 ≤ (S.1 130 44) then 173 else 103) (lv' := [some (.ref 130), some (.int v1), some (.int v2), some (.int v3), none]) (st' := []) (h' := mkS x S) rfl trivial ?_
    refine Ev.ite (fun c1 => ?_) (fun c1 => ?_)
    · rw [if_pos c1] at hm
      refine Ev.steps tokX11_orders 3 (P := True) (pc' := 178) (lv' := [some (.ref 130), some (.int v1), some (.int v2), some (.int v3), none]) (st' := [.int (S.1 130 27), .ref 130]) (h' := mkS x S) rfl trivial ?_
      cases h2 : gfX11_good_130 x S (S.1 130 27) with
      | none => rw [h2] at hm; cases hm
      | some q3 =>
        obtain ⟨r4, S5⟩ := q3
        rw [h2] at hm
        dsimp only at hm
        refine ev_callV (N := mX11_good) (d' := 1) (bc := 0) (bs := 0) (bc' := 0) (bs' := 0) (as := [.int (S.1 130 27)]) (rest := []) (a := 130) (ci := 11) (dcd tokX11_orders rfl) okX11_good inX11_good seX11_good lk11_14 rfl (by decide) (Nat.le_of_ble_eq_true rfl) rfl ⟨by decide, rfl⟩ (gpX11_good_130 x S (S.1 130 27) _ _ h2) (fun v h' hq hn => ?_)
        obtain ⟨rfl, rfl⟩ := hq
        cases hm
        exact Ev.reti tokX11_orders rfl rfl ⟨rfl, rfl⟩
    · rw [if_neg c1] at hm
      refine Ev.steps tokX11_orders 2 (P := True) (pc' := 105) (lv' := [some (.ref 130), some (.int v1), some (.int v2), some (.int v3), none]) (st' := [.int v2, .ref 130]) (h' := mkS x S) rfl trivial ?_
      cases h6 : gfX11_runs_130 x S v2 with
      | none => rw [h6] at hm; cases hm
      | some q7 =>
        obtain ⟨r8, S9⟩ := q7
        rw [h6] at hm
        dsimp only at hm
        refine ev_callV (N := mX11_runs) (d' := 129) (bc := 0) (bs := 0) (bc' := 0) (bs' := 0) (as := [.int v2]) (rest := []) (a := 130) (ci := 11) (dcd tokX11_orders rfl) okX11_runs inX11_runs seX11_runs lk11_466 rfl (by decide) (Nat.le_of_ble_eq_true rfl) rfl ⟨by decide, rfl⟩ (gpX11_runs_130 x S v2 _ _ h6) (fun v h' hq hn => ?_)
        obtain ⟨rfl, rfl⟩ := hq
        refine Ev.steps tokX11_orders 1 (P := True) (pc' := if r8 = 0 then 114 else 111) (lv' := [some (.ref 130), some (.int v1), some (.int v2), some (.int v3), none]) (st' := []) (h' := mkS x S9) rfl trivial ?_
        refine Ev.ite (fun c10 => ?_) (fun c10 => ?_)
        · rw [if_pos c10] at hm
          refine Ev.steps tokX11_orders 2 (P := True) (pc' := 116) (lv' := [some (.ref 130), some (.int v1), some (.int v2), some (.int v3), none]) (st' := [.int 1, .ref 130]) (h' := mkS x S9) rfl trivial ?_
          cases h11 : gfX11_takesBack_130 x S9 1 with
          | none => rw [h11] at hm; cases hm
          | some q12 =>
            obtain ⟨r13, S14⟩ := q12
            rw [h11] at hm
            dsimp only at hm
            refine ev_callV (N := mX11_takesBack) (d' := 1) (bc := 0) (bs := 0) (bc' := 0) (bs' := 0) (as := [.int 1]) (rest := []) (a := 130) (ci := 11) (dcd tokX11_orders rfl) okX11_takesBack inX11_takesBack seX11_takesBack lk11_469 rfl (by decide) (Nat.le_of_ble_eq_true rfl) rfl ⟨by decide, rfl⟩ (gpX11_takesBack_130 x S9 1 _ _ h11) (fun v h' hq hn => ?_)
            obtain ⟨rfl, rfl⟩ := hq
            refine Ev.steps tokX11_orders 2 (P := True) (pc' := 122) (lv' := [some (.ref 130), some (.int v1), some (.int v2), some (.int v3), some (.int 0)]) (st' := []) (h' := mkS x S14) rfl trivial ?_
            refine Ev.fgt (lv' := [some (.ref 130), some (.int v1), none, some (.int v3), some (.int 0)]) ⟨rfl, rfl, rfl, rfl, trivial⟩ ?_
            exact lpX11_orders_130_122 x  20000 S14 v1 v3 0 _ _ hm
        · rw [if_neg c10] at hm
          refine Ev.steps tokX11_orders 3 (P := True) (pc' := 95) (lv' := [some (.ref 130), some (.int v1), some (.int v2), some (.int (v3 + 1)), none]) (st' := []) (h' := mkS x S9) rfl trivial ?_
          exact hk95 S9 v1 v2 (v3 + 1) _ _ hm
theorem lpX11_orders_130_95 (x : XT)  : ∀ (n : Nat) (S : ST) (v1 : Int32) (v2 : Int32) (v3 : Int32) (r : Int32) (S' : ST), lfX11_orders_130_95 x  n S v1 v2 v3 = some (r, S') → Ev mX11_orders 130 0 0 95 [some (.ref 130), some (.int v1), some (.int v2), some (.int v3), none] [] (mkS x S) (fun v h => v = some (.int r) ∧ h = mkS x S')
  | 0, _, _, _, _, _, _, hm => by cases hm
  | n + 1, S, v1, v2, v3, r, S', hm => bpX11_orders_130_95 x (lfX11_orders_130_95 x  n) (lpX11_orders_130_95 x  n) S v1 v2 v3 r S' hm
set_option maxHeartbeats 4000000 in
set_option maxRecDepth 20000 in
theorem bpX11_orders_130_27 (x : XT) (k27 : ST → Int32 → Option (Int32 × ST)) (hk27 : ∀ (S : ST) (v1 : Int32) (r : Int32) (S' : ST), k27 S v1 = some (r, S') → Ev mX11_orders 130 0 0 27 [some (.ref 130), some (.int v1), none, none, none] [] (mkS x S) (fun v h => v = some (.int r) ∧ h = mkS x S')) (S : ST) (v1 : Int32) (r : Int32) (S' : ST) (hm : bfX11_orders_130_27 x k27 S v1 = some (r, S')) : Ev mX11_orders 130 0 0 27 [some (.ref 130), some (.int v1), none, none, none] [] (mkS x S) (fun v h => v = some (.int r) ∧ h = mkS x S') := by
    unfold bfX11_orders_130_27 at hm
    refine Ev.steps tokX11_orders 3 (P := True) (pc' := if 592 ≤ v1 then 52 else 34) (lv' := [some (.ref 130), some (.int v1), none, none, none]) (st' := []) (h' := mkS x S) rfl trivial ?_
    refine Ev.ite (fun c1 => ?_) (fun c1 => ?_)
    · rw [if_pos c1] at hm
      refine Ev.steps tokX11_orders 5 (P := True) (pc' := 60) (lv' := [some (.ref 130), some (.int (S.1 130 31)), none, none, none]) (st' := [.int 6, .ref 130]) (h' := mkS x S) rfl trivial ?_
      cases h2 : gfX11_lays_130 x S 6 with
      | none => rw [h2] at hm; cases hm
      | some q3 =>
        obtain ⟨r4, S5⟩ := q3
        rw [h2] at hm
        dsimp only at hm
        refine ev_callV (N := mX11_lays) (d' := 1) (bc := 0) (bs := 0) (bc' := 0) (bs' := 0) (as := [.int 6]) (rest := []) (a := 130) (ci := 11) (dcd tokX11_orders rfl) okX11_lays inX11_lays seX11_lays lk11_282 rfl (by decide) (Nat.le_of_ble_eq_true rfl) rfl ⟨by decide, rfl⟩ (gpX11_lays_130 x S 6 _ _ h2) (fun v h' hq hn => ?_)
        obtain ⟨rfl, rfl⟩ := hq
        refine Ev.steps tokX11_orders 19 (P := vp_in 102 5703 ∧ True) (pc' := 95) (lv' := [some (.ref 130), some (.int (S.1 130 31)), some (.int (2400 + (S5.2.1 132 102))), some (.int 0), none]) (st' := []) (h' := mkS x ((u2 (u2 (u2 S5.1 130 27 0) 130 28 (-1)) 130 44 2400), S5.2.1, S5.2.2.1, S5.2.2.2)) rfl ⟨(by unfold vp_in; decide), trivial⟩ ?_
        exact lpX11_orders_130_95 x  20000 ((u2 (u2 (u2 S5.1 130 27 0) 130 28 (-1)) 130 44 2400), S5.2.1, S5.2.2.1, S5.2.2.2) (S.1 130 31) (2400 + (S5.2.1 132 102)) 0 _ _ hm
    · rw [if_neg c1] at hm
      obtain ⟨o6, hm⟩ := oblk hm
      obtain ⟨o7, hm⟩ := oblk hm
      refine Ev.steps tokX11_orders 10 (P := vp_in v1 592 ∧ vp_in v1 592 ∧ True) (pc' := 27) (lv' := [some (.ref 130), some (.int (v1 + 1)), none, none, none]) (st' := []) (h' := mkS x (S.1, (u2 S.2.1 144 v1.toNatClampNeg (S.2.1 143 v1.toNatClampNeg)), S.2.2.1, S.2.2.2)) rfl ⟨inb_ok o6, inb_ok o7, trivial⟩ ?_
      exact hk27 (S.1, (u2 S.2.1 144 v1.toNatClampNeg (S.2.1 143 v1.toNatClampNeg)), S.2.2.1, S.2.2.2) (v1 + 1) _ _ hm
theorem lpX11_orders_130_27 (x : XT)  : ∀ (n : Nat) (S : ST) (v1 : Int32) (r : Int32) (S' : ST), lfX11_orders_130_27 x  n S v1 = some (r, S') → Ev mX11_orders 130 0 0 27 [some (.ref 130), some (.int v1), none, none, none] [] (mkS x S) (fun v h => v = some (.int r) ∧ h = mkS x S')
  | 0, _, _, _, _, hm => by cases hm
  | n + 1, S, v1, r, S', hm => bpX11_orders_130_27 x (lfX11_orders_130_27 x  n) (lpX11_orders_130_27 x  n) S v1 r S' hm
set_option maxHeartbeats 4000000 in
set_option maxRecDepth 20000 in
theorem bpX11_orders_130_0 (x : XT)  (S : ST)  (r : Int32) (S' : ST) (hm : bfX11_orders_130_0 x  S  = some (r, S')) : Ev mX11_orders 130 0 0 0 [some (.ref 130), none, none, none, none] [] (mkS x S) (fun v h => v = some (.int r) ∧ h = mkS x S') := by
    unfold bfX11_orders_130_0 at hm
    refine Ev.steps tokX11_orders 5 (P := True) (pc' := 7) (lv' := [some (.ref 130), none, none, none, none]) (st' := [.int 1, .ref 130]) (h' := mkS x ((u2 S.1 130 43 (-1)), S.2.1, S.2.2.1, S.2.2.2)) rfl trivial ?_
    cases h1 : gfX11_readsAs_130 x ((u2 S.1 130 43 (-1)), S.2.1, S.2.2.1, S.2.2.2) 1 with
    | none => rw [h1] at hm; cases hm
    | some q2 =>
      obtain ⟨r3, S4⟩ := q2
      rw [h1] at hm
      dsimp only at hm
      refine ev_callV (N := mX11_readsAs) (d' := 127) (bc := 0) (bs := 0) (bc' := 0) (bs' := 0) (as := [.int 1]) (rest := []) (a := 130) (ci := 11) (dcd tokX11_orders rfl) okX11_readsAs inX11_readsAs seX11_readsAs lk11_278 rfl (by decide) (Nat.le_of_ble_eq_true rfl) rfl ⟨by decide, rfl⟩ (gpX11_readsAs_130 x ((u2 S.1 130 43 (-1)), S.2.1, S.2.2.1, S.2.2.2) 1 _ _ h1) (fun v h' hq hn => ?_)
      obtain ⟨rfl, rfl⟩ := hq
      refine Ev.steps tokX11_orders 1 (P := True) (pc' := if ¬ r3 = 0 then 20 else 13) (lv' := [some (.ref 130), none, none, none, none]) (st' := []) (h' := mkS x S4) rfl trivial ?_
      refine Ev.ite (fun c5 => ?_) (fun c5 => ?_)
      · rw [if_pos c5] at hm
        refine Ev.steps tokX11_orders 2 (P := True) (pc' := 22) (lv' := [some (.ref 130), none, none, none, none]) (st' := [.int 1, .ref 130]) (h' := mkS x S4) rfl trivial ?_
        cases h6 : gfX11_laysAside_130 x S4 1 with
        | none => rw [h6] at hm; cases hm
        | some q7 =>
          obtain ⟨r8, S9⟩ := q7
          rw [h6] at hm
          dsimp only at hm
          refine ev_callV (N := mX11_laysAside) (d' := 1) (bc := 0) (bs := 0) (bc' := 0) (bs' := 0) (as := [.int 1]) (rest := []) (a := 130) (ci := 11) (dcd tokX11_orders rfl) okX11_laysAside inX11_laysAside seX11_laysAside lk11_460 rfl (by decide) (Nat.le_of_ble_eq_true rfl) rfl ⟨by decide, rfl⟩ (gpX11_laysAside_130 x S4 1 _ _ h6) (fun v h' hq hn => ?_)
          obtain ⟨rfl, rfl⟩ := hq
          refine Ev.steps tokX11_orders 2 (P := True) (pc' := 27) (lv' := [some (.ref 130), some (.int 0), none, none, none]) (st' := []) (h' := mkS x S9) rfl trivial ?_
          exact lpX11_orders_130_27 x  20000 S9 0 _ _ hm
      · rw [if_neg c5] at hm
        refine Ev.steps tokX11_orders 2 (P := True) (pc' := 16) (lv' := [some (.ref 130), none, none, none, none]) (st' := [.int (-6), .ref 130]) (h' := mkS x S4) rfl trivial ?_
        cases h10 : gfX11_refuses_130 x S4 (-6) with
        | none => rw [h10] at hm; cases hm
        | some q11 =>
          obtain ⟨r12, S13⟩ := q11
          rw [h10] at hm
          dsimp only at hm
          refine ev_callV (N := mX11_refuses) (d' := 1) (bc := 0) (bs := 0) (bc' := 0) (bs' := 0) (as := [.int (-6)]) (rest := []) (a := 130) (ci := 11) (dcd tokX11_orders rfl) okX11_refuses inX11_refuses seX11_refuses lk11_118 rfl (by decide) (Nat.le_of_ble_eq_true rfl) rfl ⟨by decide, rfl⟩ (gpX11_refuses_130 x S4 (-6) _ _ h10) (fun v h' hq hn => ?_)
          obtain ⟨rfl, rfl⟩ := hq
          cases hm
          exact Ev.reti tokX11_orders rfl rfl ⟨rfl, rfl⟩
theorem gpX11_orders_130 (x : XT) (S : ST)  (r : Int32) (S' : ST) (hm : gfX11_orders_130 x S  = some (r, S')) : Ct mX11_orders 130 0 0 [.ref 130] (mkS x S) (fun v h => v = some (.int r) ∧ h = mkS x S') :=
  Ct.of (lv := [some (.ref 130), none, none, none, none]) rfl rfl rfl (show (_ : Nat) ≤ _ from Nat.le_of_ble_eq_true rfl) (fun G => rfl) (bpX11_orders_130_0 x S  r S' hm)
set_option maxHeartbeats 4000000 in
set_option maxRecDepth 20000 in
theorem bpX11_draws_130_0 (x : XT)  (S : ST) (p1 : Int32) (r : Int32) (S' : ST) (hm : bfX11_draws_130_0 x  S p1 = some (r, S')) : Ev mX11_draws 1 0 0 0 [some (.ref 130), some (.int p1)] [] (mkS x S) (fun v h => v = some (.int r) ∧ h = mkS x S') := by
    unfold bfX11_draws_130_0 at hm
    obtain ⟨o1, hm⟩ := oblk hm
    refine Ev.steps tokX11_draws 16 (P := ¬ 1000003 = 0 ∧ ¬ p1 = 0 ∧ True) (pc' := 28) (lv' := [some (.ref 130), some (.int p1)]) (st' := [.int (((((1103 * ((S.1 130 52).toInt64)) + 12345) - ((1103 * ((S.1 130 52).toInt64)) + 12345) / 1000003 * 1000003).toInt32) - ((((1103 * ((S.1 130 52).toInt64)) + 12345) - ((1103 * ((S.1 130 52).toInt64)) + 12345) / 1000003 * 1000003).toInt32) / p1 * p1)]) (h' := mkS x ((u2 S.1 130 52 ((((1103 * ((S.1 130 52).toInt64)) + 12345) - ((1103 * ((S.1 130 52).toInt64)) + 12345) / 1000003 * 1000003).toInt32)), S.2.1, S.2.2.1, S.2.2.2)) rfl ⟨(by decide), nzi_ok o1, trivial⟩ ?_
    cases hm
    exact Ev.reti tokX11_draws rfl rfl ⟨rfl, rfl⟩
theorem gpX11_draws_130 (x : XT) (S : ST) (p1 : Int32) (r : Int32) (S' : ST) (hm : gfX11_draws_130 x S p1 = some (r, S')) : Ct mX11_draws 1 0 0 [.ref 130, .int p1] (mkS x S) (fun v h => v = some (.int r) ∧ h = mkS x S') :=
  Ct.of (lv := [some (.ref 130), some (.int p1)]) rfl rfl rfl (show (_ : Nat) ≤ _ from Nat.le_of_ble_eq_true rfl) (fun G => rfl) (bpX11_draws_130_0 x S p1 r S' hm)
set_option maxHeartbeats 4000000 in
set_option maxRecDepth 20000 in
theorem bpX11_days_130_20 (x : XT)  (S : ST)  (r : Int32) (S' : ST) (hm : bfX11_days_130_20 x  S  = some (r, S')) : Ev mX11_days 127 0 0 20 [some (.ref 130), none, none, none, none, none, none] [] (mkS x S) (fun v h => v = some (.int r) ∧ h = mkS x S') := by
    unfold bfX11_days_130_20 at hm
    refine Ev.steps tokX11_days 2 (P := True) (pc' := 22) (lv' := [some (.ref 130), none, none, none, none, none, none]) (st' := [.int (-1), .ref 130]) (h' := mkS x S) rfl trivial ?_
    cases h1 : gfX11_refuses_130 x S (-1) with
    | none => rw [h1] at hm; cases hm
    | some q2 =>
      obtain ⟨r3, S4⟩ := q2
      rw [h1] at hm
      dsimp only at hm
      refine ev_callV (N := mX11_refuses) (d' := 1) (bc := 0) (bs := 0) (bc' := 0) (bs' := 0) (as := [.int (-1)]) (rest := []) (a := 130) (ci := 11) (dcd tokX11_days rfl) okX11_refuses inX11_refuses seX11_refuses lk11_118 rfl (by decide) (Nat.le_of_ble_eq_true rfl) rfl ⟨by decide, rfl⟩ (gpX11_refuses_130 x S (-1) _ _ h1) (fun v h' hq hn => ?_)
      obtain ⟨rfl, rfl⟩ := hq
      cases hm
      exact Ev.reti tokX11_days rfl rfl ⟨rfl, rfl⟩
set_option maxHeartbeats 4000000 in
set_option maxRecDepth 20000 in
theorem bpX11_days_130_43 (x : XT)  (S : ST)  (r : Int32) (S' : ST) (hm : bfX11_days_130_43 x  S  = some (r, S')) : Ev mX11_days 127 0 0 43 [some (.ref 130), none, none, none, none, none, none] [] (mkS x S) (fun v h => v = some (.int r) ∧ h = mkS x S') := by
    unfold bfX11_days_130_43 at hm
    refine Ev.steps tokX11_days 2 (P := True) (pc' := 46) (lv' := [some (.ref 130), none, none, none, none, none, none]) (st' := [.int (-3), .ref 130]) (h' := mkS x S) rfl trivial ?_
    cases h1 : gfX11_refuses_130 x S (-3) with
    | none => rw [h1] at hm; cases hm
    | some q2 =>
      obtain ⟨r3, S4⟩ := q2
      rw [h1] at hm
      dsimp only at hm
      refine ev_callV (N := mX11_refuses) (d' := 1) (bc := 0) (bs := 0) (bc' := 0) (bs' := 0) (as := [.int (-3)]) (rest := []) (a := 130) (ci := 11) (dcd tokX11_days rfl) okX11_refuses inX11_refuses seX11_refuses lk11_118 rfl (by decide) (Nat.le_of_ble_eq_true rfl) rfl ⟨by decide, rfl⟩ (gpX11_refuses_130 x S (-3) _ _ h1) (fun v h' hq hn => ?_)
      obtain ⟨rfl, rfl⟩ := hq
      cases hm
      exact Ev.reti tokX11_days rfl rfl ⟨rfl, rfl⟩
set_option maxHeartbeats 4000000 in
set_option maxRecDepth 20000 in
theorem bpX11_days_130_161 (x : XT) (k161 : ST → Int32 → Int32 → Option (Int32 × ST)) (hk161 : ∀ (S : ST) (v3 : Int32) (v4 : Int32) (r : Int32) (S' : ST), k161 S v3 v4 = some (r, S') → Ev mX11_days 127 0 0 161 [some (.ref 130), none, none, some (.int v3), some (.int v4), none, none] [] (mkS x S) (fun v h => v = some (.int r) ∧ h = mkS x S')) (S : ST) (v3 : Int32) (v4 : Int32) (r : Int32) (S' : ST) (hm : bfX11_days_130_161 x k161 S v3 v4 = some (r, S')) : Ev mX11_days 127 0 0 161 [some (.ref 130), none, none, some (.int v3), some (.int v4), none, none] [] (mkS x S) (fun v h => v = some (.int r) ∧ h = mkS x S') := by
    unfold bfX11_days_130_161 at hm
    refine Ev.steps tokX11_days 3 (P := True) (pc' := if 36 ≤ v4 then 188 else 168) (lv' := [some (.ref 130), none, none, some (.int v3), some (.int v4), none, none]) (st' := []) (h' := mkS x S) rfl trivial ?_
    refine Ev.ite (fun c1 => ?_) (fun c1 => ?_)
    · rw [if_pos c1] at hm
      refine Ev.steps tokX11_days 2 (P := True) (pc' := 190) (lv' := [some (.ref 130), none, none, some (.int v3), some (.int v4), none, none]) (st' := [.int 0, .ref 130]) (h' := mkS x S) rfl trivial ?_
      cases h2 : gfX11_takesBack_130 x S 0 with
      | none => rw [h2] at hm; cases hm
      | some q3 =>
        obtain ⟨r4, S5⟩ := q3
        rw [h2] at hm
        dsimp only at hm
        refine ev_callV (N := mX11_takesBack) (d' := 1) (bc := 0) (bs := 0) (bc' := 0) (bs' := 0) (as := [.int 0]) (rest := []) (a := 130) (ci := 11) (dcd tokX11_days rfl) okX11_takesBack inX11_takesBack seX11_takesBack lk11_469 rfl (by decide) (Nat.le_of_ble_eq_true rfl) rfl ⟨by decide, rfl⟩ (gpX11_takesBack_130 x S 0 _ _ h2) (fun v h' hq hn => ?_)
        obtain ⟨rfl, rfl⟩ := hq
        refine Ev.steps tokX11_days 2 (P := True) (pc' := 195) (lv' := [some (.ref 130), none, none, some (.int v3), some (.int v4), none, none]) (st' := [.int v3, .ref 130]) (h' := mkS x S5) rfl trivial ?_
        cases h6 : gfX11_good_130 x S5 v3 with
        | none => rw [h6] at hm; cases hm
        | some q7 =>
          obtain ⟨r8, S9⟩ := q7
          rw [h6] at hm
          dsimp only at hm
          refine ev_callV (N := mX11_good) (d' := 1) (bc := 0) (bs := 0) (bc' := 0) (bs' := 0) (as := [.int v3]) (rest := []) (a := 130) (ci := 11) (dcd tokX11_days rfl) okX11_good inX11_good seX11_good lk11_14 rfl (by decide) (Nat.le_of_ble_eq_true rfl) rfl ⟨by decide, rfl⟩ (gpX11_good_130 x S5 v3 _ _ h6) (fun v h' hq hn => ?_)
          obtain ⟨rfl, rfl⟩ := hq
          cases hm
          exact Ev.reti tokX11_days rfl rfl ⟨rfl, rfl⟩
    · rw [if_neg c1] at hm
      obtain ⟨o10, hm⟩ := oblk hm
      obtain ⟨o11, hm⟩ := oblk hm
      refine Ev.steps tokX11_days 10 (P := vp_in v4 5703 ∧ vp_in v4 36 ∧ True) (pc' := 161) (lv' := [some (.ref 130), none, none, some (.int v3), some (.int (v4 + 1)), none, none]) (st' := []) (h' := mkS x (S.1, (u2 S.2.1 157 v4.toNatClampNeg (S.2.1 132 v4.toNatClampNeg)), S.2.2.1, S.2.2.2)) rfl ⟨inb_ok o10, inb_ok o11, trivial⟩ ?_
      exact hk161 (S.1, (u2 S.2.1 157 v4.toNatClampNeg (S.2.1 132 v4.toNatClampNeg)), S.2.2.1, S.2.2.2) v3 (v4 + 1) _ _ hm
theorem lpX11_days_130_161 (x : XT)  : ∀ (n : Nat) (S : ST) (v3 : Int32) (v4 : Int32) (r : Int32) (S' : ST), lfX11_days_130_161 x  n S v3 v4 = some (r, S') → Ev mX11_days 127 0 0 161 [some (.ref 130), none, none, some (.int v3), some (.int v4), none, none] [] (mkS x S) (fun v h => v = some (.int r) ∧ h = mkS x S')
  | 0, _, _, _, _, _, hm => by cases hm
  | n + 1, S, v3, v4, r, S', hm => bpX11_days_130_161 x (lfX11_days_130_161 x  n) (lpX11_days_130_161 x  n) S v3 v4 r S' hm
set_option maxHeartbeats 4000000 in
set_option maxRecDepth 20000 in
theorem bpX11_days_130_158 (x : XT)  (S : ST) (v3 : Int32) (r : Int32) (S' : ST) (hm : bfX11_days_130_158 x  S v3 = some (r, S')) : Ev mX11_days 127 0 0 158 [some (.ref 130), none, none, some (.int v3), none, none, none] [] (mkS x S) (fun v h => v = some (.int r) ∧ h = mkS x S') := by
    unfold bfX11_days_130_158 at hm
    refine Ev.steps tokX11_days 2 (P := True) (pc' := 161) (lv' := [some (.ref 130), none, none, some (.int v3), some (.int 0), none, none]) (st' := []) (h' := mkS x S) rfl trivial ?_
    exact lpX11_days_130_161 x  20000 S v3 0 _ _ hm
set_option maxHeartbeats 4000000 in
set_option maxRecDepth 20000 in
theorem bpX11_days_130_141 (x : XT) (k76 : ST → Int32 → Int32 → Int32 → Option (Int32 × ST)) (hk76 : ∀ (S : ST) (v2 : Int32) (v3 : Int32) (v4 : Int32) (r : Int32) (S' : ST), k76 S v2 v3 v4 = some (r, S') → Ev mX11_days 127 0 0 76 [some (.ref 130), none, some (.int v2), some (.int v3), some (.int v4), none, none] [] (mkS x S) (fun v h => v = some (.int r) ∧ h = mkS x S')) (S : ST) (v2 : Int32) (v3 : Int32) (v4 : Int32) (r : Int32) (S' : ST) (hm : bfX11_days_130_141 x k76 S v2 v3 v4 = some (r, S')) : Ev mX11_days 127 0 0 141 [some (.ref 130), none, some (.int v2), some (.int v3), some (.int v4), none, none] [] (mkS x S) (fun v h => v = some (.int r) ∧ h = mkS x S') := by
    unfold bfX11_days_130_141 at hm
    refine Ev.steps tokX11_days 10 (P := vp_in 35 5703 ∧ vp_in 35 5703 ∧ True) (pc' := 76) (lv' := [some (.ref 130), none, some (.int v2), some (.int v3), some (.int (v4 + 1)), none, none]) (st' := []) (h' := mkS x (S.1, (u2 S.2.1 132 35 ((S.2.1 132 35) + 1)), S.2.2.1, S.2.2.2)) rfl ⟨(by unfold vp_in; decide), (by unfold vp_in; decide), trivial⟩ ?_
    exact hk76 (S.1, (u2 S.2.1 132 35 ((S.2.1 132 35) + 1)), S.2.2.1, S.2.2.2) v2 v3 (v4 + 1) _ _ hm
set_option maxHeartbeats 4000000 in
set_option maxRecDepth 20000 in
theorem bpX11_days_130_76 (x : XT) (k76 : ST → Int32 → Int32 → Int32 → Option (Int32 × ST)) (hk76 : ∀ (S : ST) (v2 : Int32) (v3 : Int32) (v4 : Int32) (r : Int32) (S' : ST), k76 S v2 v3 v4 = some (r, S') → Ev mX11_days 127 0 0 76 [some (.ref 130), none, some (.int v2), some (.int v3), some (.int v4), none, none] [] (mkS x S) (fun v h => v = some (.int r) ∧ h = mkS x S')) (S : ST) (v2 : Int32) (v3 : Int32) (v4 : Int32) (r : Int32) (S' : ST) (hm : bfX11_days_130_76 x k76 S v2 v3 v4 = some (r, S')) : Ev mX11_days 127 0 0 76 [some (.ref 130), none, some (.int v2), some (.int v3), some (.int v4), none, none] [] (mkS x S) (fun v h => v = some (.int r) ∧ h = mkS x S') := by
    unfold bfX11_days_130_76 at hm
    refine Ev.steps tokX11_days 3 (P := True) (pc' := if v2 ≤ v4 then 158 else 82) (lv' := [some (.ref 130), none, some (.int v2), some (.int v3), some (.int v4), none, none]) (st' := []) (h' := mkS x S) rfl trivial ?_
    refine Ev.ite (fun c1 => ?_) (fun c1 => ?_)
    · rw [if_pos c1] at hm
      refine Ev.fgt (lv' := [some (.ref 130), none, none, some (.int v3), none, none, none]) ⟨rfl, rfl, trivial⟩ ?_
      exact bpX11_days_130_158 x S v3 _ _ hm
    · rw [if_neg c1] at hm
      refine Ev.steps tokX11_days 6 (P := vp_in 35 5703 ∧ True) (pc' := if 999 ≤ (S.2.1 132 35) then 158 else 95) (lv' := [some (.ref 130), none, some (.int v2), some (.int v3), some (.int v4), none, none]) (st' := []) (h' := mkS x S) rfl ⟨(by unfold vp_in; decide), trivial⟩ ?_
      refine Ev.ite (fun c2 => ?_) (fun c2 => ?_)
      · rw [if_pos c2] at hm
        refine Ev.fgt (lv' := [some (.ref 130), none, none, some (.int v3), none, none, none]) ⟨rfl, rfl, trivial⟩ ?_
        exact bpX11_days_130_158 x S v3 _ _ hm
      · rw [if_neg c2] at hm
        refine Ev.steps tokX11_days 5 (P := vp_in 92 5703 ∧ True) (pc' := 103) (lv' := [some (.ref 130), none, some (.int v2), some (.int v3), some (.int v4), none, none]) (st' := [.int (S.2.1 132 92), .ref 130]) (h' := mkS x S) rfl ⟨(by unfold vp_in; decide), trivial⟩ ?_
        cases h3 : gfX11_draws_130 x S (S.2.1 132 92) with
        | none => rw [h3] at hm; cases hm
        | some q4 =>
          obtain ⟨r5, S6⟩ := q4
          rw [h3] at hm
          dsimp only at hm
          refine ev_callV (N := mX11_draws) (d' := 1) (bc := 0) (bs := 0) (bc' := 0) (bs' := 0) (as := [.int (S.2.1 132 92)]) (rest := []) (a := 130) (ci := 11) (dcd tokX11_days rfl) okX11_draws inX11_draws seX11_draws lk11_506 rfl (by decide) (Nat.le_of_ble_eq_true rfl) rfl ⟨by decide, rfl⟩ (gpX11_draws_130 x S (S.2.1 132 92) _ _ h3) (fun v h' hq hn => ?_)
          obtain ⟨rfl, rfl⟩ := hq
          refine Ev.steps tokX11_days 3 (P := True) (pc' := 110) (lv' := [some (.ref 130), none, some (.int v2), some (.int v3), some (.int v4), some (.int r5), none]) (st' := [.ref 130, .ref 130]) (h' := mkS x S6) rfl trivial ?_
          cases h7 : gfX11_gateMany_130 x S6 with
          | none => rw [h7] at hm; cases hm
          | some q8 =>
            obtain ⟨r9, S10⟩ := q8
            rw [h7] at hm
            dsimp only at hm
            refine ev_callV (N := mX11_gateMany) (d' := 1) (bc := 0) (bs := 0) (bc' := 0) (bs' := 0) (as := []) (rest := [.ref 130]) (a := 130) (ci := 11) (dcd tokX11_days rfl) okX11_gateMany inX11_gateMany seX11_gateMany lk11_124 rfl (by decide) (Nat.le_of_ble_eq_true rfl) rfl ⟨by decide, rfl⟩ (gpX11_gateMany_130 x S6 _ _ h7) (fun v h' hq hn => ?_)
            obtain ⟨rfl, rfl⟩ := hq
            cases h11 : gfX11_draws_130 x S10 r9 with
            | none => rw [h11] at hm; cases hm
            | some q12 =>
              obtain ⟨r13, S14⟩ := q12
              rw [h11] at hm
              dsimp only at hm
              refine ev_callV (N := mX11_draws) (d' := 1) (bc := 0) (bs := 0) (bc' := 0) (bs' := 0) (as := [.int r9]) (rest := []) (a := 130) (ci := 11) (dcd tokX11_days rfl) okX11_draws inX11_draws seX11_draws lk11_506 rfl (by decide) (Nat.le_of_ble_eq_true rfl) rfl ⟨by decide, rfl⟩ (gpX11_draws_130 x S10 r9 _ _ h11) (fun v h' hq hn => ?_)
              obtain ⟨rfl, rfl⟩ := hq
              refine Ev.steps tokX11_days 4 (P := True) (pc' := 123) (lv' := [some (.ref 130), none, some (.int v2), some (.int v3), some (.int v4), some (.int r5), some (.int r13)]) (st' := [.int r13, .int r5, .ref 130]) (h' := mkS x S14) rfl trivial ?_
              cases h15 : gfX11_canGo_130 x S14 r5 r13 with
              | none => rw [h15] at hm; cases hm
              | some q16 =>
                obtain ⟨r17, S18⟩ := q16
                rw [h15] at hm
                dsimp only at hm
                refine ev_callV (N := mX11_canGo) (d' := 126) (bc := 0) (bs := 0) (bc' := 0) (bs' := 0) (as := [.int r5, .int r13]) (rest := []) (a := 130) (ci := 11) (dcd tokX11_days rfl) okX11_canGo inX11_canGo seX11_canGo lk11_155 rfl (by decide) (Nat.le_of_ble_eq_true rfl) rfl ⟨by decide, rfl⟩ (gpX11_canGo_130 x S14 r5 r13 _ _ h15) (fun v h' hq hn => ?_)
                obtain ⟨rfl, rfl⟩ := hq
                refine Ev.steps tokX11_days 1 (P := True) (pc' := if r17 = 0 then 141 else 129) (lv' := [some (.ref 130), none, some (.int v2), some (.int v3), some (.int v4), some (.int r5), some (.int r13)]) (st' := []) (h' := mkS x S18) rfl trivial ?_
                refine Ev.ite (fun c19 => ?_) (fun c19 => ?_)
                · rw [if_pos c19] at hm
                  refine Ev.fgt (lv' := [some (.ref 130), none, some (.int v2), some (.int v3), some (.int v4), none, none]) ⟨rfl, rfl, rfl, rfl, trivial⟩ ?_
                  exact bpX11_days_130_141 x k76 hk76 S18 v2 v3 v4 _ _ hm
                · rw [if_neg c19] at hm
                  refine Ev.steps tokX11_days 3 (P := True) (pc' := 134) (lv' := [some (.ref 130), none, some (.int v2), some (.int v3), some (.int v4), some (.int r5), some (.int r13)]) (st' := [.int r13, .int r5, .ref 130]) (h' := mkS x S18) rfl trivial ?_
                  cases h20 : gfX11_goesNow_130 x S18 r5 r13 with
                  | none => rw [h20] at hm; cases hm
                  | some q21 =>
                    obtain ⟨r22, S23⟩ := q21
                    rw [h20] at hm
                    dsimp only at hm
                    refine ev_callV (N := mX11_goesNow) (d' := 126) (bc := 0) (bs := 0) (bc' := 0) (bs' := 0) (as := [.int r5, .int r13]) (rest := []) (a := 130) (ci := 11) (dcd tokX11_days rfl) okX11_goesNow inX11_goesNow seX11_goesNow lk11_365 rfl (by decide) (Nat.le_of_ble_eq_true rfl) rfl ⟨by decide, rfl⟩ (gpX11_goesNow_130 x S18 r5 r13 _ _ h20) (fun v h' hq hn => ?_)
                    obtain ⟨rfl, rfl⟩ := hq
                    refine Ev.steps tokX11_days 2 (P := True) (pc' := 141) (lv' := [some (.ref 130), none, some (.int v2), some (.int (v3 + 1)), some (.int v4), some (.int r5), some (.int r13)]) (st' := []) (h' := mkS x S23) rfl trivial ?_
                    refine Ev.fgt (lv' := [some (.ref 130), none, some (.int v2), some (.int (v3 + 1)), some (.int v4), none, none]) ⟨rfl, rfl, rfl, rfl, trivial⟩ ?_
                    exact bpX11_days_130_141 x k76 hk76 S23 v2 (v3 + 1) v4 _ _ hm
theorem lpX11_days_130_76 (x : XT)  : ∀ (n : Nat) (S : ST) (v2 : Int32) (v3 : Int32) (v4 : Int32) (r : Int32) (S' : ST), lfX11_days_130_76 x  n S v2 v3 v4 = some (r, S') → Ev mX11_days 127 0 0 76 [some (.ref 130), none, some (.int v2), some (.int v3), some (.int v4), none, none] [] (mkS x S) (fun v h => v = some (.int r) ∧ h = mkS x S')
  | 0, _, _, _, _, _, _, hm => by cases hm
  | n + 1, S, v2, v3, v4, r, S', hm => bpX11_days_130_76 x (lfX11_days_130_76 x  n) (lpX11_days_130_76 x  n) S v2 v3 v4 r S' hm
set_option maxHeartbeats 4000000 in
set_option maxRecDepth 20000 in
theorem bpX11_days_130_0 (x : XT)  (S : ST) (p1 : Int32) (p2 : Int32) (r : Int32) (S' : ST) (hm : bfX11_days_130_0 x  S p1 p2 = some (r, S')) : Ev mX11_days 127 0 0 0 [some (.ref 130), some (.int p1), some (.int p2), none, none, none, none] [] (mkS x S) (fun v h => v = some (.int r) ∧ h = mkS x S') := by
    unfold bfX11_days_130_0 at hm
    refine Ev.steps tokX11_days 3 (P := True) (pc' := 4) (lv' := [some (.ref 130), some (.int p1), some (.int p2), none, none, none, none]) (st' := [.int 1000000, .int 0, .int p1]) (h' := mkS x S) rfl trivial ?_
    cases h1 : gfX11_lies x S p1 0 1000000 with
    | none => rw [h1] at hm; cases hm
    | some q2 =>
      obtain ⟨r3, S4⟩ := q2
      rw [h1] at hm
      dsimp only at hm
      refine ev_callS (N := mX11_lies) (d' := 1) (bc := 0) (bs := 0) (bc' := 0) (bs' := 0) (as := [.int p1, .int 0, .int 1000000]) (rest := []) (dcd tokX11_days rfl) okX11_lies inX11_lies lk11_18 rfl (by decide) (Nat.le_of_ble_eq_true rfl) (gpX11_lies x S p1 0 1000000 _ _ h1) (fun v h' hq hn => ?_)
      obtain ⟨rfl, rfl⟩ := hq
      refine Ev.steps tokX11_days 1 (P := True) (pc' := if r3 = 0 then 20 else 10) (lv' := [some (.ref 130), some (.int p1), some (.int p2), none, none, none, none]) (st' := []) (h' := mkS x S4) rfl trivial ?_
      refine Ev.ite (fun c5 => ?_) (fun c5 => ?_)
      · rw [if_pos c5] at hm
        refine Ev.fgt (lv' := [some (.ref 130), none, none, none, none, none, none]) ⟨rfl, trivial⟩ ?_
        exact bpX11_days_130_20 x S4 _ _ hm
      · rw [if_neg c5] at hm
        refine Ev.steps tokX11_days 3 (P := True) (pc' := 14) (lv' := [some (.ref 130), some (.int p1), some (.int p2), none, none, none, none]) (st' := [.int 60, .int 1, .int p2]) (h' := mkS x S4) rfl trivial ?_
        cases h6 : gfX11_lies x S4 p2 1 60 with
        | none => rw [h6] at hm; cases hm
        | some q7 =>
          obtain ⟨r8, S9⟩ := q7
          rw [h6] at hm
          dsimp only at hm
          refine ev_callS (N := mX11_lies) (d' := 1) (bc := 0) (bs := 0) (bc' := 0) (bs' := 0) (as := [.int p2, .int 1, .int 60]) (rest := []) (dcd tokX11_days rfl) okX11_lies inX11_lies lk11_18 rfl (by decide) (Nat.le_of_ble_eq_true rfl) (gpX11_lies x S4 p2 1 60 _ _ h6) (fun v h' hq hn => ?_)
          obtain ⟨rfl, rfl⟩ := hq
          refine Ev.steps tokX11_days 1 (P := True) (pc' := if ¬ r8 = 0 then 26 else 20) (lv' := [some (.ref 130), some (.int p1), some (.int p2), none, none, none, none]) (st' := []) (h' := mkS x S9) rfl trivial ?_
          refine Ev.ite (fun c10 => ?_) (fun c10 => ?_)
          · rw [if_pos c10] at hm
            refine Ev.steps tokX11_days 5 (P := vp_in 92 5703 ∧ True) (pc' := if (S9.2.1 132 92) = 0 then 43 else 36) (lv' := [some (.ref 130), some (.int p1), some (.int p2), none, none, none, none]) (st' := []) (h' := mkS x S9) rfl ⟨(by unfold vp_in; decide), trivial⟩ ?_
            refine Ev.ite (fun c11 => ?_) (fun c11 => ?_)
            · rw [if_pos c11] at hm
              refine Ev.fgt (lv' := [some (.ref 130), none, none, none, none, none, none]) ⟨rfl, trivial⟩ ?_
              exact bpX11_days_130_43 x S9 _ _ hm
            · rw [if_neg c11] at hm
              refine Ev.steps tokX11_days 1 (P := True) (pc' := 37) (lv' := [some (.ref 130), some (.int p1), some (.int p2), none, none, none, none]) (st' := [.ref 130]) (h' := mkS x S9) rfl trivial ?_
              cases h12 : gfX11_gateMany_130 x S9 with
              | none => rw [h12] at hm; cases hm
              | some q13 =>
                obtain ⟨r14, S15⟩ := q13
                rw [h12] at hm
                dsimp only at hm
                refine ev_callV (N := mX11_gateMany) (d' := 1) (bc := 0) (bs := 0) (bc' := 0) (bs' := 0) (as := []) (rest := []) (a := 130) (ci := 11) (dcd tokX11_days rfl) okX11_gateMany inX11_gateMany seX11_gateMany lk11_124 rfl (by decide) (Nat.le_of_ble_eq_true rfl) rfl ⟨by decide, rfl⟩ (gpX11_gateMany_130 x S9 _ _ h12) (fun v h' hq hn => ?_)
                obtain ⟨rfl, rfl⟩ := hq
                refine Ev.steps tokX11_days 1 (P := True) (pc' := if ¬ r14 = 0 then 50 else 43) (lv' := [some (.ref 130), some (.int p1), some (.int p2), none, none, none, none]) (st' := []) (h' := mkS x S15) rfl trivial ?_
                refine Ev.ite (fun c16 => ?_) (fun c16 => ?_)
                · rw [if_pos c16] at hm
                  refine Ev.steps tokX11_days 11 (P := vp_in 92 5703 ∧ True) (pc' := 68) (lv' := [some (.ref 130), some (.int p1), some (.int p2), none, none, none, none]) (st' := [.int 0, .ref 130]) (h' := mkS x ((u2 (u2 S15.1 130 52 p1) 130 51 (S15.2.1 132 92)), S15.2.1, S15.2.2.1, S15.2.2.2)) rfl ⟨(by unfold vp_in; decide), trivial⟩ ?_
                  cases h17 : gfX11_laysAside_130 x ((u2 (u2 S15.1 130 52 p1) 130 51 (S15.2.1 132 92)), S15.2.1, S15.2.2.1, S15.2.2.2) 0 with
                  | none => rw [h17] at hm; cases hm
                  | some q18 =>
                    obtain ⟨r19, S20⟩ := q18
                    rw [h17] at hm
                    dsimp only at hm
                    refine ev_callV (N := mX11_laysAside) (d' := 1) (bc := 0) (bs := 0) (bc' := 0) (bs' := 0) (as := [.int 0]) (rest := []) (a := 130) (ci := 11) (dcd tokX11_days rfl) okX11_laysAside inX11_laysAside seX11_laysAside lk11_460 rfl (by decide) (Nat.le_of_ble_eq_true rfl) rfl ⟨by decide, rfl⟩ (gpX11_laysAside_130 x ((u2 (u2 S15.1 130 52 p1) 130 51 (S15.2.1 132 92)), S15.2.1, S15.2.2.1, S15.2.2.2) 0 _ _ h17) (fun v h' hq hn => ?_)
                    obtain ⟨rfl, rfl⟩ := hq
                    refine Ev.steps tokX11_days 4 (P := True) (pc' := 76) (lv' := [some (.ref 130), some (.int p1), some (.int p2), some (.int 0), some (.int 0), none, none]) (st' := []) (h' := mkS x S20) rfl trivial ?_
                    refine Ev.fgt (lv' := [some (.ref 130), none, some (.int p2), some (.int 0), some (.int 0), none, none]) ⟨rfl, rfl, rfl, rfl, trivial⟩ ?_
                    exact lpX11_days_130_76 x  20000 S20 p2 0 0 _ _ hm
                · rw [if_neg c16] at hm
                  refine Ev.fgt (lv' := [some (.ref 130), none, none, none, none, none, none]) ⟨rfl, trivial⟩ ?_
                  exact bpX11_days_130_43 x S15 _ _ hm
          · rw [if_neg c10] at hm
            refine Ev.fgt (lv' := [some (.ref 130), none, none, none, none, none, none]) ⟨rfl, trivial⟩ ?_
            exact bpX11_days_130_20 x S9 _ _ hm
theorem gpX11_days_130 (x : XT) (S : ST) (p1 : Int32) (p2 : Int32) (r : Int32) (S' : ST) (hm : gfX11_days_130 x S p1 p2 = some (r, S')) : Ct mX11_days 127 0 0 [.ref 130, .int p1, .int p2] (mkS x S) (fun v h => v = some (.int r) ∧ h = mkS x S') :=
  Ct.of (lv := [some (.ref 130), some (.int p1), some (.int p2), none, none, none, none]) rfl rfl rfl (show (_ : Nat) ≤ _ from Nat.le_of_ble_eq_true rfl) (fun G => rfl) (bpX11_days_130_0 x S p1 p2 r S' hm)
end MIR
