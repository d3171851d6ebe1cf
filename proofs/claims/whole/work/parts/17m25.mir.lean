section MIR
set_option maxHeartbeats 4000000 in
set_option maxRecDepth 20000 in
theorem bpX11_readOne_130_18 (x : XT)  (S : ST)  (r : Unit) (S' : ST) (hm : bfX11_readOne_130_18 x  S  = some (r, S')) : Ev mX11_readOne 125 0 0 18 [none] [] (mkS x S) (fun v h => v = none ∧ h = mkS x S') := by
    unfold bfX11_readOne_130_18 at hm
    cases hm
    exact Ev.retv tokX11_readOne rfl rfl ⟨rfl, rfl⟩
set_option maxHeartbeats 4000000 in
set_option maxRecDepth 20000 in
theorem bpX11_readOne_130_0 (x : XT)  (S : ST)  (r : Unit) (S' : ST) (hm : bfX11_readOne_130_0 x  S  = some (r, S')) : Ev mX11_readOne 125 0 0 0 [some (.ref 130)] [] (mkS x S) (fun v h => v = none ∧ h = mkS x S') := by
    unfold bfX11_readOne_130_0 at hm
    refine Ev.steps tokX11_readOne 3 (P := True) (pc' := if (S.1 130 10) = 0 then 14 else 7) (lv' := [some (.ref 130)]) (st' := []) (h' := mkS x S) rfl trivial ?_
    refine Ev.ite (fun c1 => ?_) (fun c1 => ?_)
    · rw [if_pos c1] at hm
      refine Ev.steps tokX11_readOne 1 (P := True) (pc' := 15) (lv' := [some (.ref 130)]) (st' := [.ref 130]) (h' := mkS x S) rfl trivial ?_
      cases h2 : gfX11_readClause_130 x S with
      | none => rw [h2] at hm; cases hm
      | some q3 =>
        obtain ⟨r4, S5⟩ := q3
        rw [h2] at hm
        dsimp only at hm
        refine ev_callV (N := mX11_readClause) (d' := 124) (bc := 0) (bs := 0) (bc' := 0) (bs' := 0) (as := []) (rest := []) (a := 130) (ci := 11) (dcd tokX11_readOne rfl) okX11_readClause inX11_readClause seX11_readClause lk11_241 rfl (by decide) (Nat.le_of_ble_eq_true rfl) rfl ⟨by decide, rfl⟩ (gpX11_readClause_130 x S _ _ h2) (fun v h' hq hn => ?_)
        obtain ⟨rfl, rfl⟩ := hq
        refine Ev.fgt (lv' := [none]) trivial ?_
        exact bpX11_readOne_130_18 x S5 _ _ hm
    · rw [if_neg c1] at hm
      refine Ev.steps tokX11_readOne 1 (P := True) (pc' := 8) (lv' := [some (.ref 130)]) (st' := [.ref 130]) (h' := mkS x S) rfl trivial ?_
      cases h6 : gfX11_readOrder_130 x S with
      | none => rw [h6] at hm; cases hm
      | some q7 =>
        obtain ⟨r8, S9⟩ := q7
        rw [h6] at hm
        dsimp only at hm
        refine ev_callV (N := mX11_readOrder) (d' := 124) (bc := 0) (bs := 0) (bc' := 0) (bs' := 0) (as := []) (rest := []) (a := 130) (ci := 11) (dcd tokX11_readOne rfl) okX11_readOrder inX11_readOrder seX11_readOrder lk11_238 rfl (by decide) (Nat.le_of_ble_eq_true rfl) rfl ⟨by decide, rfl⟩ (gpX11_readOrder_130 x S _ _ h6) (fun v h' hq hn => ?_)
        obtain ⟨rfl, rfl⟩ := hq
        refine Ev.steps tokX11_readOne 1 (P := True) (pc' := 18) (lv' := [some (.ref 130)]) (st' := []) (h' := mkS x S9) rfl trivial ?_
        refine Ev.fgt (lv' := [none]) trivial ?_
        exact bpX11_readOne_130_18 x S9 _ _ hm
theorem gpX11_readOne_130 (x : XT) (S : ST)  (r : Unit) (S' : ST) (hm : gfX11_readOne_130 x S  = some (r, S')) : Ct mX11_readOne 125 0 0 [.ref 130] (mkS x S) (fun v h => v = none ∧ h = mkS x S') :=
  Ct.of (lv := [some (.ref 130)]) rfl rfl rfl (show (_ : Nat) ≤ _ from Nat.le_of_ble_eq_true rfl) (fun G => rfl) (bpX11_readOne_130_0 x S  r S' hm)
set_option maxHeartbeats 4000000 in
set_option maxRecDepth 20000 in
theorem bpX11_reads_130_95 (x : XT)  (S : ST)  (r : Int32) (S' : ST) (hm : bfX11_reads_130_95 x  S  = some (r, S')) : Ev mX11_reads 126 0 0 95 [some (.ref 130), none] [] (mkS x S) (fun v h => v = some (.int r) ∧ h = mkS x S') := by
    unfold bfX11_reads_130_95 at hm
    refine Ev.steps tokX11_reads 5 (P := True) (pc' := 104) (lv' := [some (.ref 130), none]) (st' := [.ref 130]) (h' := mkS x ((u2 S.1 130 14 (S.1 130 21)), S.2.1, S.2.2.1, S.2.2.2)) rfl trivial ?_
    cases h1 : gfX11_fine_130 x ((u2 S.1 130 14 (S.1 130 21)), S.2.1, S.2.2.1, S.2.2.2) with
    | none => rw [h1] at hm; cases hm
    | some q2 =>
      obtain ⟨r3, S4⟩ := q2
      rw [h1] at hm
      dsimp only at hm
      refine ev_callV (N := mX11_fine) (d' := 1) (bc := 0) (bs := 0) (bc' := 0) (bs' := 0) (as := []) (rest := []) (a := 130) (ci := 11) (dcd tokX11_reads rfl) okX11_fine inX11_fine seX11_fine lk11_202 rfl (by decide) (Nat.le_of_ble_eq_true rfl) rfl ⟨by decide, rfl⟩ (gpX11_fine_130 x ((u2 S.1 130 14 (S.1 130 21)), S.2.1, S.2.2.1, S.2.2.2) _ _ h1) (fun v h' hq hn => ?_)
      obtain ⟨rfl, rfl⟩ := hq
      obtain ⟨o5, hm⟩ := oblk hm
      cases hm
      exact Ev.retz tokX11_reads rfl rfl (bbz_ok o5) ⟨rfl, rfl⟩
set_option maxHeartbeats 4000000 in
set_option maxRecDepth 20000 in
theorem bpX11_reads_130_67 (x : XT) (k34 : ST → Int32 → Option (Int32 × ST)) (hk34 : ∀ (S : ST) (v1 : Int32) (r : Int32) (S' : ST), k34 S v1 = some (r, S') → Ev mX11_reads 126 0 0 34 [some (.ref 130), some (.int v1)] [] (mkS x S) (fun v h => v = some (.int r) ∧ h = mkS x S')) (S : ST) (v1 : Int32) (r : Int32) (S' : ST) (hm : bfX11_reads_130_67 x k34 S v1 = some (r, S')) : Ev mX11_reads 126 0 0 67 [some (.ref 130), some (.int v1)] [] (mkS x S) (fun v h => v = some (.int r) ∧ h = mkS x S') := by
    unfold bfX11_reads_130_67 at hm
    refine Ev.steps tokX11_reads 2 (P := True) (pc' := 34) (lv' := [some (.ref 130), some (.int (v1 + 1))]) (st' := []) (h' := mkS x S) rfl trivial ?_
    exact hk34 S (v1 + 1) _ _ hm
set_option maxHeartbeats 4000000 in
set_option maxRecDepth 20000 in
theorem bpX11_reads_130_56 (x : XT) (k34 : ST → Int32 → Option (Int32 × ST)) (hk34 : ∀ (S : ST) (v1 : Int32) (r : Int32) (S' : ST), k34 S v1 = some (r, S') → Ev mX11_reads 126 0 0 34 [some (.ref 130), some (.int v1)] [] (mkS x S) (fun v h => v = some (.int r) ∧ h = mkS x S')) (S : ST) (v1 : Int32) (r : Int32) (S' : ST) (hm : bfX11_reads_130_56 x k34 S v1 = some (r, S')) : Ev mX11_reads 126 0 0 56 [some (.ref 130), some (.int v1)] [] (mkS x S) (fun v h => v = some (.int r) ∧ h = mkS x S') := by
    unfold bfX11_reads_130_56 at hm
    refine Ev.steps tokX11_reads 1 (P := True) (pc' := 57) (lv' := [some (.ref 130), some (.int v1)]) (st' := [.ref 130]) (h' := mkS x S) rfl trivial ?_
    cases h1 : gfX11_fine_130 x S with
    | none => rw [h1] at hm; cases hm
    | some q2 =>
      obtain ⟨r3, S4⟩ := q2
      rw [h1] at hm
      dsimp only at hm
      refine ev_callV (N := mX11_fine) (d' := 1) (bc := 0) (bs := 0) (bc' := 0) (bs' := 0) (as := []) (rest := []) (a := 130) (ci := 11) (dcd tokX11_reads rfl) okX11_fine inX11_fine seX11_fine lk11_202 rfl (by decide) (Nat.le_of_ble_eq_true rfl) rfl ⟨by decide, rfl⟩ (gpX11_fine_130 x S _ _ h1) (fun v h' hq hn => ?_)
      obtain ⟨rfl, rfl⟩ := hq
      refine Ev.steps tokX11_reads 1 (P := True) (pc' := if r3 = 0 then 67 else 63) (lv' := [some (.ref 130), some (.int v1)]) (st' := []) (h' := mkS x S4) rfl trivial ?_
      refine Ev.ite (fun c5 => ?_) (fun c5 => ?_)
      · rw [if_pos c5] at hm
        exact bpX11_reads_130_67 x k34 hk34 S4 v1 _ _ hm
      · rw [if_neg c5] at hm
        refine Ev.steps tokX11_reads 1 (P := True) (pc' := 64) (lv' := [some (.ref 130), some (.int v1)]) (st' := [.ref 130]) (h' := mkS x S4) rfl trivial ?_
        cases h6 : gfX11_readOne_130 x S4 with
        | none => rw [h6] at hm; cases hm
        | some q7 =>
          obtain ⟨r8, S9⟩ := q7
          rw [h6] at hm
          dsimp only at hm
          refine ev_callV (N := mX11_readOne) (d' := 125) (bc := 0) (bs := 0) (bc' := 0) (bs' := 0) (as := []) (rest := []) (a := 130) (ci := 11) (dcd tokX11_reads rfl) okX11_readOne inX11_readOne seX11_readOne lk11_272 rfl (by decide) (Nat.le_of_ble_eq_true rfl) rfl ⟨by decide, rfl⟩ (gpX11_readOne_130 x S4 _ _ h6) (fun v h' hq hn => ?_)
          obtain ⟨rfl, rfl⟩ := hq
          exact bpX11_reads_130_67 x k34 hk34 S9 v1 _ _ hm
set_option maxHeartbeats 4000000 in
set_option maxRecDepth 20000 in
theorem bpX11_reads_130_34 (x : XT) (k34 : ST → Int32 → Option (Int32 × ST)) (hk34 : ∀ (S : ST) (v1 : Int32) (r : Int32) (S' : ST), k34 S v1 = some (r, S') → Ev mX11_reads 126 0 0 34 [some (.ref 130), some (.int v1)] [] (mkS x S) (fun v h => v = some (.int r) ∧ h = mkS x S')) (S : ST) (v1 : Int32) (r : Int32) (S' : ST) (hm : bfX11_reads_130_34 x k34 S v1 = some (r, S')) : Ev mX11_reads 126 0 0 34 [some (.ref 130), some (.int v1)] [] (mkS x S) (fun v h => v = some (.int r) ∧ h = mkS x S') := by
    unfold bfX11_reads_130_34 at hm
    refine Ev.steps tokX11_reads 2 (P := True) (pc' := 37) (lv' := [some (.ref 130), some (.int v1)]) (st' := [.int 59, .ref 130]) (h' := mkS x S) rfl trivial ?_
    cases h1 : gfX11_sign x S 59 with
    | none => rw [h1] at hm; cases hm
    | some q2 =>
      obtain ⟨r3, S4⟩ := q2
      rw [h1] at hm
      dsimp only at hm
      refine ev_callS (N := mX11_sign) (d' := 1) (bc := 0) (bs := 0) (bc' := 0) (bs' := 0) (as := [.int 59]) (rest := [.ref 130]) (dcd tokX11_reads rfl) okX11_sign inX11_sign lk11_250 rfl (by decide) (Nat.le_of_ble_eq_true rfl) (gpX11_sign x S 59 _ _ h1) (fun v h' hq hn => ?_)
      obtain ⟨rfl, rfl⟩ := hq
      cases h5 : gfX11_takes0_130 x S4 r3 with
      | none => rw [h5] at hm; cases hm
      | some q6 =>
        obtain ⟨r7, S8⟩ := q6
        rw [h5] at hm
        dsimp only at hm
        refine ev_callV (N := mX11_takes0) (d' := 2) (bc := 0) (bs := 0) (bc' := 0) (bs' := 0) (as := [.int r3]) (rest := []) (a := 130) (ci := 11) (dcd tokX11_reads rfl) okX11_takes0 inX11_takes0 seX11_takes0 lk11_208 rfl (by decide) (Nat.le_of_ble_eq_true rfl) rfl ⟨by decide, rfl⟩ (gpX11_takes0_130 x S4 r3 _ _ h5) (fun v h' hq hn => ?_)
        obtain ⟨rfl, rfl⟩ := hq
        refine Ev.steps tokX11_reads 1 (P := True) (pc' := if r7 = 0 then 73 else 46) (lv' := [some (.ref 130), some (.int v1)]) (st' := []) (h' := mkS x S8) rfl trivial ?_
        refine Ev.ite (fun c9 => ?_) (fun c9 => ?_)
        · rw [if_pos c9] at hm
          refine Ev.steps tokX11_reads 1 (P := True) (pc' := 74) (lv' := [some (.ref 130), some (.int v1)]) (st' := [.ref 130]) (h' := mkS x S8) rfl trivial ?_
          cases h10 : gfX11_fine_130 x S8 with
          | none => rw [h10] at hm; cases hm
          | some q11 =>
            obtain ⟨r12, S13⟩ := q11
            rw [h10] at hm
            dsimp only at hm
            refine ev_callV (N := mX11_fine) (d' := 1) (bc := 0) (bs := 0) (bc' := 0) (bs' := 0) (as := []) (rest := []) (a := 130) (ci := 11) (dcd tokX11_reads rfl) okX11_fine inX11_fine seX11_fine lk11_202 rfl (by decide) (Nat.le_of_ble_eq_true rfl) rfl ⟨by decide, rfl⟩ (gpX11_fine_130 x S8 _ _ h10) (fun v h' hq hn => ?_)
            obtain ⟨rfl, rfl⟩ := hq
            refine Ev.steps tokX11_reads 1 (P := True) (pc' := if r12 = 0 then 95 else 80) (lv' := [some (.ref 130), some (.int v1)]) (st' := []) (h' := mkS x S13) rfl trivial ?_
            refine Ev.ite (fun c14 => ?_) (fun c14 => ?_)
            · rw [if_pos c14] at hm
              refine Ev.fgt (lv' := [some (.ref 130), none]) ⟨rfl, trivial⟩ ?_
              exact bpX11_reads_130_95 x S13 _ _ hm
            · rw [if_neg c14] at hm
              refine Ev.steps tokX11_reads 5 (P := True) (pc' := if (S13.1 130 18) ≤ (S13.1 130 19) then 95 else 91) (lv' := [some (.ref 130), some (.int v1)]) (st' := []) (h' := mkS x S13) rfl trivial ?_
              refine Ev.ite (fun c15 => ?_) (fun c15 => ?_)
              · rw [if_pos c15] at hm
                refine Ev.fgt (lv' := [some (.ref 130), none]) ⟨rfl, trivial⟩ ?_
                exact bpX11_reads_130_95 x S13 _ _ hm
              · rw [if_neg c15] at hm
                refine Ev.steps tokX11_reads 1 (P := True) (pc' := 92) (lv' := [some (.ref 130), some (.int v1)]) (st' := [.ref 130]) (h' := mkS x S13) rfl trivial ?_
                cases h16 : gfX11_faults_130 x S13 with
                | none => rw [h16] at hm; cases hm
                | some q17 =>
                  obtain ⟨r18, S19⟩ := q17
                  rw [h16] at hm
                  dsimp only at hm
                  refine ev_callV (N := mX11_faults) (d' := 2) (bc := 0) (bs := 0) (bc' := 0) (bs' := 0) (as := []) (rest := []) (a := 130) (ci := 11) (dcd tokX11_reads rfl) okX11_faults inX11_faults seX11_faults lk11_211 rfl (by decide) (Nat.le_of_ble_eq_true rfl) rfl ⟨by decide, rfl⟩ (gpX11_faults_130 x S13 _ _ h16) (fun v h' hq hn => ?_)
                  obtain ⟨rfl, rfl⟩ := hq
                  refine Ev.fgt (lv' := [some (.ref 130), none]) ⟨rfl, trivial⟩ ?_
                  exact bpX11_reads_130_95 x S19 _ _ hm
        · rw [if_neg c9] at hm
          refine Ev.steps tokX11_reads 3 (P := True) (pc' := if ¬ v1 = 12 then 56 else 52) (lv' := [some (.ref 130), some (.int v1)]) (st' := []) (h' := mkS x S8) rfl trivial ?_
          refine Ev.ite (fun c20 => ?_) (fun c20 => ?_)
          · rw [if_pos c20] at hm
            exact bpX11_reads_130_56 x k34 hk34 S8 v1 _ _ hm
          · rw [if_neg c20] at hm
            refine Ev.steps tokX11_reads 1 (P := True) (pc' := 53) (lv' := [some (.ref 130), some (.int v1)]) (st' := [.ref 130]) (h' := mkS x S8) rfl trivial ?_
            cases h21 : gfX11_faults_130 x S8 with
            | none => rw [h21] at hm; cases hm
            | some q22 =>
              obtain ⟨r23, S24⟩ := q22
              rw [h21] at hm
              dsimp only at hm
              refine ev_callV (N := mX11_faults) (d' := 2) (bc := 0) (bs := 0) (bc' := 0) (bs' := 0) (as := []) (rest := []) (a := 130) (ci := 11) (dcd tokX11_reads rfl) okX11_faults inX11_faults seX11_faults lk11_211 rfl (by decide) (Nat.le_of_ble_eq_true rfl) rfl ⟨by decide, rfl⟩ (gpX11_faults_130 x S8 _ _ h21) (fun v h' hq hn => ?_)
              obtain ⟨rfl, rfl⟩ := hq
              exact bpX11_reads_130_56 x k34 hk34 S24 v1 _ _ hm
theorem lpX11_reads_130_34 (x : XT)  : ∀ (n : Nat) (S : ST) (v1 : Int32) (r : Int32) (S' : ST), lfX11_reads_130_34 x  n S v1 = some (r, S') → Ev mX11_reads 126 0 0 34 [some (.ref 130), some (.int v1)] [] (mkS x S) (fun v h => v = some (.int r) ∧ h = mkS x S')
  | 0, _, _, _, _, hm => by cases hm
  | n + 1, S, v1, r, S', hm => bpX11_reads_130_34 x (lfX11_reads_130_34 x  n) (lpX11_reads_130_34 x  n) S v1 r S' hm
set_option maxHeartbeats 4000000 in
set_option maxRecDepth 20000 in
theorem bpX11_reads_130_0 (x : XT)  (S : ST)  (r : Int32) (S' : ST) (hm : bfX11_reads_130_0 x  S  = some (r, S')) : Ev mX11_reads 126 0 0 0 [some (.ref 130), none] [] (mkS x S) (fun v h => v = some (.int r) ∧ h = mkS x S') := by
    unfold bfX11_reads_130_0 at hm
    refine Ev.steps tokX11_reads 3 (P := True) (pc' := 5) (lv' := [some (.ref 130), none]) (st' := [.int (S.1 130 13), .ref 130]) (h' := mkS x S) rfl trivial ?_
    cases h1 : gfX11_splits_130 x S (S.1 130 13) with
    | none => rw [h1] at hm; cases hm
    | some q2 =>
      obtain ⟨r3, S4⟩ := q2
      rw [h1] at hm
      dsimp only at hm
      refine ev_callV (N := mX11_splits) (d' := 2) (bc := 0) (bs := 0) (bc' := 0) (bs' := 0) (as := [.int (S.1 130 13)]) (rest := []) (a := 130) (ci := 11) (dcd tokX11_reads rfl) okX11_splits inX11_splits seX11_splits lk11_269 rfl (by decide) (Nat.le_of_ble_eq_true rfl) rfl ⟨by decide, rfl⟩ (gpX11_splits_130 x S (S.1 130 13) _ _ h1) (fun v h' hq hn => ?_)
      obtain ⟨rfl, rfl⟩ := hq
      refine Ev.steps tokX11_reads 13 (P := True) (pc' := 29) (lv' := [some (.ref 130), none]) (st' := [.ref 130]) (h' := mkS x ((u2 (u2 (u2 (u2 S4.1 130 13 0) 130 19 0) 130 20 0) 130 21 (-1)), S4.2.1, S4.2.2.1, S4.2.2.2)) rfl trivial ?_
      cases h5 : gfX11_readOne_130 x ((u2 (u2 (u2 (u2 S4.1 130 13 0) 130 19 0) 130 20 0) 130 21 (-1)), S4.2.1, S4.2.2.1, S4.2.2.2) with
      | none => rw [h5] at hm; cases hm
      | some q6 =>
        obtain ⟨r7, S8⟩ := q6
        rw [h5] at hm
        dsimp only at hm
        refine ev_callV (N := mX11_readOne) (d' := 125) (bc := 0) (bs := 0) (bc' := 0) (bs' := 0) (as := []) (rest := []) (a := 130) (ci := 11) (dcd tokX11_reads rfl) okX11_readOne inX11_readOne seX11_readOne lk11_272 rfl (by decide) (Nat.le_of_ble_eq_true rfl) rfl ⟨by decide, rfl⟩ (gpX11_readOne_130 x ((u2 (u2 (u2 (u2 S4.1 130 13 0) 130 19 0) 130 20 0) 130 21 (-1)), S4.2.1, S4.2.2.1, S4.2.2.2) _ _ h5) (fun v h' hq hn => ?_)
        obtain ⟨rfl, rfl⟩ := hq
        refine Ev.steps tokX11_reads 2 (P := True) (pc' := 34) (lv' := [some (.ref 130), some (.int 1)]) (st' := []) (h' := mkS x S8) rfl trivial ?_
        exact lpX11_reads_130_34 x  20000 S8 1 _ _ hm
theorem gpX11_reads_130 (x : XT) (S : ST)  (r : Int32) (S' : ST) (hm : gfX11_reads_130 x S  = some (r, S')) : Ct mX11_reads 126 0 0 [.ref 130] (mkS x S) (fun v h => v = some (.int r) ∧ h = mkS x S') :=
  Ct.of (lv := [some (.ref 130), none]) rfl rfl rfl (show (_ : Nat) ≤ _ from Nat.le_of_ble_eq_true rfl) (fun G => rfl) (bpX11_reads_130_0 x S  r S' hm)
set_option maxHeartbeats 4000000 in
set_option maxRecDepth 20000 in
theorem bpX11_readsAs_130_32 (x : XT)  (S : ST) (t1 : Int32) (r : Int32) (S' : ST) (hm : bfX11_readsAs_130_32 x  S t1 = some (r, S')) : Ev mX11_readsAs 127 0 0 32 [some (.ref 130), none] [.int t1, .ref 130] (mkS x S) (fun v h => v = some (.int r) ∧ h = mkS x S') := by
    unfold bfX11_readsAs_130_32 at hm
    refine Ev.steps tokX11_readsAs 2 (P := True) (pc' := 36) (lv' := [some (.ref 130), none]) (st' := [.ref 130]) (h' := mkS x ((u2 S.1 130 9 t1), S.2.1, S.2.2.1, S.2.2.2)) rfl trivial ?_
    cases h1 : gfX11_reads_130 x ((u2 S.1 130 9 t1), S.2.1, S.2.2.1, S.2.2.2) with
    | none => rw [h1] at hm; cases hm
    | some q2 =>
      obtain ⟨r3, S4⟩ := q2
      rw [h1] at hm
      dsimp only at hm
      refine ev_callV (N := mX11_reads) (d' := 126) (bc := 0) (bs := 0) (bc' := 0) (bs' := 0) (as := []) (rest := []) (a := 130) (ci := 11) (dcd tokX11_readsAs rfl) okX11_reads inX11_reads seX11_reads lk11_275 rfl (by decide) (Nat.le_of_ble_eq_true rfl) rfl ⟨by decide, rfl⟩ (gpX11_reads_130 x ((u2 S.1 130 9 t1), S.2.1, S.2.2.1, S.2.2.2) _ _ h1) (fun v h' hq hn => ?_)
      obtain ⟨rfl, rfl⟩ := hq
      obtain ⟨o5, hm⟩ := oblk hm
      cases hm
      exact Ev.retz tokX11_readsAs rfl rfl (bbz_ok o5) ⟨rfl, rfl⟩
set_option maxHeartbeats 4000000 in
set_option maxRecDepth 20000 in
theorem bpX11_readsAs_130_17 (x : XT)  (S : ST) (v1 : Int32) (t1 : Int32) (r : Int32) (S' : ST) (hm : bfX11_readsAs_130_17 x  S v1 t1 = some (r, S')) : Ev mX11_readsAs 127 0 0 17 [some (.ref 130), some (.int v1)] [.int t1, .ref 130] (mkS x S) (fun v h => v = some (.int r) ∧ h = mkS x S') := by
    unfold bfX11_readsAs_130_17 at hm
    refine Ev.steps tokX11_readsAs 4 (P := True) (pc' := if v1 = 0 then 30 else 25) (lv' := [some (.ref 130), some (.int v1)]) (st' := [.ref 130]) (h' := mkS x ((u2 S.1 130 8 t1), S.2.1, S.2.2.1, S.2.2.2)) rfl trivial ?_
    refine Ev.ite (fun c1 => ?_) (fun c1 => ?_)
    · rw [if_pos c1] at hm
      refine Ev.steps tokX11_readsAs 1 (P := True) (pc' := 32) (lv' := [some (.ref 130), some (.int v1)]) (st' := [.int 15, .ref 130]) (h' := mkS x ((u2 S.1 130 8 t1), S.2.1, S.2.2.1, S.2.2.2)) rfl trivial ?_
      refine Ev.fgt (lv' := [some (.ref 130), none]) ⟨rfl, trivial⟩ ?_
      exact bpX11_readsAs_130_32 x ((u2 S.1 130 8 t1), S.2.1, S.2.2.1, S.2.2.2) 15 _ _ hm
    · rw [if_neg c1] at hm
      refine Ev.steps tokX11_readsAs 2 (P := True) (pc' := 32) (lv' := [some (.ref 130), some (.int v1)]) (st' := [.int 19, .ref 130]) (h' := mkS x ((u2 S.1 130 8 t1), S.2.1, S.2.2.1, S.2.2.2)) rfl trivial ?_
      refine Ev.fgt (lv' := [some (.ref 130), none]) ⟨rfl, trivial⟩ ?_
      exact bpX11_readsAs_130_32 x ((u2 S.1 130 8 t1), S.2.1, S.2.2.1, S.2.2.2) 19 _ _ hm
set_option maxHeartbeats 4000000 in
set_option maxRecDepth 20000 in
theorem bpX11_readsAs_130_0 (x : XT)  (S : ST) (p1 : Int32) (r : Int32) (S' : ST) (hm : bfX11_readsAs_130_0 x  S p1 = some (r, S')) : Ev mX11_readsAs 127 0 0 0 [some (.ref 130), some (.int p1)] [] (mkS x S) (fun v h => v = some (.int r) ∧ h = mkS x S') := by
    unfold bfX11_readsAs_130_0 at hm
    obtain ⟨o1, hm⟩ := oblk hm
    refine Ev.steps tokX11_readsAs 6 (P := (p1 = 0 ∨ p1 = 1) ∧ True) (pc' := if p1 = 0 then 15 else 10) (lv' := [some (.ref 130), some (.int p1)]) (st' := [.ref 130]) (h' := mkS x ((u2 S.1 130 10 p1), S.2.1, S.2.2.1, S.2.2.2)) rfl ⟨bbz_ok o1, trivial⟩ ?_
    refine Ev.ite (fun c2 => ?_) (fun c2 => ?_)
    · rw [if_pos c2] at hm
      refine Ev.steps tokX11_readsAs 1 (P := True) (pc' := 17) (lv' := [some (.ref 130), some (.int p1)]) (st' := [.int 8, .ref 130]) (h' := mkS x ((u2 S.1 130 10 p1), S.2.1, S.2.2.1, S.2.2.2)) rfl trivial ?_
      exact bpX11_readsAs_130_17 x ((u2 S.1 130 10 p1), S.2.1, S.2.2.1, S.2.2.2) p1 8 _ _ hm
    · rw [if_neg c2] at hm
      refine Ev.steps tokX11_readsAs 2 (P := True) (pc' := 17) (lv' := [some (.ref 130), some (.int p1)]) (st' := [.int 13, .ref 130]) (h' := mkS x ((u2 S.1 130 10 p1), S.2.1, S.2.2.1, S.2.2.2)) rfl trivial ?_
      exact bpX11_readsAs_130_17 x ((u2 S.1 130 10 p1), S.2.1, S.2.2.1, S.2.2.2) p1 13 _ _ hm
theorem gpX11_readsAs_130 (x : XT) (S : ST) (p1 : Int32) (r : Int32) (S' : ST) (hm : gfX11_readsAs_130 x S p1 = some (r, S')) : Ct mX11_readsAs 127 0 0 [.ref 130, .int p1] (mkS x S) (fun v h => v = some (.int r) ∧ h = mkS x S') :=
  Ct.of (lv := [some (.ref 130), some (.int p1)]) rfl rfl rfl (show (_ : Nat) ≤ _ from Nat.le_of_ble_eq_true rfl) (fun G => rfl) (bpX11_readsAs_130_0 x S p1 r S' hm)
set_option maxHeartbeats 4000000 in
set_option maxRecDepth 20000 in
theorem bpX11_lays_130_15 (x : XT) (k15 : ST → Int32 → Int32 → Option (Unit × ST)) (hk15 : ∀ (S : ST) (v1 : Int32) (v2 : Int32) (r : Unit) (S' : ST), k15 S v1 v2 = some (r, S') → Ev mX11_lays 1 0 0 15 [some (.ref 130), some (.int v1), some (.int v2)] [] (mkS x S) (fun v h => v = none ∧ h = mkS x S')) (S : ST) (v1 : Int32) (v2 : Int32) (r : Unit) (S' : ST) (hm : bfX11_lays_130_15 x k15 S v1 v2 = some (r, S')) : Ev mX11_lays 1 0 0 15 [some (.ref 130), some (.int v1), some (.int v2)] [] (mkS x S) (fun v h => v = none ∧ h = mkS x S') := by
    unfold bfX11_lays_130_15 at hm
    refine Ev.steps tokX11_lays 4 (P := True) (pc' := if (S.1 130 18) ≤ v2 then 72 else 23) (lv' := [some (.ref 130), some (.int v1), some (.int v2)]) (st' := []) (h' := mkS x S) rfl trivial ?_
    refine Ev.ite (fun c1 => ?_) (fun c1 => ?_)
    · rw [if_pos c1] at hm
      cases hm
      exact Ev.retv tokX11_lays rfl rfl ⟨rfl, rfl⟩
    · rw [if_neg c1] at hm
      obtain ⟨o2, hm⟩ := oblk hm
      obtain ⟨o3, hm⟩ := oblk hm
      obtain ⟨o4, hm⟩ := oblk hm
      obtain ⟨o5, hm⟩ := oblk hm
      refine Ev.steps tokX11_lays 30 (P := vp_in v2 401 ∧ vp_in ((103 + (400 * v1)) + v2) 5703 ∧ vp_in v2 401 ∧ vp_in ((2903 + (400 * v1)) + v2) 5703 ∧ True) (pc' := 15) (lv' := [some (.ref 130), some (.int v1), some (.int (v2 + 1))]) (st' := []) (h' := mkS x (S.1, (u2 (u2 S.2.1 132 (((103 + (400 * v1)) + v2).toNatClampNeg) (S.2.1 139 v2.toNatClampNeg)) 132 (((2903 + (400 * v1)) + v2).toNatClampNeg) (S.2.1 140 v2.toNatClampNeg)), S.2.2.1, S.2.2.2)) rfl ⟨inb_ok o2, inb_ok o3, inb_ok o4, inb_ok o5, trivial⟩ ?_
      exact hk15 (S.1, (u2 (u2 S.2.1 132 (((103 + (400 * v1)) + v2).toNatClampNeg) (S.2.1 139 v2.toNatClampNeg)) 132 (((2903 + (400 * v1)) + v2).toNatClampNeg) (S.2.1 140 v2.toNatClampNeg)), S.2.2.1, S.2.2.2) v1 (v2 + 1) _ _ hm
theorem lpX11_lays_130_15 (x : XT)  : ∀ (n : Nat) (S : ST) (v1 : Int32) (v2 : Int32) (r : Unit) (S' : ST), lfX11_lays_130_15 x  n S v1 v2 = some (r, S') → Ev mX11_lays 1 0 0 15 [some (.ref 130), some (.int v1), some (.int v2)] [] (mkS x S) (fun v h => v = none ∧ h = mkS x S')
  | 0, _, _, _, _, _, hm => by cases hm
  | n + 1, S, v1, v2, r, S', hm => bpX11_lays_130_15 x (lfX11_lays_130_15 x  n) (lpX11_lays_130_15 x  n) S v1 v2 r S' hm
set_option maxHeartbeats 4000000 in
set_option maxRecDepth 20000 in
theorem bpX11_lays_130_0 (x : XT)  (S : ST) (p1 : Int32) (r : Unit) (S' : ST) (hm : bfX11_lays_130_0 x  S p1 = some (r, S')) : Ev mX11_lays 1 0 0 0 [some (.ref 130), some (.int p1), none] [] (mkS x S) (fun v h => v = none ∧ h = mkS x S') := by
    unfold bfX11_lays_130_0 at hm
    obtain ⟨o1, hm⟩ := oblk hm
    refine Ev.steps tokX11_lays 10 (P := vp_in (96 + p1) 5703 ∧ True) (pc' := 15) (lv' := [some (.ref 130), some (.int p1), some (.int 0)]) (st' := []) (h' := mkS x (S.1, (u2 S.2.1 132 ((96 + p1).toNatClampNeg) (S.1 130 18)), S.2.2.1, S.2.2.2)) rfl ⟨inb_ok o1, trivial⟩ ?_
    exact lpX11_lays_130_15 x  20000 (S.1, (u2 S.2.1 132 ((96 + p1).toNatClampNeg) (S.1 130 18)), S.2.2.1, S.2.2.2) p1 0 _ _ hm
theorem gpX11_lays_130 (x : XT) (S : ST) (p1 : Int32) (r : Unit) (S' : ST) (hm : gfX11_lays_130 x S p1 = some (r, S')) : Ct mX11_lays 1 0 0 [.ref 130, .int p1] (mkS x S) (fun v h => v = none ∧ h = mkS x S') :=
  Ct.of (lv := [some (.ref 130), some (.int p1), none]) rfl rfl rfl (show (_ : Nat) ≤ _ from Nat.le_of_ble_eq_true rfl) (fun G => rfl) (bpX11_lays_130_0 x S p1 r S' hm)
set_option maxHeartbeats 4000000 in
set_option maxRecDepth 20000 in
theorem bpX11_law_130_0 (x : XT)  (S : ST)  (r : Int32) (S' : ST) (hm : bfX11_law_130_0 x  S  = some (r, S')) : Ev mX11_law 128 0 0 0 [some (.ref 130)] [] (mkS x S) (fun v h => v = some (.int r) ∧ h = mkS x S') := by
    unfold bfX11_law_130_0 at hm
    refine Ev.steps tokX11_law 6 (P := vp_in 94 5703 ∧ True) (pc' := if ¬ (S.2.1 132 94) = 6 then 24 else 12) (lv' := [some (.ref 130)]) (st' := []) (h' := mkS x S) rfl ⟨(by unfold vp_in; decide), trivial⟩ ?_
    refine Ev.ite (fun c1 => ?_) (fun c1 => ?_)
    · rw [if_pos c1] at hm
      refine Ev.steps tokX11_law 2 (P := True) (pc' := 26) (lv' := [some (.ref 130)]) (st' := [.int 0, .ref 130]) (h' := mkS x S) rfl trivial ?_
      cases h2 : gfX11_readsAs_130 x S 0 with
      | none => rw [h2] at hm; cases hm
      | some q3 =>
        obtain ⟨r4, S5⟩ := q3
        rw [h2] at hm
        dsimp only at hm
        refine ev_callV (N := mX11_readsAs) (d' := 127) (bc := 0) (bs := 0) (bc' := 0) (bs' := 0) (as := [.int 0]) (rest := []) (a := 130) (ci := 11) (dcd tokX11_law rfl) okX11_readsAs inX11_readsAs seX11_readsAs lk11_278 rfl (by decide) (Nat.le_of_ble_eq_true rfl) rfl ⟨by decide, rfl⟩ (gpX11_readsAs_130 x S 0 _ _ h2) (fun v h' hq hn => ?_)
        obtain ⟨rfl, rfl⟩ := hq
        refine Ev.steps tokX11_law 1 (P := True) (pc' := if ¬ r4 = 0 then 39 else 32) (lv' := [some (.ref 130)]) (st' := []) (h' := mkS x S5) rfl trivial ?_
        refine Ev.ite (fun c6 => ?_) (fun c6 => ?_)
        · rw [if_pos c6] at hm
          refine Ev.steps tokX11_law 5 (P := vp_in 94 5703 ∧ True) (pc' := 47) (lv' := [some (.ref 130)]) (st' := [.int (S5.2.1 132 94), .ref 130]) (h' := mkS x S5) rfl ⟨(by unfold vp_in; decide), trivial⟩ ?_
          cases h7 : gfX11_lays_130 x S5 (S5.2.1 132 94) with
          | none => rw [h7] at hm; cases hm
          | some q8 =>
            obtain ⟨r9, S10⟩ := q8
            rw [h7] at hm
            dsimp only at hm
            refine ev_callV (N := mX11_lays) (d' := 1) (bc := 0) (bs := 0) (bc' := 0) (bs' := 0) (as := [.int (S5.2.1 132 94)]) (rest := []) (a := 130) (ci := 11) (dcd tokX11_law rfl) okX11_lays inX11_lays seX11_lays lk11_282 rfl (by decide) (Nat.le_of_ble_eq_true rfl) rfl ⟨by decide, rfl⟩ (gpX11_lays_130 x S5 (S5.2.1 132 94) _ _ h7) (fun v h' hq hn => ?_)
            obtain ⟨rfl, rfl⟩ := hq
            refine Ev.steps tokX11_law 15 (P := vp_in 94 5703 ∧ vp_in 94 5703 ∧ vp_in 94 5703 ∧ True) (pc' := 71) (lv' := [some (.ref 130)]) (st' := [.int (((S10.2.1 132 94) + 1) - 1), .ref 130]) (h' := mkS x (S10.1, (u2 S10.2.1 132 94 ((S10.2.1 132 94) + 1)), S10.2.2.1, S10.2.2.2)) rfl ⟨(by unfold vp_in; decide), (by unfold vp_in; decide), (by unfold vp_in; decide), trivial⟩ ?_
            cases h11 : gfX11_good_130 x (S10.1, (u2 S10.2.1 132 94 ((S10.2.1 132 94) + 1)), S10.2.2.1, S10.2.2.2) (((S10.2.1 132 94) + 1) - 1) with
            | none => rw [h11] at hm; cases hm
            | some q12 =>
              obtain ⟨r13, S14⟩ := q12
              rw [h11] at hm
              dsimp only at hm
              refine ev_callV (N := mX11_good) (d' := 1) (bc := 0) (bs := 0) (bc' := 0) (bs' := 0) (as := [.int (((S10.2.1 132 94) + 1) - 1)]) (rest := []) (a := 130) (ci := 11) (dcd tokX11_law rfl) okX11_good inX11_good seX11_good lk11_14 rfl (by decide) (Nat.le_of_ble_eq_true rfl) rfl ⟨by decide, rfl⟩ (gpX11_good_130 x (S10.1, (u2 S10.2.1 132 94 ((S10.2.1 132 94) + 1)), S10.2.2.1, S10.2.2.2) (((S10.2.1 132 94) + 1) - 1) _ _ h11) (fun v h' hq hn => ?_)
              obtain ⟨rfl, rfl⟩ := hq
              cases hm
              exact Ev.reti tokX11_law rfl rfl ⟨rfl, rfl⟩
        · rw [if_neg c6] at hm
          refine Ev.steps tokX11_law 2 (P := True) (pc' := 35) (lv' := [some (.ref 130)]) (st' := [.int (-6), .ref 130]) (h' := mkS x S5) rfl trivial ?_
          cases h15 : gfX11_refuses_130 x S5 (-6) with
          | none => rw [h15] at hm; cases hm
          | some q16 =>
            obtain ⟨r17, S18⟩ := q16
            rw [h15] at hm
            dsimp only at hm
            refine ev_callV (N := mX11_refuses) (d' := 1) (bc := 0) (bs := 0) (bc' := 0) (bs' := 0) (as := [.int (-6)]) (rest := []) (a := 130) (ci := 11) (dcd tokX11_law rfl) okX11_refuses inX11_refuses seX11_refuses lk11_118 rfl (by decide) (Nat.le_of_ble_eq_true rfl) rfl ⟨by decide, rfl⟩ (gpX11_refuses_130 x S5 (-6) _ _ h15) (fun v h' hq hn => ?_)
            obtain ⟨rfl, rfl⟩ := hq
            cases hm
            exact Ev.reti tokX11_law rfl rfl ⟨rfl, rfl⟩
    · rw [if_neg c1] at hm
      refine Ev.steps tokX11_law 5 (P := True) (pc' := 20) (lv' := [some (.ref 130)]) (st' := [.int (-5), .ref 130]) (h' := mkS x ((u2 S.1 130 13 0), S.2.1, S.2.2.1, S.2.2.2)) rfl trivial ?_
      cases h19 : gfX11_refuses_130 x ((u2 S.1 130 13 0), S.2.1, S.2.2.1, S.2.2.2) (-5) with
      | none => rw [h19] at hm; cases hm
      | some q20 =>
        obtain ⟨r21, S22⟩ := q20
        rw [h19] at hm
        dsimp only at hm
        refine ev_callV (N := mX11_refuses) (d' := 1) (bc := 0) (bs := 0) (bc' := 0) (bs' := 0) (as := [.int (-5)]) (rest := []) (a := 130) (ci := 11) (dcd tokX11_law rfl) okX11_refuses inX11_refuses seX11_refuses lk11_118 rfl (by decide) (Nat.le_of_ble_eq_true rfl) rfl ⟨by decide, rfl⟩ (gpX11_refuses_130 x ((u2 S.1 130 13 0), S.2.1, S.2.2.1, S.2.2.2) (-5) _ _ h19) (fun v h' hq hn => ?_)
        obtain ⟨rfl, rfl⟩ := hq
        cases hm
        exact Ev.reti tokX11_law rfl rfl ⟨rfl, rfl⟩
theorem gpX11_law_130 (x : XT) (S : ST)  (r : Int32) (S' : ST) (hm : gfX11_law_130 x S  = some (r, S')) : Ct mX11_law 128 0 0 [.ref 130] (mkS x S) (fun v h => v = some (.int r) ∧ h = mkS x S') :=
  Ct.of (lv := [some (.ref 130)]) rfl rfl rfl (show (_ : Nat) ≤ _ from Nat.le_of_ble_eq_true rfl) (fun G => rfl) (bpX11_law_130_0 x S  r S' hm)
set_option maxHeartbeats 4000000 in
set_option maxRecDepth 20000 in
theorem bpX11_fault_130_0 (x : XT)  (S : ST)  (r : Int32) (S' : ST) (hm : bfX11_fault_130_0 x  S  = some (r, S')) : Ev mX11_fault 1 0 0 0 [some (.ref 130)] [] (mkS x S) (fun v h => v = some (.int r) ∧ h = mkS x S') := by
    unfold bfX11_fault_130_0 at hm
    refine Ev.steps tokX11_fault 2 (P := True) (pc' := 4) (lv' := [some (.ref 130)]) (st' := [.int (S.1 130 14)]) (h' := mkS x S) rfl trivial ?_
    cases hm
    exact Ev.reti tokX11_fault rfl rfl ⟨rfl, rfl⟩
theorem gpX11_fault_130 (x : XT) (S : ST)  (r : Int32) (S' : ST) (hm : gfX11_fault_130 x S  = some (r, S')) : Ct mX11_fault 1 0 0 [.ref 130] (mkS x S) (fun v h => v = some (.int r) ∧ h = mkS x S') :=
  Ct.of (lv := [some (.ref 130)]) rfl rfl rfl (show (_ : Nat) ≤ _ from Nat.le_of_ble_eq_true rfl) (fun G => rfl) (bpX11_fault_130_0 x S  r S' hm)
set_option maxHeartbeats 4000000 in
set_option maxRecDepth 20000 in
theorem bpX11_isLaw_130_0 (x : XT)  (S : ST) (p1 : Int32) (r : Int32) (S' : ST) (hm : bfX11_isLaw_130_0 x  S p1 = some (r, S')) : Ev mX11_isLaw 2 0 0 0 [some (.ref 130), some (.int p1)] [] (mkS x S) (fun v h => v = some (.int r) ∧ h = mkS x S') := by
    unfold bfX11_isLaw_130_0 at hm
    refine Ev.steps tokX11_isLaw 8 (P := vp_in 94 5703 ∧ True) (pc' := 11) (lv' := [some (.ref 130), some (.int p1)]) (st' := [.int ((S.2.1 132 94) - 1), .int (-1), .int p1]) (h' := mkS x S) rfl ⟨(by unfold vp_in; decide), trivial⟩ ?_
    cases h1 : gfX11_lies x S p1 (-1) ((S.2.1 132 94) - 1) with
    | none => rw [h1] at hm; cases hm
    | some q2 =>
      obtain ⟨r3, S4⟩ := q2
      rw [h1] at hm
      dsimp only at hm
      refine ev_callS (N := mX11_lies) (d' := 1) (bc := 0) (bs := 0) (bc' := 0) (bs' := 0) (as := [.int p1, .int (-1), .int ((S.2.1 132 94) - 1)]) (rest := []) (dcd tokX11_isLaw rfl) okX11_lies inX11_lies lk11_18 rfl (by decide) (Nat.le_of_ble_eq_true rfl) (gpX11_lies x S p1 (-1) ((S.2.1 132 94) - 1) _ _ h1) (fun v h' hq hn => ?_)
      obtain ⟨rfl, rfl⟩ := hq
      obtain ⟨o5, hm⟩ := oblk hm
      cases hm
      exact Ev.retz tokX11_isLaw rfl rfl (bbz_ok o5) ⟨rfl, rfl⟩
theorem gpX11_isLaw_130 (x : XT) (S : ST) (p1 : Int32) (r : Int32) (S' : ST) (hm : gfX11_isLaw_130 x S p1 = some (r, S')) : Ct mX11_isLaw 2 0 0 [.ref 130, .int p1] (mkS x S) (fun v h => v = some (.int r) ∧ h = mkS x S') :=
  Ct.of (lv := [some (.ref 130), some (.int p1)]) rfl rfl rfl (show (_ : Nat) ≤ _ from Nat.le_of_ble_eq_true rfl) (fun G => rfl) (bpX11_isLaw_130_0 x S p1 r S' hm)
set_option maxHeartbeats 4000000 in
set_option maxRecDepth 20000 in
theorem bpX11_force_130_0 (x : XT)  (S : ST) (p1 : Int32) (r : Int32) (S' : ST) (hm : bfX11_force_130_0 x  S p1 = some (r, S')) : Ev mX11_force 3 0 0 0 [some (.ref 130), some (.int p1), none] [] (mkS x S) (fun v h => v = some (.int r) ∧ h = mkS x S') := by
    unfold bfX11_force_130_0 at hm
    refine Ev.steps tokX11_force 2 (P := True) (pc' := 2) (lv' := [some (.ref 130), some (.int p1), none]) (st' := [.int p1, .ref 130]) (h' := mkS x S) rfl trivial ?_
    cases h1 : gfX11_isLaw_130 x S p1 with
    | none => rw [h1] at hm; cases hm
    | some q2 =>
      obtain ⟨r3, S4⟩ := q2
      rw [h1] at hm
      dsimp only at hm
      refine ev_callV (N := mX11_isLaw) (d' := 2) (bc := 0) (bs := 0) (bc' := 0) (bs' := 0) (as := [.int p1]) (rest := []) (a := 130) (ci := 11) (dcd tokX11_force rfl) okX11_isLaw inX11_isLaw seX11_isLaw lk11_285 rfl (by decide) (Nat.le_of_ble_eq_true rfl) rfl ⟨by decide, rfl⟩ (gpX11_isLaw_130 x S p1 _ _ h1) (fun v h' hq hn => ?_)
      obtain ⟨rfl, rfl⟩ := hq
      refine Ev.steps tokX11_force 1 (P := True) (pc' := if ¬ r3 = 0 then 15 else 8) (lv' := [some (.ref 130), some (.int p1), none]) (st' := []) (h' := mkS x S4) rfl trivial ?_
      refine Ev.ite (fun c5 => ?_) (fun c5 => ?_)
      · rw [if_pos c5] at hm
        refine Ev.steps tokX11_force 12 (P := vp_in 95 5703 ∧ vp_in 95 5703 ∧ True) (pc' := 33) (lv' := [some (.ref 130), some (.int p1), some (.int (S4.2.1 132 95))]) (st' := [.int (S4.2.1 132 95), .ref 130]) (h' := mkS x (S4.1, (u2 S4.2.1 132 95 p1), S4.2.2.1, S4.2.2.2)) rfl ⟨(by unfold vp_in; decide), (by unfold vp_in; decide), trivial⟩ ?_
        cases h6 : gfX11_good_130 x (S4.1, (u2 S4.2.1 132 95 p1), S4.2.2.1, S4.2.2.2) (S4.2.1 132 95) with
        | none => rw [h6] at hm; cases hm
        | some q7 =>
          obtain ⟨r8, S9⟩ := q7
          rw [h6] at hm
          dsimp only at hm
          refine ev_callV (N := mX11_good) (d' := 1) (bc := 0) (bs := 0) (bc' := 0) (bs' := 0) (as := [.int (S4.2.1 132 95)]) (rest := []) (a := 130) (ci := 11) (dcd tokX11_force rfl) okX11_good inX11_good seX11_good lk11_14 rfl (by decide) (Nat.le_of_ble_eq_true rfl) rfl ⟨by decide, rfl⟩ (gpX11_good_130 x (S4.1, (u2 S4.2.1 132 95 p1), S4.2.2.1, S4.2.2.2) (S4.2.1 132 95) _ _ h6) (fun v h' hq hn => ?_)
          obtain ⟨rfl, rfl⟩ := hq
          cases hm
          exact Ev.reti tokX11_force rfl rfl ⟨rfl, rfl⟩
      · rw [if_neg c5] at hm
        refine Ev.steps tokX11_force 2 (P := True) (pc' := 11) (lv' := [some (.ref 130), some (.int p1), none]) (st' := [.int (-2), .ref 130]) (h' := mkS x S4) rfl trivial ?_
        cases h10 : gfX11_refuses_130 x S4 (-2) with
        | none => rw [h10] at hm; cases hm
        | some q11 =>
          obtain ⟨r12, S13⟩ := q11
          rw [h10] at hm
          dsimp only at hm
          refine ev_callV (N := mX11_refuses) (d' := 1) (bc := 0) (bs := 0) (bc' := 0) (bs' := 0) (as := [.int (-2)]) (rest := []) (a := 130) (ci := 11) (dcd tokX11_force rfl) okX11_refuses inX11_refuses seX11_refuses lk11_118 rfl (by decide) (Nat.le_of_ble_eq_true rfl) rfl ⟨by decide, rfl⟩ (gpX11_refuses_130 x S4 (-2) _ _ h10) (fun v h' hq hn => ?_)
          obtain ⟨rfl, rfl⟩ := hq
          cases hm
          exact Ev.reti tokX11_force rfl rfl ⟨rfl, rfl⟩
theorem gpX11_force_130 (x : XT) (S : ST) (p1 : Int32) (r : Int32) (S' : ST) (hm : gfX11_force_130 x S p1 = some (r, S')) : Ct mX11_force 3 0 0 [.ref 130, .int p1] (mkS x S) (fun v h => v = some (.int r) ∧ h = mkS x S') :=
  Ct.of (lv := [some (.ref 130), some (.int p1), none]) rfl rfl rfl (show (_ : Nat) ≤ _ from Nat.le_of_ble_eq_true rfl) (fun G => rfl) (bpX11_force_130_0 x S p1 r S' hm)
set_option maxHeartbeats 4000000 in
set_option maxRecDepth 20000 in
theorem bpX11_goesNow_130_0 (x : XT)  (S : ST) (p1 : Int32) (p2 : Int32) (r : Int32) (S' : ST) (hm : bfX11_goesNow_130_0 x  S p1 p2 = some (r, S')) : Ev mX11_goesNow 126 0 0 0 [some (.ref 130), some (.int p1), some (.int p2), none, none] [] (mkS x S) (fun v h => v = some (.int r) ∧ h = mkS x S') := by
    unfold bfX11_goesNow_130_0 at hm
    obtain ⟨o1, hm⟩ := oblk hm
    refine Ev.steps tokX11_goesNow 9 (P := vp_in (5 + p1) 5703 ∧ True) (pc' := 11) (lv' := [some (.ref 130), some (.int p1), some (.int p2), none, none]) (st' := [.int (S.2.1 132 ((5 + p1).toNatClampNeg)), .int p2, .int p1, .ref 130]) (h' := mkS x S) rfl ⟨inb_ok o1, trivial⟩ ?_
    cases h2 : gfX11_setsGate_130 x S p1 p2 (S.2.1 132 ((5 + p1).toNatClampNeg)) with
    | none => rw [h2] at hm; cases hm
    | some q3 =>
      obtain ⟨r4, S5⟩ := q3
      rw [h2] at hm
      dsimp only at hm
      refine ev_callV (N := mX11_setsGate) (d' := 2) (bc := 0) (bs := 0) (bc' := 0) (bs' := 0) (as := [.int p1, .int p2, .int (S.2.1 132 ((5 + p1).toNatClampNeg))]) (rest := []) (a := 130) (ci := 11) (dcd tokX11_goesNow rfl) okX11_setsGate inX11_setsGate seX11_setsGate lk11_159 rfl (by decide) (Nat.le_of_ble_eq_true rfl) rfl ⟨by decide, rfl⟩ (gpX11_setsGate_130 x S p1 p2 (S.2.1 132 ((5 + p1).toNatClampNeg)) _ _ h2) (fun v h' hq hn => ?_)
      obtain ⟨rfl, rfl⟩ := hq
      refine Ev.steps tokX11_goesNow 1 (P := True) (pc' := 15) (lv' := [some (.ref 130), some (.int p1), some (.int p2), none, none]) (st' := [.ref 130]) (h' := mkS x S5) rfl trivial ?_
      cases h6 : gfX11_turnsNow_130 x S5 with
      | none => rw [h6] at hm; cases hm
      | some q7 =>
        obtain ⟨r8, S9⟩ := q7
        rw [h6] at hm
        dsimp only at hm
        refine ev_callV (N := mX11_turnsNow) (d' := 125) (bc := 0) (bs := 0) (bc' := 0) (bs' := 0) (as := []) (rest := []) (a := 130) (ci := 11) (dcd tokX11_goesNow rfl) okX11_turnsNow inX11_turnsNow seX11_turnsNow lk11_163 rfl (by decide) (Nat.le_of_ble_eq_true rfl) rfl ⟨by decide, rfl⟩ (gpX11_turnsNow_130 x S5 _ _ h6) (fun v h' hq hn => ?_)
        obtain ⟨rfl, rfl⟩ := hq
        refine Ev.steps tokX11_goesNow 2 (P := True) (pc' := 20) (lv' := [some (.ref 130), some (.int p1), some (.int p2), some (.int r8), none]) (st' := [.ref 130]) (h' := mkS x S9) rfl trivial ?_
        cases h10 : gfX11_paysNow_130 x S9 with
        | none => rw [h10] at hm; cases hm
        | some q11 =>
          obtain ⟨r12, S13⟩ := q11
          rw [h10] at hm
          dsimp only at hm
          refine ev_callV (N := mX11_paysNow) (d' := 125) (bc := 0) (bs := 0) (bc' := 0) (bs' := 0) (as := []) (rest := []) (a := 130) (ci := 11) (dcd tokX11_goesNow rfl) okX11_paysNow inX11_paysNow seX11_paysNow lk11_166 rfl (by decide) (Nat.le_of_ble_eq_true rfl) rfl ⟨by decide, rfl⟩ (gpX11_paysNow_130 x S9 _ _ h10) (fun v h' hq hn => ?_)
          obtain ⟨rfl, rfl⟩ := hq
          obtain ⟨o14, hm⟩ := oblk hm
          obtain ⟨o15, hm⟩ := oblk hm
          obtain ⟨o16, hm⟩ := oblk hm
          obtain ⟨o17, hm⟩ := oblk hm
          refine Ev.steps tokX11_goesNow 34 (P := vp_in (46 + p2) 5703 ∧ vp_in (0 + p1) 5703 ∧ vp_in (5 + p1) 5703 ∧ vp_in (10 + p1) 5703 ∧ True) (pc' := 74) (lv' := [some (.ref 130), some (.int p1), some (.int p2), some (.int r8), some (.int r12)]) (st' := [.int (((u2 (u2 S13.2.1 132 ((0 + p1).toNatClampNeg) (S13.2.1 132 ((46 + p2).toNatClampNeg))) 132 ((5 + p1).toNatClampNeg) r8) 132 ((10 + p1).toNatClampNeg)) + r12), .int 9999, .int (10 + p1), .ref 132]) (h' := mkS x (S13.1, (u2 (u2 S13.2.1 132 ((0 + p1).toNatClampNeg) (S13.2.1 132 ((46 + p2).toNatClampNeg))) 132 ((5 + p1).toNatClampNeg) r8), S13.2.2.1, S13.2.2.2)) rfl ⟨inb_ok o14, inb_ok o15, inb_ok o16, inb_ok o17, trivial⟩ ?_
          cases h18 : gfX11_lesser x (S13.1, (u2 (u2 S13.2.1 132 ((0 + p1).toNatClampNeg) (S13.2.1 132 ((46 + p2).toNatClampNeg))) 132 ((5 + p1).toNatClampNeg) r8), S13.2.2.1, S13.2.2.2) 9999 (((u2 (u2 S13.2.1 132 ((0 + p1).toNatClampNeg) (S13.2.1 132 ((46 + p2).toNatClampNeg))) 132 ((5 + p1).toNatClampNeg) r8) 132 ((10 + p1).toNatClampNeg)) + r12) with
          | none => rw [h18] at hm; cases hm
          | some q19 =>
            obtain ⟨r20, S21⟩ := q19
            rw [h18] at hm
            dsimp only at hm
            refine ev_callS (N := mX11_lesser) (d' := 1) (bc := 0) (bs := 0) (bc' := 0) (bs' := 0) (as := [.int 9999, .int (((u2 (u2 S13.2.1 132 ((0 + p1).toNatClampNeg) (S13.2.1 132 ((46 + p2).toNatClampNeg))) 132 ((5 + p1).toNatClampNeg) r8) 132 ((10 + p1).toNatClampNeg)) + r12)]) (rest := [.int (10 + p1), .ref 132]) (dcd tokX11_goesNow rfl) okX11_lesser inX11_lesser lk11_359 rfl (by decide) (Nat.le_of_ble_eq_true rfl) (gpX11_lesser x (S13.1, (u2 (u2 S13.2.1 132 ((0 + p1).toNatClampNeg) (S13.2.1 132 ((46 + p2).toNatClampNeg))) 132 ((5 + p1).toNatClampNeg) r8), S13.2.2.1, S13.2.2.2) 9999 (((u2 (u2 S13.2.1 132 ((0 + p1).toNatClampNeg) (S13.2.1 132 ((46 + p2).toNatClampNeg))) 132 ((5 + p1).toNatClampNeg) r8) 132 ((10 + p1).toNatClampNeg)) + r12) _ _ h18) (fun v h' hq hn => ?_)
            obtain ⟨rfl, rfl⟩ := hq
            obtain ⟨o22, hm⟩ := oblk hm
            refine Ev.steps tokX11_goesNow 2 (P := vp_in (10 + p1) 5703 ∧ True) (pc' := 79) (lv' := [some (.ref 130), some (.int p1), some (.int p2), some (.int r8), some (.int r12)]) (st' := [.int r8]) (h' := mkS x (S21.1, (u2 S21.2.1 132 ((10 + p1).toNatClampNeg) r20), S21.2.2.1, S21.2.2.2)) rfl ⟨inb_ok o22, trivial⟩ ?_
            cases hm
            exact Ev.reti tokX11_goesNow rfl rfl ⟨rfl, rfl⟩
theorem gpX11_goesNow_130 (x : XT) (S : ST) (p1 : Int32) (p2 : Int32) (r : Int32) (S' : ST) (hm : gfX11_goesNow_130 x S p1 p2 = some (r, S')) : Ct mX11_goesNow 126 0 0 [.ref 130, .int p1, .int p2] (mkS x S) (fun v h => v = some (.int r) ∧ h = mkS x S') :=
  Ct.of (lv := [some (.ref 130), some (.int p1), some (.int p2), none, none]) rfl rfl rfl (show (_ : Nat) ≤ _ from Nat.le_of_ble_eq_true rfl) (fun G => rfl) (bpX11_goesNow_130_0 x S p1 p2 r S' hm)
set_option maxHeartbeats 4000000 in
set_option maxRecDepth 20000 in
theorem bpX11_keeps_130_54 (x : XT) (k54 : ST → Int32 → Int32 → Int32 → Option (Unit × ST)) (hk54 : ∀ (S : ST) (v1 : Int32) (v2 : Int32) (v3 : Int32) (r : Unit) (S' : ST), k54 S v1 v2 v3 = some (r, S') → Ev mX11_keeps 1 0 0 54 [some (.ref 130), some (.int v1), some (.int v2), some (.int v3)] [] (mkS x S) (fun v h => v = none ∧ h = mkS x S')) (S : ST) (v1 : Int32) (v2 : Int32) (v3 : Int32) (r : Unit) (S' : ST) (hm : bfX11_keeps_130_54 x k54 S v1 v2 v3 = some (r, S')) : Ev mX11_keeps 1 0 0 54 [some (.ref 130), some (.int v1), some (.int v2), some (.int v3)] [] (mkS x S) (fun v h => v = none ∧ h = mkS x S') := by
    unfold bfX11_keeps_130_54 at hm
    refine Ev.steps tokX11_keeps 3 (P := True) (pc' := if 36 ≤ v3 then 85 else 60) (lv' := [some (.ref 130), some (.int v1), some (.int v2), some (.int v3)]) (st' := []) (h' := mkS x S) rfl trivial ?_
    refine Ev.ite (fun c1 => ?_) (fun c1 => ?_)
    · rw [if_pos c1] at hm
      obtain ⟨o2, hm⟩ := oblk hm
      refine Ev.steps tokX11_keeps 16 (P := vp_in ((v2 * (S.1 130 31)) + 36) 592 ∧ True) (pc' := 110) (lv' := [some (.ref 130), some (.int v1), some (.int v2), some (.int v3)]) (st' := []) (h' := mkS x ((u2 S.1 130 31 ((S.1 130 31) + 1)), (u2 S.2.1 143 (((v2 * (S.1 130 31)) + 36).toNatClampNeg) v1), S.2.2.1, S.2.2.2)) rfl ⟨inb_ok o2, trivial⟩ ?_
      cases hm
      exact Ev.retv tokX11_keeps rfl rfl ⟨rfl, rfl⟩
    · rw [if_neg c1] at hm
      obtain ⟨o3, hm⟩ := oblk hm
      obtain ⟨o4, hm⟩ := oblk hm
      refine Ev.steps tokX11_keeps 15 (P := vp_in v3 5703 ∧ vp_in ((v2 * (S.1 130 31)) + v3) 592 ∧ True) (pc' := 54) (lv' := [some (.ref 130), some (.int v1), some (.int v2), some (.int (v3 + 1))]) (st' := []) (h' := mkS x (S.1, (u2 S.2.1 143 (((v2 * (S.1 130 31)) + v3).toNatClampNeg) (S.2.1 132 v3.toNatClampNeg)), S.2.2.1, S.2.2.2)) rfl ⟨inb_ok o3, inb_ok o4, trivial⟩ ?_
      exact hk54 (S.1, (u2 S.2.1 143 (((v2 * (S.1 130 31)) + v3).toNatClampNeg) (S.2.1 132 v3.toNatClampNeg)), S.2.2.1, S.2.2.2) v1 v2 (v3 + 1) _ _ hm
theorem lpX11_keeps_130_54 (x : XT)  : ∀ (n : Nat) (S : ST) (v1 : Int32) (v2 : Int32) (v3 : Int32) (r : Unit) (S' : ST), lfX11_keeps_130_54 x  n S v1 v2 v3 = some (r, S') → Ev mX11_keeps 1 0 0 54 [some (.ref 130), some (.int v1), some (.int v2), some (.int v3)] [] (mkS x S) (fun v h => v = none ∧ h = mkS x S')
  | 0, _, _, _, _, _, _, hm => by cases hm
  | n + 1, S, v1, v2, v3, r, S', hm => bpX11_keeps_130_54 x (lfX11_keeps_130_54 x  n) (lpX11_keeps_130_54 x  n) S v1 v2 v3 r S' hm
set_option maxHeartbeats 4000000 in
set_option maxRecDepth 20000 in
theorem bpX11_keeps_130_52 (x : XT)  (S : ST) (v1 : Int32) (v2 : Int32) (r : Unit) (S' : ST) (hm : bfX11_keeps_130_52 x  S v1 v2 = some (r, S')) : Ev mX11_keeps 1 0 0 52 [some (.ref 130), some (.int v1), some (.int v2), none] [] (mkS x S) (fun v h => v = none ∧ h = mkS x S') := by
    unfold bfX11_keeps_130_52 at hm
    refine Ev.steps tokX11_keeps 2 (P := True) (pc' := 54) (lv' := [some (.ref 130), some (.int v1), some (.int v2), some (.int 0)]) (st' := []) (h' := mkS x S) rfl trivial ?_
    exact lpX11_keeps_130_54 x  20000 S v1 v2 0 _ _ hm
set_option maxHeartbeats 4000000 in
set_option maxRecDepth 20000 in
theorem bpX11_keeps_130_14 (x : XT) (k14 : ST → Int32 → Int32 → Int32 → Option (Unit × ST)) (hk14 : ∀ (S : ST) (v1 : Int32) (v2 : Int32) (v3 : Int32) (r : Unit) (S' : ST), k14 S v1 v2 v3 = some (r, S') → Ev mX11_keeps 1 0 0 14 [some (.ref 130), some (.int v1), some (.int v2), some (.int v3)] [] (mkS x S) (fun v h => v = none ∧ h = mkS x S')) (S : ST) (v1 : Int32) (v2 : Int32) (v3 : Int32) (r : Unit) (S' : ST) (hm : bfX11_keeps_130_14 x k14 S v1 v2 v3 = some (r, S')) : Ev mX11_keeps 1 0 0 14 [some (.ref 130), some (.int v1), some (.int v2), some (.int v3)] [] (mkS x S) (fun v h => v = none ∧ h = mkS x S') := by
    unfold bfX11_keeps_130_14 at hm
    refine Ev.steps tokX11_keeps 5 (P := True) (pc' := if (15 * v2) ≤ v3 then 42 else 22) (lv' := [some (.ref 130), some (.int v1), some (.int v2), some (.int v3)]) (st' := []) (h' := mkS x S) rfl trivial ?_
    refine Ev.ite (fun c1 => ?_) (fun c1 => ?_)
    · rw [if_pos c1] at hm
      refine Ev.steps tokX11_keeps 6 (P := True) (pc' := 52) (lv' := [some (.ref 130), some (.int v1), some (.int v2), some (.int v3)]) (st' := []) (h' := mkS x ((u2 S.1 130 31 ((S.1 130 31) - 1)), S.2.1, S.2.2.1, S.2.2.2)) rfl trivial ?_
      refine Ev.fgt (lv' := [some (.ref 130), some (.int v1), some (.int v2), none]) ⟨rfl, rfl, rfl, trivial⟩ ?_
      exact bpX11_keeps_130_52 x ((u2 S.1 130 31 ((S.1 130 31) - 1)), S.2.1, S.2.2.1, S.2.2.2) v1 v2 _ _ hm
    · rw [if_neg c1] at hm
      obtain ⟨o2, hm⟩ := oblk hm
      obtain ⟨o3, hm⟩ := oblk hm
      refine Ev.steps tokX11_keeps 12 (P := vp_in (v3 + v2) 592 ∧ vp_in v3 592 ∧ True) (pc' := 14) (lv' := [some (.ref 130), some (.int v1), some (.int v2), some (.int (v3 + 1))]) (st' := []) (h' := mkS x (S.1, (u2 S.2.1 143 v3.toNatClampNeg (S.2.1 143 ((v3 + v2).toNatClampNeg))), S.2.2.1, S.2.2.2)) rfl ⟨inb_ok o2, inb_ok o3, trivial⟩ ?_
      exact hk14 (S.1, (u2 S.2.1 143 v3.toNatClampNeg (S.2.1 143 ((v3 + v2).toNatClampNeg))), S.2.2.1, S.2.2.2) v1 v2 (v3 + 1) _ _ hm
theorem lpX11_keeps_130_14 (x : XT)  : ∀ (n : Nat) (S : ST) (v1 : Int32) (v2 : Int32) (v3 : Int32) (r : Unit) (S' : ST), lfX11_keeps_130_14 x  n S v1 v2 v3 = some (r, S') → Ev mX11_keeps 1 0 0 14 [some (.ref 130), some (.int v1), some (.int v2), some (.int v3)] [] (mkS x S) (fun v h => v = none ∧ h = mkS x S')
  | 0, _, _, _, _, _, _, hm => by cases hm
  | n + 1, S, v1, v2, v3, r, S', hm => bpX11_keeps_130_14 x (lfX11_keeps_130_14 x  n) (lpX11_keeps_130_14 x  n) S v1 v2 v3 r S' hm
set_option maxHeartbeats 4000000 in
set_option maxRecDepth 20000 in
theorem bpX11_keeps_130_0 (x : XT)  (S : ST) (p1 : Int32) (r : Unit) (S' : ST) (hm : bfX11_keeps_130_0 x  S p1 = some (r, S')) : Ev mX11_keeps 1 0 0 0 [some (.ref 130), some (.int p1), none, none] [] (mkS x S) (fun v h => v = none ∧ h = mkS x S') := by
    unfold bfX11_keeps_130_0 at hm
    refine Ev.steps tokX11_keeps 6 (P := True) (pc' := if ¬ (S.1 130 31) = 16 then 52 else 12) (lv' := [some (.ref 130), some (.int p1), some (.int 37), none]) (st' := []) (h' := mkS x S) rfl trivial ?_
    refine Ev.ite (fun c1 => ?_) (fun c1 => ?_)
    · rw [if_pos c1] at hm
      exact bpX11_keeps_130_52 x S p1 37 _ _ hm
    · rw [if_neg c1] at hm
      refine Ev.steps tokX11_keeps 2 (P := True) (pc' := 14) (lv' := [some (.ref 130), some (.int p1), some (.int 37), some (.int 0)]) (st' := []) (h' := mkS x S) rfl trivial ?_
      exact lpX11_keeps_130_14 x  20000 S p1 37 0 _ _ hm
theorem gpX11_keeps_130 (x : XT) (S : ST) (p1 : Int32) (r : Unit) (S' : ST) (hm : gfX11_keeps_130 x S p1 = some (r, S')) : Ct mX11_keeps 1 0 0 [.ref 130, .int p1] (mkS x S) (fun v h => v = none ∧ h = mkS x S') :=
  Ct.of (lv := [some (.ref 130), some (.int p1), none, none]) rfl rfl rfl (show (_ : Nat) ≤ _ from Nat.le_of_ble_eq_true rfl) (fun G => rfl) (bpX11_keeps_130_0 x S p1 r S' hm)
set_option maxHeartbeats 4000000 in
set_option maxRecDepth 20000 in
theorem bpX11_undo_130_34 (x : XT) (k34 : ST → Int32 → Int32 → Option (Int32 × ST)) (hk34 : ∀ (S : ST) (v1 : Int32) (v2 : Int32) (r : Int32) (S' : ST), k34 S v1 v2 = some (r, S') → Ev mX11_undo 2 0 0 34 [some (.ref 130), some (.int v1), some (.int v2)] [] (mkS x S) (fun v h => v = some (.int r) ∧ h = mkS x S')) (S : ST) (v1 : Int32) (v2 : Int32) (r : Int32) (S' : ST) (hm : bfX11_undo_130_34 x k34 S v1 v2 = some (r, S')) : Ev mX11_undo 2 0 0 34 [some (.ref 130), some (.int v1), some (.int v2)] [] (mkS x S) (fun v h => v = some (.int r) ∧ h = mkS x S') := by
    unfold bfX11_undo_130_34 at hm
    refine Ev.steps tokX11_undo 3 (P := True) (pc' := if 36 ≤ v2 then 60 else 40) (lv' := [some (.ref 130), some (.int v1), some (.int v2)]) (st' := []) (h' := mkS x S) rfl trivial ?_
    refine Ev.ite (fun c1 => ?_) (fun c1 => ?_)
    · rw [if_pos c1] at hm
      obtain ⟨o2, hm⟩ := oblk hm
      refine Ev.steps tokX11_undo 7 (P := vp_in (v1 + 36) 592 ∧ True) (pc' := 70) (lv' := [some (.ref 130), some (.int v1), some (.int v2)]) (st' := [.int (S.2.1 143 ((v1 + 36).toNatClampNeg)), .ref 130]) (h' := mkS x S) rfl ⟨inb_ok o2, trivial⟩ ?_
      cases h3 : gfX11_good_130 x S (S.2.1 143 ((v1 + 36).toNatClampNeg)) with
      | none => rw [h3] at hm; cases hm
      | some q4 =>
        obtain ⟨r5, S6⟩ := q4
        rw [h3] at hm
        dsimp only at hm
        refine ev_callV (N := mX11_good) (d' := 1) (bc := 0) (bs := 0) (bc' := 0) (bs' := 0) (as := [.int (S.2.1 143 ((v1 + 36).toNatClampNeg))]) (rest := []) (a := 130) (ci := 11) (dcd tokX11_undo rfl) okX11_good inX11_good seX11_good lk11_14 rfl (by decide) (Nat.le_of_ble_eq_true rfl) rfl ⟨by decide, rfl⟩ (gpX11_good_130 x S (S.2.1 143 ((v1 + 36).toNatClampNeg)) _ _ h3) (fun v h' hq hn => ?_)
        obtain ⟨rfl, rfl⟩ := hq
        cases hm
        exact Ev.reti tokX11_undo rfl rfl ⟨rfl, rfl⟩
    · rw [if_neg c1] at hm
      obtain ⟨o7, hm⟩ := oblk hm
      obtain ⟨o8, hm⟩ := oblk hm
      refine Ev.steps tokX11_undo 12 (P := vp_in (v1 + v2) 592 ∧ vp_in v2 5703 ∧ True) (pc' := 34) (lv' := [some (.ref 130), some (.int v1), some (.int (v2 + 1))]) (st' := []) (h' := mkS x (S.1, (u2 S.2.1 132 v2.toNatClampNeg (S.2.1 143 ((v1 + v2).toNatClampNeg))), S.2.2.1, S.2.2.2)) rfl ⟨inb_ok o7, inb_ok o8, trivial⟩ ?_
      exact hk34 (S.1, (u2 S.2.1 132 v2.toNatClampNeg (S.2.1 143 ((v1 + v2).toNatClampNeg))), S.2.2.1, S.2.2.2) v1 (v2 + 1) _ _ hm
theorem lpX11_undo_130_34 (x : XT)  : ∀ (n : Nat) (S : ST) (v1 : Int32) (v2 : Int32) (r : Int32) (S' : ST), lfX11_undo_130_34 x  n S v1 v2 = some (r, S') → Ev mX11_undo 2 0 0 34 [some (.ref 130), some (.int v1), some (.int v2)] [] (mkS x S) (fun v h => v = some (.int r) ∧ h = mkS x S')
  | 0, _, _, _, _, _, hm => by cases hm
  | n + 1, S, v1, v2, r, S', hm => bpX11_undo_130_34 x (lfX11_undo_130_34 x  n) (lpX11_undo_130_34 x  n) S v1 v2 r S' hm
set_option maxHeartbeats 4000000 in
set_option maxRecDepth 20000 in
theorem bpX11_undo_130_0 (x : XT)  (S : ST)  (r : Int32) (S' : ST) (hm : bfX11_undo_130_0 x  S  = some (r, S')) : Ev mX11_undo 2 0 0 0 [some (.ref 130), none, none] [] (mkS x S) (fun v h => v = some (.int r) ∧ h = mkS x S') := by
    unfold bfX11_undo_130_0 at hm
    refine Ev.steps tokX11_undo 3 (P := True) (pc' := if ¬ (S.1 130 31) = 0 then 14 else 7) (lv' := [some (.ref 130), none, none]) (st' := []) (h' := mkS x S) rfl trivial ?_
    refine Ev.ite (fun c1 => ?_) (fun c1 => ?_)
    · rw [if_pos c1] at hm
      refine Ev.steps tokX11_undo 13 (P := True) (pc' := 34) (lv' := [some (.ref 130), some (.int (37 * ((S.1 130 31) - 1))), some (.int 0)]) (st' := []) (h' := mkS x ((u2 S.1 130 31 ((S.1 130 31) - 1)), S.2.1, S.2.2.1, S.2.2.2)) rfl trivial ?_
      exact lpX11_undo_130_34 x  20000 ((u2 S.1 130 31 ((S.1 130 31) - 1)), S.2.1, S.2.2.1, S.2.2.2) (37 * ((S.1 130 31) - 1)) 0 _ _ hm
    · rw [if_neg c1] at hm
      refine Ev.steps tokX11_undo 2 (P := True) (pc' := 10) (lv' := [some (.ref 130), none, none]) (st' := [.int (-3), .ref 130]) (h' := mkS x S) rfl trivial ?_
      cases h2 : gfX11_refuses_130 x S (-3) with
      | none => rw [h2] at hm; cases hm
      | some q3 =>
        obtain ⟨r4, S5⟩ := q3
        rw [h2] at hm
        dsimp only at hm
        refine ev_callV (N := mX11_refuses) (d' := 1) (bc := 0) (bs := 0) (bc' := 0) (bs' := 0) (as := [.int (-3)]) (rest := []) (a := 130) (ci := 11) (dcd tokX11_undo rfl) okX11_refuses inX11_refuses seX11_refuses lk11_118 rfl (by decide) (Nat.le_of_ble_eq_true rfl) rfl ⟨by decide, rfl⟩ (gpX11_refuses_130 x S (-3) _ _ h2) (fun v h' hq hn => ?_)
        obtain ⟨rfl, rfl⟩ := hq
        cases hm
        exact Ev.reti tokX11_undo rfl rfl ⟨rfl, rfl⟩
theorem gpX11_undo_130 (x : XT) (S : ST)  (r : Int32) (S' : ST) (hm : gfX11_undo_130 x S  = some (r, S')) : Ct mX11_undo 2 0 0 [.ref 130] (mkS x S) (fun v h => v = some (.int r) ∧ h = mkS x S') :=
  Ct.of (lv := [some (.ref 130), none, none]) rfl rfl rfl (show (_ : Nat) ≤ _ from Nat.le_of_ble_eq_true rfl) (fun G => rfl) (bpX11_undo_130_0 x S  r S' hm)
set_option maxHeartbeats 4000000 in
set_option maxRecDepth 20000 in
theorem bpX11_goodOr_130_17 (x : XT)  (S : ST) (t0 : Int32) (r : Int32) (S' : ST) (hm : bfX11_goodOr_130_17 x  S t0 = some (r, S')) : Ev mX11_goodOr 2 0 0 17 [none, none] [.int t0] (mkS x S) (fun v h => v = some (.int r) ∧ h = mkS x S') := by
    unfold bfX11_goodOr_130_17 at hm
    cases hm
    exact Ev.reti tokX11_goodOr rfl rfl ⟨rfl, rfl⟩
set_option maxHeartbeats 4000000 in
set_option maxRecDepth 20000 in
theorem bpX11_goodOr_130_0 (x : XT)  (S : ST) (p1 : Int32) (r : Int32) (S' : ST) (hm : bfX11_goodOr_130_0 x  S p1 = some (r, S')) : Ev mX11_goodOr 2 0 0 0 [some (.ref 130), some (.int p1)] [] (mkS x S) (fun v h => v = some (.int r) ∧ h = mkS x S') := by
    unfold bfX11_goodOr_130_0 at hm
    refine Ev.steps tokX11_goodOr 2 (P := True) (pc' := if 0 ≤ p1 then 12 else 4) (lv' := [some (.ref 130), some (.int p1)]) (st' := []) (h' := mkS x S) rfl trivial ?_
    refine Ev.ite (fun c1 => ?_) (fun c1 => ?_)
    · rw [if_pos c1] at hm
      refine Ev.steps tokX11_goodOr 2 (P := True) (pc' := 14) (lv' := [some (.ref 130), some (.int p1)]) (st' := [.int p1, .ref 130]) (h' := mkS x S) rfl trivial ?_
      cases h2 : gfX11_good_130 x S p1 with
      | none => rw [h2] at hm; cases hm
      | some q3 =>
        obtain ⟨r4, S5⟩ := q3
        rw [h2] at hm
        dsimp only at hm
        refine ev_callV (N := mX11_good) (d' := 1) (bc := 0) (bs := 0) (bc' := 0) (bs' := 0) (as := [.int p1]) (rest := []) (a := 130) (ci := 11) (dcd tokX11_goodOr rfl) okX11_good inX11_good seX11_good lk11_14 rfl (by decide) (Nat.le_of_ble_eq_true rfl) rfl ⟨by decide, rfl⟩ (gpX11_good_130 x S p1 _ _ h2) (fun v h' hq hn => ?_)
        obtain ⟨rfl, rfl⟩ := hq
        refine Ev.fgt (lv' := [none, none]) trivial ?_
        exact bpX11_goodOr_130_17 x S5 r4 _ _ hm
    · rw [if_neg c1] at hm
      refine Ev.steps tokX11_goodOr 2 (P := True) (pc' := 6) (lv' := [some (.ref 130), some (.int p1)]) (st' := [.int p1, .ref 130]) (h' := mkS x S) rfl trivial ?_
      cases h6 : gfX11_refuses_130 x S p1 with
      | none => rw [h6] at hm; cases hm
      | some q7 =>
        obtain ⟨r8, S9⟩ := q7
        rw [h6] at hm
        dsimp only at hm
        refine ev_callV (N := mX11_refuses) (d' := 1) (bc := 0) (bs := 0) (bc' := 0) (bs' := 0) (as := [.int p1]) (rest := []) (a := 130) (ci := 11) (dcd tokX11_goodOr rfl) okX11_refuses inX11_refuses seX11_refuses lk11_118 rfl (by decide) (Nat.le_of_ble_eq_true rfl) rfl ⟨by decide, rfl⟩ (gpX11_refuses_130 x S p1 _ _ h6) (fun v h' hq hn => ?_)
        obtain ⟨rfl, rfl⟩ := hq
        refine Ev.steps tokX11_goodOr 1 (P := True) (pc' := 17) (lv' := [some (.ref 130), some (.int p1)]) (st' := [.int r8]) (h' := mkS x S9) rfl trivial ?_
        refine Ev.fgt (lv' := [none, none]) trivial ?_
        exact bpX11_goodOr_130_17 x S9 r8 _ _ hm
theorem gpX11_goodOr_130 (x : XT) (S : ST) (p1 : Int32) (r : Int32) (S' : ST) (hm : gfX11_goodOr_130 x S p1 = some (r, S')) : Ct mX11_goodOr 2 0 0 [.ref 130, .int p1] (mkS x S) (fun v h => v = some (.int r) ∧ h = mkS x S') :=
  Ct.of (lv := [some (.ref 130), some (.int p1)]) rfl rfl rfl (show (_ : Nat) ≤ _ from Nat.le_of_ble_eq_true rfl) (fun G => rfl) (bpX11_goodOr_130_0 x S p1 r S' hm)
set_option maxHeartbeats 4000000 in
set_option maxRecDepth 20000 in
theorem bpX11_goesKept_130_16 (x : XT)  (S : ST)  (r : Int32) (S' : ST) (hm : bfX11_goesKept_130_16 x  S  = some (r, S')) : Ev mX11_goesKept 127 0 0 16 [none, none, none] [] (mkS x S) (fun v h => v = some (.int r) ∧ h = mkS x S') := by
    unfold bfX11_goesKept_130_16 at hm
    refine Ev.steps tokX11_goesKept 1 (P := True) (pc' := 18) (lv' := [none, none, none]) (st' := [.int (-2)]) (h' := mkS x S) rfl trivial ?_
    cases hm
    exact Ev.reti tokX11_goesKept rfl rfl ⟨rfl, rfl⟩
set_option maxHeartbeats 4000000 in
set_option maxRecDepth 20000 in
theorem bpX11_goesKept_130_0 (x : XT)  (S : ST) (p1 : Int32) (p2 : Int32) (r : Int32) (S' : ST) (hm : bfX11_goesKept_130_0 x  S p1 p2 = some (r, S')) : Ev mX11_goesKept 127 0 0 0 [some (.ref 130), some (.int p1), some (.int p2)] [] (mkS x S) (fun v h => v = some (.int r) ∧ h = mkS x S') := by
    unfold bfX11_goesKept_130_0 at hm
    refine Ev.steps tokX11_goesKept 2 (P := True) (pc' := 2) (lv' := [some (.ref 130), some (.int p1), some (.int p2)]) (st' := [.int p1, .ref 130]) (h' := mkS x S) rfl trivial ?_
    cases h1 : gfX11_isGoer_130 x S p1 with
    | none => rw [h1] at hm; cases hm
    | some q2 =>
      obtain ⟨r3, S4⟩ := q2
      rw [h1] at hm
      dsimp only at hm
      refine ev_callV (N := mX11_isGoer) (d' := 2) (bc := 0) (bs := 0) (bc' := 0) (bs' := 0) (as := [.int p1]) (rest := []) (a := 130) (ci := 11) (dcd tokX11_goesKept rfl) okX11_isGoer inX11_isGoer seX11_isGoer lk11_149 rfl (by decide) (Nat.le_of_ble_eq_true rfl) rfl ⟨by decide, rfl⟩ (gpX11_isGoer_130 x S p1 _ _ h1) (fun v h' hq hn => ?_)
      obtain ⟨rfl, rfl⟩ := hq
      refine Ev.steps tokX11_goesKept 1 (P := True) (pc' := if r3 = 0 then 16 else 8) (lv' := [some (.ref 130), some (.int p1), some (.int p2)]) (st' := []) (h' := mkS x S4) rfl trivial ?_
      refine Ev.ite (fun c5 => ?_) (fun c5 => ?_)
      · rw [if_pos c5] at hm
        refine Ev.fgt (lv' := [none, none, none]) trivial ?_
        exact bpX11_goesKept_130_16 x S4 _ _ hm
      · rw [if_neg c5] at hm
        refine Ev.steps tokX11_goesKept 2 (P := True) (pc' := 10) (lv' := [some (.ref 130), some (.int p1), some (.int p2)]) (st' := [.int p2, .ref 130]) (h' := mkS x S4) rfl trivial ?_
        cases h6 : gfX11_isGate_130 x S4 p2 with
        | none => rw [h6] at hm; cases hm
        | some q7 =>
          obtain ⟨r8, S9⟩ := q7
          rw [h6] at hm
          dsimp only at hm
          refine ev_callV (N := mX11_isGate) (d' := 2) (bc := 0) (bs := 0) (bc' := 0) (bs' := 0) (as := [.int p2]) (rest := []) (a := 130) (ci := 11) (dcd tokX11_goesKept rfl) okX11_isGate inX11_isGate seX11_isGate lk11_143 rfl (by decide) (Nat.le_of_ble_eq_true rfl) rfl ⟨by decide, rfl⟩ (gpX11_isGate_130 x S4 p2 _ _ h6) (fun v h' hq hn => ?_)
          obtain ⟨rfl, rfl⟩ := hq
          refine Ev.steps tokX11_goesKept 1 (P := True) (pc' := if ¬ r8 = 0 then 19 else 16) (lv' := [some (.ref 130), some (.int p1), some (.int p2)]) (st' := []) (h' := mkS x S9) rfl trivial ?_
          refine Ev.ite (fun c10 => ?_) (fun c10 => ?_)
          · rw [if_pos c10] at hm
            refine Ev.steps tokX11_goesKept 3 (P := True) (pc' := 22) (lv' := [some (.ref 130), some (.int p1), some (.int p2)]) (st' := [.int p2, .int p1, .ref 130]) (h' := mkS x S9) rfl trivial ?_
            cases h11 : gfX11_canGo_130 x S9 p1 p2 with
            | none => rw [h11] at hm; cases hm
            | some q12 =>
              obtain ⟨r13, S14⟩ := q12
              rw [h11] at hm
              dsimp only at hm
              refine ev_callV (N := mX11_canGo) (d' := 126) (bc := 0) (bs := 0) (bc' := 0) (bs' := 0) (as := [.int p1, .int p2]) (rest := []) (a := 130) (ci := 11) (dcd tokX11_goesKept rfl) okX11_canGo inX11_canGo seX11_canGo lk11_155 rfl (by decide) (Nat.le_of_ble_eq_true rfl) rfl ⟨by decide, rfl⟩ (gpX11_canGo_130 x S9 p1 p2 _ _ h11) (fun v h' hq hn => ?_)
              obtain ⟨rfl, rfl⟩ := hq
              refine Ev.steps tokX11_goesKept 1 (P := True) (pc' := if ¬ r13 = 0 then 31 else 28) (lv' := [some (.ref 130), some (.int p1), some (.int p2)]) (st' := []) (h' := mkS x S14) rfl trivial ?_
              refine Ev.ite (fun c15 => ?_) (fun c15 => ?_)
              · rw [if_pos c15] at hm
                refine Ev.steps tokX11_goesKept 2 (P := True) (pc' := 33) (lv' := [some (.ref 130), some (.int p1), some (.int p2)]) (st' := [.int 0, .ref 130]) (h' := mkS x S14) rfl trivial ?_
                cases h16 : gfX11_keeps_130 x S14 0 with
                | none => rw [h16] at hm; cases hm
                | some q17 =>
                  obtain ⟨r18, S19⟩ := q17
                  rw [h16] at hm
                  dsimp only at hm
                  refine ev_callV (N := mX11_keeps) (d' := 1) (bc := 0) (bs := 0) (bc' := 0) (bs' := 0) (as := [.int 0]) (rest := []) (a := 130) (ci := 11) (dcd tokX11_goesKept rfl) okX11_keeps inX11_keeps seX11_keeps lk11_362 rfl (by decide) (Nat.le_of_ble_eq_true rfl) rfl ⟨by decide, rfl⟩ (gpX11_keeps_130 x S14 0 _ _ h16) (fun v h' hq hn => ?_)
                  obtain ⟨rfl, rfl⟩ := hq
                  refine Ev.steps tokX11_goesKept 3 (P := True) (pc' := 39) (lv' := [some (.ref 130), some (.int p1), some (.int p2)]) (st' := [.int p2, .int p1, .ref 130]) (h' := mkS x S19) rfl trivial ?_
                  cases h20 : gfX11_goesNow_130 x S19 p1 p2 with
                  | none => rw [h20] at hm; cases hm
                  | some q21 =>
                    obtain ⟨r22, S23⟩ := q21
                    rw [h20] at hm
                    dsimp only at hm
                    refine ev_callV (N := mX11_goesNow) (d' := 126) (bc := 0) (bs := 0) (bc' := 0) (bs' := 0) (as := [.int p1, .int p2]) (rest := []) (a := 130) (ci := 11) (dcd tokX11_goesKept rfl) okX11_goesNow inX11_goesNow seX11_goesNow lk11_365 rfl (by decide) (Nat.le_of_ble_eq_true rfl) rfl ⟨by decide, rfl⟩ (gpX11_goesNow_130 x S19 p1 p2 _ _ h20) (fun v h' hq hn => ?_)
                    obtain ⟨rfl, rfl⟩ := hq
                    cases hm
                    exact Ev.reti tokX11_goesKept rfl rfl ⟨rfl, rfl⟩
              · rw [if_neg c15] at hm
                refine Ev.steps tokX11_goesKept 1 (P := True) (pc' := 30) (lv' := [some (.ref 130), some (.int p1), some (.int p2)]) (st' := [.int (-3)]) (h' := mkS x S14) rfl trivial ?_
                cases hm
                exact Ev.reti tokX11_goesKept rfl rfl ⟨rfl, rfl⟩
          · rw [if_neg c10] at hm
            refine Ev.fgt (lv' := [none, none, none]) trivial ?_
            exact bpX11_goesKept_130_16 x S9 _ _ hm
theorem gpX11_goesKept_130 (x : XT) (S : ST) (p1 : Int32) (p2 : Int32) (r : Int32) (S' : ST) (hm : gfX11_goesKept_130 x S p1 p2 = some (r, S')) : Ct mX11_goesKept 127 0 0 [.ref 130, .int p1, .int p2] (mkS x S) (fun v h => v = some (.int r) ∧ h = mkS x S') :=
  Ct.of (lv := [some (.ref 130), some (.int p1), some (.int p2)]) rfl rfl rfl (show (_ : Nat) ≤ _ from Nat.le_of_ble_eq_true rfl) (fun G => rfl) (bpX11_goesKept_130_0 x S p1 p2 r S' hm)
end MIR
