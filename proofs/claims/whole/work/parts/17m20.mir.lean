section MIR
set_option maxHeartbeats 4000000 in
set_option maxRecDepth 20000 in
theorem bpX11_testOf_130_45 (x : XT) {dd : Nat} (rec_X11_testOf : ST → Int32 → Option (Int32 × ST)) (hrec_X11_testOf : ∀ (S : ST) (z0 : Int32) (r : Int32) (S' : ST), rec_X11_testOf S z0 = some (r, S') → Ct mX11_testOf dd 0 0 [.ref 130, .int z0] (mkS x S) (fun v h => v = some (.int r) ∧ h = mkS x S')) (rec_X11_bothOf : ST → Int32 → Option (Int32 × ST)) (hrec_X11_bothOf : ∀ (S : ST) (z0 : Int32) (r : Int32) (S' : ST), rec_X11_bothOf S z0 = some (r, S') → Ct mX11_bothOf dd 0 0 [.ref 130, .int z0] (mkS x S) (fun v h => v = some (.int r) ∧ h = mkS x S')) (rec_X11_plainOf : ST → Int32 → Option (Int32 × ST)) (hrec_X11_plainOf : ∀ (S : ST) (z0 : Int32) (r : Int32) (S' : ST), rec_X11_plainOf S z0 = some (r, S') → Ct mX11_plainOf dd 0 0 [.ref 130, .int z0] (mkS x S) (fun v h => v = some (.int r) ∧ h = mkS x S')) (rec_X11_positiveOf : ST → Int32 → Option (Int32 × ST)) (hrec_X11_positiveOf : ∀ (S : ST) (z0 : Int32) (r : Int32) (S' : ST), rec_X11_positiveOf S z0 = some (r, S') → Ct mX11_positiveOf dd 0 0 [.ref 130, .int z0] (mkS x S) (fun v h => v = some (.int r) ∧ h = mkS x S')) (hB : 63 ≤ dd) (k6 : ST → Int32 → Int32 → Option (Int32 × ST)) (hk6 : ∀ (S : ST) (v1 : Int32) (v2 : Int32) (r : Int32) (S' : ST), k6 S v1 v2 = some (r, S') → Ev mX11_testOf (dd + 1) 0 0 6 [some (.ref 130), some (.int v1), some (.int v2), none] [] (mkS x S) (fun v h => v = some (.int r) ∧ h = mkS x S')) (S : ST) (v1 : Int32) (t0 : Int32) (r : Int32) (S' : ST) (hm : bfX11_testOf_130_45 x rec_X11_testOf rec_X11_bothOf rec_X11_plainOf rec_X11_positiveOf k6 S v1 t0 = some (r, S')) : Ev mX11_testOf (dd + 1) 0 0 45 [some (.ref 130), some (.int v1), none, none] [.int t0] (mkS x S) (fun v h => v = some (.int r) ∧ h = mkS x S') := by
    unfold bfX11_testOf_130_45 at hm
    refine Ev.steps tokX11_testOf 2 (P := True) (pc' := 6) (lv' := [some (.ref 130), some (.int v1), some (.int t0), none]) (st' := []) (h' := mkS x S) rfl trivial ?_
    exact hk6 S v1 t0 _ _ hm
set_option maxHeartbeats 4000000 in
set_option maxRecDepth 20000 in
theorem bpX11_testOf_130_40 (x : XT) {dd : Nat} (rec_X11_testOf : ST → Int32 → Option (Int32 × ST)) (hrec_X11_testOf : ∀ (S : ST) (z0 : Int32) (r : Int32) (S' : ST), rec_X11_testOf S z0 = some (r, S') → Ct mX11_testOf dd 0 0 [.ref 130, .int z0] (mkS x S) (fun v h => v = some (.int r) ∧ h = mkS x S')) (rec_X11_bothOf : ST → Int32 → Option (Int32 × ST)) (hrec_X11_bothOf : ∀ (S : ST) (z0 : Int32) (r : Int32) (S' : ST), rec_X11_bothOf S z0 = some (r, S') → Ct mX11_bothOf dd 0 0 [.ref 130, .int z0] (mkS x S) (fun v h => v = some (.int r) ∧ h = mkS x S')) (rec_X11_plainOf : ST → Int32 → Option (Int32 × ST)) (hrec_X11_plainOf : ∀ (S : ST) (z0 : Int32) (r : Int32) (S' : ST), rec_X11_plainOf S z0 = some (r, S') → Ct mX11_plainOf dd 0 0 [.ref 130, .int z0] (mkS x S) (fun v h => v = some (.int r) ∧ h = mkS x S')) (rec_X11_positiveOf : ST → Int32 → Option (Int32 × ST)) (hrec_X11_positiveOf : ∀ (S : ST) (z0 : Int32) (r : Int32) (S' : ST), rec_X11_positiveOf S z0 = some (r, S') → Ct mX11_positiveOf dd 0 0 [.ref 130, .int z0] (mkS x S) (fun v h => v = some (.int r) ∧ h = mkS x S')) (hB : 63 ≤ dd) (k6 : ST → Int32 → Int32 → Option (Int32 × ST)) (hk6 : ∀ (S : ST) (v1 : Int32) (v2 : Int32) (r : Int32) (S' : ST), k6 S v1 v2 = some (r, S') → Ev mX11_testOf (dd + 1) 0 0 6 [some (.ref 130), some (.int v1), some (.int v2), none] [] (mkS x S) (fun v h => v = some (.int r) ∧ h = mkS x S')) (S : ST) (v1 : Int32) (r : Int32) (S' : ST) (hm : bfX11_testOf_130_40 x rec_X11_testOf rec_X11_bothOf rec_X11_plainOf rec_X11_positiveOf k6 S v1 = some (r, S')) : Ev mX11_testOf (dd + 1) 0 0 40 [some (.ref 130), some (.int v1), none, none] [] (mkS x S) (fun v h => v = some (.int r) ∧ h = mkS x S') := by
    unfold bfX11_testOf_130_40 at hm
    refine Ev.steps tokX11_testOf 2 (P := True) (pc' := 45) (lv' := [some (.ref 130), some (.int v1), none, none]) (st' := [.int 1]) (h' := mkS x S) rfl trivial ?_
    exact bpX11_testOf_130_45 x (dd := dd) rec_X11_testOf hrec_X11_testOf rec_X11_bothOf hrec_X11_bothOf rec_X11_plainOf hrec_X11_plainOf rec_X11_positiveOf hrec_X11_positiveOf hB k6 hk6 S v1 1 _ _ hm
set_option maxHeartbeats 4000000 in
set_option maxRecDepth 20000 in
theorem bpX11_testOf_130_28 (x : XT) {dd : Nat} (rec_X11_testOf : ST → Int32 → Option (Int32 × ST)) (hrec_X11_testOf : ∀ (S : ST) (z0 : Int32) (r : Int32) (S' : ST), rec_X11_testOf S z0 = some (r, S') → Ct mX11_testOf dd 0 0 [.ref 130, .int z0] (mkS x S) (fun v h => v = some (.int r) ∧ h = mkS x S')) (rec_X11_bothOf : ST → Int32 → Option (Int32 × ST)) (hrec_X11_bothOf : ∀ (S : ST) (z0 : Int32) (r : Int32) (S' : ST), rec_X11_bothOf S z0 = some (r, S') → Ct mX11_bothOf dd 0 0 [.ref 130, .int z0] (mkS x S) (fun v h => v = some (.int r) ∧ h = mkS x S')) (rec_X11_plainOf : ST → Int32 → Option (Int32 × ST)) (hrec_X11_plainOf : ∀ (S : ST) (z0 : Int32) (r : Int32) (S' : ST), rec_X11_plainOf S z0 = some (r, S') → Ct mX11_plainOf dd 0 0 [.ref 130, .int z0] (mkS x S) (fun v h => v = some (.int r) ∧ h = mkS x S')) (rec_X11_positiveOf : ST → Int32 → Option (Int32 × ST)) (hrec_X11_positiveOf : ∀ (S : ST) (z0 : Int32) (r : Int32) (S' : ST), rec_X11_positiveOf S z0 = some (r, S') → Ct mX11_positiveOf dd 0 0 [.ref 130, .int z0] (mkS x S) (fun v h => v = some (.int r) ∧ h = mkS x S')) (hB : 63 ≤ dd) (k6 : ST → Int32 → Int32 → Option (Int32 × ST)) (hk6 : ∀ (S : ST) (v1 : Int32) (v2 : Int32) (r : Int32) (S' : ST), k6 S v1 v2 = some (r, S') → Ev mX11_testOf (dd + 1) 0 0 6 [some (.ref 130), some (.int v1), some (.int v2), none] [] (mkS x S) (fun v h => v = some (.int r) ∧ h = mkS x S')) (S : ST) (v1 : Int32) (v2 : Int32) (t1 : Int32) (r : Int32) (S' : ST) (hm : bfX11_testOf_130_28 x rec_X11_testOf rec_X11_bothOf rec_X11_plainOf rec_X11_positiveOf k6 S v1 v2 t1 = some (r, S')) : Ev mX11_testOf (dd + 1) 0 0 28 [some (.ref 130), some (.int v1), some (.int v2), none] [.int t1, .ref 130] (mkS x S) (fun v h => v = some (.int r) ∧ h = mkS x S') := by
    unfold bfX11_testOf_130_28 at hm
    cases h1 : rec_X11_bothOf S t1 with
    | none => rw [h1] at hm; cases hm
    | some q2 =>
      obtain ⟨r3, S4⟩ := q2
      rw [h1] at hm
      dsimp only at hm
      refine ev_callV (N := mX11_bothOf) (d' := dd) (bc := 0) (bs := 0) (bc' := 0) (bs' := 0) (as := [.int t1]) (rest := []) (a := 130) (ci := 11) (dcd tokX11_testOf rfl) okX11_bothOf inX11_bothOf seX11_bothOf lk11_336 rfl (by omega) (Nat.le_of_ble_eq_true rfl) rfl ⟨by decide, rfl⟩ (hrec_X11_bothOf S t1 _ _ h1) (fun v h' hq hn => ?_)
      obtain ⟨rfl, rfl⟩ := hq
      refine Ev.steps tokX11_testOf 3 (P := True) (pc' := if ¬ v2 = 0 then 40 else 36) (lv' := [some (.ref 130), some (.int v1), some (.int v2), some (.int r3)]) (st' := []) (h' := mkS x S4) rfl trivial ?_
      refine Ev.ite (fun c5 => ?_) (fun c5 => ?_)
      · rw [if_pos c5] at hm
        refine Ev.fgt (lv' := [some (.ref 130), some (.int v1), none, none]) ⟨rfl, rfl, trivial⟩ ?_
        exact bpX11_testOf_130_40 x (dd := dd) rec_X11_testOf hrec_X11_testOf rec_X11_bothOf hrec_X11_bothOf rec_X11_plainOf hrec_X11_plainOf rec_X11_positiveOf hrec_X11_positiveOf hB k6 hk6 S4 v1 _ _ hm
      · rw [if_neg c5] at hm
        refine Ev.steps tokX11_testOf 2 (P := True) (pc' := if r3 = 0 then 44 else 40) (lv' := [some (.ref 130), some (.int v1), some (.int v2), some (.int r3)]) (st' := []) (h' := mkS x S4) rfl trivial ?_
        refine Ev.ite (fun c6 => ?_) (fun c6 => ?_)
        · rw [if_pos c6] at hm
          refine Ev.steps tokX11_testOf 1 (P := True) (pc' := 45) (lv' := [some (.ref 130), some (.int v1), some (.int v2), some (.int r3)]) (st' := [.int 0]) (h' := mkS x S4) rfl trivial ?_
          refine Ev.fgt (lv' := [some (.ref 130), some (.int v1), none, none]) ⟨rfl, rfl, trivial⟩ ?_
          exact bpX11_testOf_130_45 x (dd := dd) rec_X11_testOf hrec_X11_testOf rec_X11_bothOf hrec_X11_bothOf rec_X11_plainOf hrec_X11_plainOf rec_X11_positiveOf hrec_X11_positiveOf hB k6 hk6 S4 v1 0 _ _ hm
        · rw [if_neg c6] at hm
          refine Ev.fgt (lv' := [some (.ref 130), some (.int v1), none, none]) ⟨rfl, rfl, trivial⟩ ?_
          exact bpX11_testOf_130_40 x (dd := dd) rec_X11_testOf hrec_X11_testOf rec_X11_bothOf hrec_X11_bothOf rec_X11_plainOf hrec_X11_plainOf rec_X11_positiveOf hrec_X11_positiveOf hB k6 hk6 S4 v1 _ _ hm
set_option maxHeartbeats 4000000 in
set_option maxRecDepth 20000 in
theorem bpX11_testOf_130_27 (x : XT) {dd : Nat} (rec_X11_testOf : ST → Int32 → Option (Int32 × ST)) (hrec_X11_testOf : ∀ (S : ST) (z0 : Int32) (r : Int32) (S' : ST), rec_X11_testOf S z0 = some (r, S') → Ct mX11_testOf dd 0 0 [.ref 130, .int z0] (mkS x S) (fun v h => v = some (.int r) ∧ h = mkS x S')) (rec_X11_bothOf : ST → Int32 → Option (Int32 × ST)) (hrec_X11_bothOf : ∀ (S : ST) (z0 : Int32) (r : Int32) (S' : ST), rec_X11_bothOf S z0 = some (r, S') → Ct mX11_bothOf dd 0 0 [.ref 130, .int z0] (mkS x S) (fun v h => v = some (.int r) ∧ h = mkS x S')) (rec_X11_plainOf : ST → Int32 → Option (Int32 × ST)) (hrec_X11_plainOf : ∀ (S : ST) (z0 : Int32) (r : Int32) (S' : ST), rec_X11_plainOf S z0 = some (r, S') → Ct mX11_plainOf dd 0 0 [.ref 130, .int z0] (mkS x S) (fun v h => v = some (.int r) ∧ h = mkS x S')) (rec_X11_positiveOf : ST → Int32 → Option (Int32 × ST)) (hrec_X11_positiveOf : ∀ (S : ST) (z0 : Int32) (r : Int32) (S' : ST), rec_X11_positiveOf S z0 = some (r, S') → Ct mX11_positiveOf dd 0 0 [.ref 130, .int z0] (mkS x S) (fun v h => v = some (.int r) ∧ h = mkS x S')) (hB : 63 ≤ dd) (k6 : ST → Int32 → Int32 → Option (Int32 × ST)) (hk6 : ∀ (S : ST) (v1 : Int32) (v2 : Int32) (r : Int32) (S' : ST), k6 S v1 v2 = some (r, S') → Ev mX11_testOf (dd + 1) 0 0 6 [some (.ref 130), some (.int v1), some (.int v2), none] [] (mkS x S) (fun v h => v = some (.int r) ∧ h = mkS x S')) (S : ST) (v1 : Int32) (v2 : Int32) (r : Int32) (S' : ST) (hm : bfX11_testOf_130_27 x rec_X11_testOf rec_X11_bothOf rec_X11_plainOf rec_X11_positiveOf k6 S v1 v2 = some (r, S')) : Ev mX11_testOf (dd + 1) 0 0 27 [some (.ref 130), some (.int v1), some (.int v2), none] [.ref 130] (mkS x S) (fun v h => v = some (.int r) ∧ h = mkS x S') := by
    unfold bfX11_testOf_130_27 at hm
    refine Ev.steps tokX11_testOf 1 (P := True) (pc' := 28) (lv' := [some (.ref 130), some (.int v1), some (.int v2), none]) (st' := [.int 0, .ref 130]) (h' := mkS x S) rfl trivial ?_
    exact bpX11_testOf_130_28 x (dd := dd) rec_X11_testOf hrec_X11_testOf rec_X11_bothOf hrec_X11_bothOf rec_X11_plainOf hrec_X11_plainOf rec_X11_positiveOf hrec_X11_positiveOf hB k6 hk6 S v1 v2 0 _ _ hm
set_option maxHeartbeats 4000000 in
set_option maxRecDepth 20000 in
theorem bpX11_testOf_130_6 (x : XT) {dd : Nat} (rec_X11_testOf : ST → Int32 → Option (Int32 × ST)) (hrec_X11_testOf : ∀ (S : ST) (z0 : Int32) (r : Int32) (S' : ST), rec_X11_testOf S z0 = some (r, S') → Ct mX11_testOf dd 0 0 [.ref 130, .int z0] (mkS x S) (fun v h => v = some (.int r) ∧ h = mkS x S')) (rec_X11_bothOf : ST → Int32 → Option (Int32 × ST)) (hrec_X11_bothOf : ∀ (S : ST) (z0 : Int32) (r : Int32) (S' : ST), rec_X11_bothOf S z0 = some (r, S') → Ct mX11_bothOf dd 0 0 [.ref 130, .int z0] (mkS x S) (fun v h => v = some (.int r) ∧ h = mkS x S')) (rec_X11_plainOf : ST → Int32 → Option (Int32 × ST)) (hrec_X11_plainOf : ∀ (S : ST) (z0 : Int32) (r : Int32) (S' : ST), rec_X11_plainOf S z0 = some (r, S') → Ct mX11_plainOf dd 0 0 [.ref 130, .int z0] (mkS x S) (fun v h => v = some (.int r) ∧ h = mkS x S')) (rec_X11_positiveOf : ST → Int32 → Option (Int32 × ST)) (hrec_X11_positiveOf : ∀ (S : ST) (z0 : Int32) (r : Int32) (S' : ST), rec_X11_positiveOf S z0 = some (r, S') → Ct mX11_positiveOf dd 0 0 [.ref 130, .int z0] (mkS x S) (fun v h => v = some (.int r) ∧ h = mkS x S')) (hB : 63 ≤ dd) (k6 : ST → Int32 → Int32 → Option (Int32 × ST)) (hk6 : ∀ (S : ST) (v1 : Int32) (v2 : Int32) (r : Int32) (S' : ST), k6 S v1 v2 = some (r, S') → Ev mX11_testOf (dd + 1) 0 0 6 [some (.ref 130), some (.int v1), some (.int v2), none] [] (mkS x S) (fun v h => v = some (.int r) ∧ h = mkS x S')) (S : ST) (v1 : Int32) (v2 : Int32) (r : Int32) (S' : ST) (hm : bfX11_testOf_130_6 x rec_X11_testOf rec_X11_bothOf rec_X11_plainOf rec_X11_positiveOf k6 S v1 v2 = some (r, S')) : Ev mX11_testOf (dd + 1) 0 0 6 [some (.ref 130), some (.int v1), some (.int v2), none] [] (mkS x S) (fun v h => v = some (.int r) ∧ h = mkS x S') := by
    unfold bfX11_testOf_130_6 at hm
    refine Ev.steps tokX11_testOf 2 (P := True) (pc' := 8) (lv' := [some (.ref 130), some (.int v1), some (.int v2), none]) (st' := [.int 5, .ref 130]) (h' := mkS x S) rfl trivial ?_
    cases h1 : gfX11_passes0_130 x S 5 with
    | none => rw [h1] at hm; cases hm
    | some q2 =>
      obtain ⟨r3, S4⟩ := q2
      rw [h1] at hm
      dsimp only at hm
      refine ev_callV (N := mX11_passes0) (d' := 2) (bc := 0) (bs := 0) (bc' := 0) (bs' := 0) (as := [.int 5]) (rest := []) (a := 130) (ci := 11) (dcd tokX11_testOf rfl) okX11_passes0 inX11_passes0 seX11_passes0 lk11_315 rfl (by omega) (Nat.le_of_ble_eq_true rfl) rfl ⟨by decide, rfl⟩ (gpX11_passes0_130 x S 5 _ _ h1) (fun v h' hq hn => ?_)
      obtain ⟨rfl, rfl⟩ := hq
      refine Ev.steps tokX11_testOf 1 (P := True) (pc' := if r3 = 0 then 49 else 14) (lv' := [some (.ref 130), some (.int v1), some (.int v2), none]) (st' := []) (h' := mkS x S4) rfl trivial ?_
      refine Ev.ite (fun c5 => ?_) (fun c5 => ?_)
      · rw [if_pos c5] at hm
        refine Ev.steps tokX11_testOf 1 (P := True) (pc' := 50) (lv' := [some (.ref 130), some (.int v1), some (.int v2), none]) (st' := [.int v2]) (h' := mkS x S4) rfl trivial ?_
        obtain ⟨o6, hm⟩ := oblk hm
        cases hm
        exact Ev.retz tokX11_testOf rfl rfl (bbz_ok o6) ⟨rfl, rfl⟩
      · rw [if_neg c5] at hm
        refine Ev.steps tokX11_testOf 3 (P := True) (pc' := if v1 = 0 then 27 else 19) (lv' := [some (.ref 130), some (.int v1), some (.int v2), none]) (st' := [.ref 130]) (h' := mkS x S4) rfl trivial ?_
        refine Ev.ite (fun c7 => ?_) (fun c7 => ?_)
        · rw [if_pos c7] at hm
          exact bpX11_testOf_130_27 x (dd := dd) rec_X11_testOf hrec_X11_testOf rec_X11_bothOf hrec_X11_bothOf rec_X11_plainOf hrec_X11_plainOf rec_X11_positiveOf hrec_X11_positiveOf hB k6 hk6 S4 v1 v2 _ _ hm
        · rw [if_neg c7] at hm
          refine Ev.steps tokX11_testOf 2 (P := True) (pc' := if ¬ v2 = 0 then 27 else 23) (lv' := [some (.ref 130), some (.int v1), some (.int v2), none]) (st' := [.ref 130]) (h' := mkS x S4) rfl trivial ?_
          refine Ev.ite (fun c8 => ?_) (fun c8 => ?_)
          · rw [if_pos c8] at hm
            exact bpX11_testOf_130_27 x (dd := dd) rec_X11_testOf hrec_X11_testOf rec_X11_bothOf hrec_X11_bothOf rec_X11_plainOf hrec_X11_plainOf rec_X11_positiveOf hrec_X11_positiveOf hB k6 hk6 S4 v1 v2 _ _ hm
          · rw [if_neg c8] at hm
            refine Ev.steps tokX11_testOf 2 (P := True) (pc' := 28) (lv' := [some (.ref 130), some (.int v1), some (.int v2), none]) (st' := [.int 1, .ref 130]) (h' := mkS x S4) rfl trivial ?_
            exact bpX11_testOf_130_28 x (dd := dd) rec_X11_testOf hrec_X11_testOf rec_X11_bothOf hrec_X11_bothOf rec_X11_plainOf hrec_X11_plainOf rec_X11_positiveOf hrec_X11_positiveOf hB k6 hk6 S4 v1 v2 1 _ _ hm
theorem lpX11_testOf_130_6 (x : XT) {dd : Nat} (rec_X11_testOf : ST → Int32 → Option (Int32 × ST)) (hrec_X11_testOf : ∀ (S : ST) (z0 : Int32) (r : Int32) (S' : ST), rec_X11_testOf S z0 = some (r, S') → Ct mX11_testOf dd 0 0 [.ref 130, .int z0] (mkS x S) (fun v h => v = some (.int r) ∧ h = mkS x S')) (rec_X11_bothOf : ST → Int32 → Option (Int32 × ST)) (hrec_X11_bothOf : ∀ (S : ST) (z0 : Int32) (r : Int32) (S' : ST), rec_X11_bothOf S z0 = some (r, S') → Ct mX11_bothOf dd 0 0 [.ref 130, .int z0] (mkS x S) (fun v h => v = some (.int r) ∧ h = mkS x S')) (rec_X11_plainOf : ST → Int32 → Option (Int32 × ST)) (hrec_X11_plainOf : ∀ (S : ST) (z0 : Int32) (r : Int32) (S' : ST), rec_X11_plainOf S z0 = some (r, S') → Ct mX11_plainOf dd 0 0 [.ref 130, .int z0] (mkS x S) (fun v h => v = some (.int r) ∧ h = mkS x S')) (rec_X11_positiveOf : ST → Int32 → Option (Int32 × ST)) (hrec_X11_positiveOf : ∀ (S : ST) (z0 : Int32) (r : Int32) (S' : ST), rec_X11_positiveOf S z0 = some (r, S') → Ct mX11_positiveOf dd 0 0 [.ref 130, .int z0] (mkS x S) (fun v h => v = some (.int r) ∧ h = mkS x S')) (hB : 63 ≤ dd)  : ∀ (n : Nat) (S : ST) (v1 : Int32) (v2 : Int32) (r : Int32) (S' : ST), lfX11_testOf_130_6 x rec_X11_testOf rec_X11_bothOf rec_X11_plainOf rec_X11_positiveOf  n S v1 v2 = some (r, S') → Ev mX11_testOf (dd + 1) 0 0 6 [some (.ref 130), some (.int v1), some (.int v2), none] [] (mkS x S) (fun v h => v = some (.int r) ∧ h = mkS x S')
  | 0, _, _, _, _, _, hm => by cases hm
  | n + 1, S, v1, v2, r, S', hm => bpX11_testOf_130_6 x (dd := dd) rec_X11_testOf hrec_X11_testOf rec_X11_bothOf hrec_X11_bothOf rec_X11_plainOf hrec_X11_plainOf rec_X11_positiveOf hrec_X11_positiveOf hB (lfX11_testOf_130_6 x rec_X11_testOf rec_X11_bothOf rec_X11_plainOf rec_X11_positiveOf  n) (lpX11_testOf_130_6 x (dd := dd) rec_X11_testOf hrec_X11_testOf rec_X11_bothOf hrec_X11_bothOf rec_X11_plainOf hrec_X11_plainOf rec_X11_positiveOf hrec_X11_positiveOf hB  n) S v1 v2 r S' hm
set_option maxHeartbeats 4000000 in
set_option maxRecDepth 20000 in
theorem bpX11_testOf_130_0 (x : XT) {dd : Nat} (rec_X11_testOf : ST → Int32 → Option (Int32 × ST)) (hrec_X11_testOf : ∀ (S : ST) (z0 : Int32) (r : Int32) (S' : ST), rec_X11_testOf S z0 = some (r, S') → Ct mX11_testOf dd 0 0 [.ref 130, .int z0] (mkS x S) (fun v h => v = some (.int r) ∧ h = mkS x S')) (rec_X11_bothOf : ST → Int32 → Option (Int32 × ST)) (hrec_X11_bothOf : ∀ (S : ST) (z0 : Int32) (r : Int32) (S' : ST), rec_X11_bothOf S z0 = some (r, S') → Ct mX11_bothOf dd 0 0 [.ref 130, .int z0] (mkS x S) (fun v h => v = some (.int r) ∧ h = mkS x S')) (rec_X11_plainOf : ST → Int32 → Option (Int32 × ST)) (hrec_X11_plainOf : ∀ (S : ST) (z0 : Int32) (r : Int32) (S' : ST), rec_X11_plainOf S z0 = some (r, S') → Ct mX11_plainOf dd 0 0 [.ref 130, .int z0] (mkS x S) (fun v h => v = some (.int r) ∧ h = mkS x S')) (rec_X11_positiveOf : ST → Int32 → Option (Int32 × ST)) (hrec_X11_positiveOf : ∀ (S : ST) (z0 : Int32) (r : Int32) (S' : ST), rec_X11_positiveOf S z0 = some (r, S') → Ct mX11_positiveOf dd 0 0 [.ref 130, .int z0] (mkS x S) (fun v h => v = some (.int r) ∧ h = mkS x S')) (hB : 63 ≤ dd)  (S : ST) (p1 : Int32) (r : Int32) (S' : ST) (hm : bfX11_testOf_130_0 x rec_X11_testOf rec_X11_bothOf rec_X11_plainOf rec_X11_positiveOf  S p1 = some (r, S')) : Ev mX11_testOf (dd + 1) 0 0 0 [some (.ref 130), some (.int p1), none, none] [] (mkS x S) (fun v h => v = some (.int r) ∧ h = mkS x S') := by
    unfold bfX11_testOf_130_0 at hm
    refine Ev.steps tokX11_testOf 2 (P := True) (pc' := 2) (lv' := [some (.ref 130), some (.int p1), none, none]) (st' := [.int p1, .ref 130]) (h' := mkS x S) rfl trivial ?_
    cases h1 : rec_X11_bothOf S p1 with
    | none => rw [h1] at hm; cases hm
    | some q2 =>
      obtain ⟨r3, S4⟩ := q2
      rw [h1] at hm
      dsimp only at hm
      refine ev_callV (N := mX11_bothOf) (d' := dd) (bc := 0) (bs := 0) (bc' := 0) (bs' := 0) (as := [.int p1]) (rest := []) (a := 130) (ci := 11) (dcd tokX11_testOf rfl) okX11_bothOf inX11_bothOf seX11_bothOf lk11_336 rfl (by omega) (Nat.le_of_ble_eq_true rfl) rfl ⟨by decide, rfl⟩ (hrec_X11_bothOf S p1 _ _ h1) (fun v h' hq hn => ?_)
      obtain ⟨rfl, rfl⟩ := hq
      refine Ev.steps tokX11_testOf 1 (P := True) (pc' := 6) (lv' := [some (.ref 130), some (.int p1), some (.int r3), none]) (st' := []) (h' := mkS x S4) rfl trivial ?_
      exact lpX11_testOf_130_6 x (dd := dd) rec_X11_testOf hrec_X11_testOf rec_X11_bothOf hrec_X11_bothOf rec_X11_plainOf hrec_X11_plainOf rec_X11_positiveOf hrec_X11_positiveOf hB  20000 S4 p1 r3 _ _ hm
theorem grpX11_testOf_130 (x : XT) {dd : Nat} (rec_X11_testOf : ST → Int32 → Option (Int32 × ST)) (hrec_X11_testOf : ∀ (S : ST) (z0 : Int32) (r : Int32) (S' : ST), rec_X11_testOf S z0 = some (r, S') → Ct mX11_testOf dd 0 0 [.ref 130, .int z0] (mkS x S) (fun v h => v = some (.int r) ∧ h = mkS x S')) (rec_X11_bothOf : ST → Int32 → Option (Int32 × ST)) (hrec_X11_bothOf : ∀ (S : ST) (z0 : Int32) (r : Int32) (S' : ST), rec_X11_bothOf S z0 = some (r, S') → Ct mX11_bothOf dd 0 0 [.ref 130, .int z0] (mkS x S) (fun v h => v = some (.int r) ∧ h = mkS x S')) (rec_X11_plainOf : ST → Int32 → Option (Int32 × ST)) (hrec_X11_plainOf : ∀ (S : ST) (z0 : Int32) (r : Int32) (S' : ST), rec_X11_plainOf S z0 = some (r, S') → Ct mX11_plainOf dd 0 0 [.ref 130, .int z0] (mkS x S) (fun v h => v = some (.int r) ∧ h = mkS x S')) (rec_X11_positiveOf : ST → Int32 → Option (Int32 × ST)) (hrec_X11_positiveOf : ∀ (S : ST) (z0 : Int32) (r : Int32) (S' : ST), rec_X11_positiveOf S z0 = some (r, S') → Ct mX11_positiveOf dd 0 0 [.ref 130, .int z0] (mkS x S) (fun v h => v = some (.int r) ∧ h = mkS x S')) (hB : 63 ≤ dd) (S : ST) (p1 : Int32) (r : Int32) (S' : ST) (hm : grfX11_testOf_130 x rec_X11_testOf rec_X11_bothOf rec_X11_plainOf rec_X11_positiveOf S p1 = some (r, S')) : Ct mX11_testOf (dd + 1) 0 0 [.ref 130, .int p1] (mkS x S) (fun v h => v = some (.int r) ∧ h = mkS x S') :=
  Ct.of (lv := [some (.ref 130), some (.int p1), none, none]) rfl rfl rfl (show (_ : Nat) ≤ _ from Nat.le_of_ble_eq_true rfl) (fun G => rfl) (bpX11_testOf_130_0 x (dd := dd) rec_X11_testOf hrec_X11_testOf rec_X11_bothOf hrec_X11_bothOf rec_X11_plainOf hrec_X11_plainOf rec_X11_positiveOf hrec_X11_positiveOf hB S p1 r S' hm)
set_option maxHeartbeats 4000000 in
set_option maxRecDepth 20000 in
theorem bpX11_bothOf_130_46 (x : XT) {dd : Nat} (rec_X11_testOf : ST → Int32 → Option (Int32 × ST)) (hrec_X11_testOf : ∀ (S : ST) (z0 : Int32) (r : Int32) (S' : ST), rec_X11_testOf S z0 = some (r, S') → Ct mX11_testOf dd 0 0 [.ref 130, .int z0] (mkS x S) (fun v h => v = some (.int r) ∧ h = mkS x S')) (rec_X11_bothOf : ST → Int32 → Option (Int32 × ST)) (hrec_X11_bothOf : ∀ (S : ST) (z0 : Int32) (r : Int32) (S' : ST), rec_X11_bothOf S z0 = some (r, S') → Ct mX11_bothOf dd 0 0 [.ref 130, .int z0] (mkS x S) (fun v h => v = some (.int r) ∧ h = mkS x S')) (rec_X11_plainOf : ST → Int32 → Option (Int32 × ST)) (hrec_X11_plainOf : ∀ (S : ST) (z0 : Int32) (r : Int32) (S' : ST), rec_X11_plainOf S z0 = some (r, S') → Ct mX11_plainOf dd 0 0 [.ref 130, .int z0] (mkS x S) (fun v h => v = some (.int r) ∧ h = mkS x S')) (rec_X11_positiveOf : ST → Int32 → Option (Int32 × ST)) (hrec_X11_positiveOf : ∀ (S : ST) (z0 : Int32) (r : Int32) (S' : ST), rec_X11_positiveOf S z0 = some (r, S') → Ct mX11_positiveOf dd 0 0 [.ref 130, .int z0] (mkS x S) (fun v h => v = some (.int r) ∧ h = mkS x S')) (hB : 63 ≤ dd) (k6 : ST → Int32 → Int32 → Option (Int32 × ST)) (hk6 : ∀ (S : ST) (v1 : Int32) (v2 : Int32) (r : Int32) (S' : ST), k6 S v1 v2 = some (r, S') → Ev mX11_bothOf (dd + 1) 0 0 6 [some (.ref 130), some (.int v1), some (.int v2), none] [] (mkS x S) (fun v h => v = some (.int r) ∧ h = mkS x S')) (S : ST) (v1 : Int32) (t0 : Int32) (r : Int32) (S' : ST) (hm : bfX11_bothOf_130_46 x rec_X11_testOf rec_X11_bothOf rec_X11_plainOf rec_X11_positiveOf k6 S v1 t0 = some (r, S')) : Ev mX11_bothOf (dd + 1) 0 0 46 [some (.ref 130), some (.int v1), none, none] [.int t0] (mkS x S) (fun v h => v = some (.int r) ∧ h = mkS x S') := by
    unfold bfX11_bothOf_130_46 at hm
    refine Ev.steps tokX11_bothOf 2 (P := True) (pc' := 6) (lv' := [some (.ref 130), some (.int v1), some (.int t0), none]) (st' := []) (h' := mkS x S) rfl trivial ?_
    exact hk6 S v1 t0 _ _ hm
set_option maxHeartbeats 4000000 in
set_option maxRecDepth 20000 in
theorem bpX11_bothOf_130_45 (x : XT) {dd : Nat} (rec_X11_testOf : ST → Int32 → Option (Int32 × ST)) (hrec_X11_testOf : ∀ (S : ST) (z0 : Int32) (r : Int32) (S' : ST), rec_X11_testOf S z0 = some (r, S') → Ct mX11_testOf dd 0 0 [.ref 130, .int z0] (mkS x S) (fun v h => v = some (.int r) ∧ h = mkS x S')) (rec_X11_bothOf : ST → Int32 → Option (Int32 × ST)) (hrec_X11_bothOf : ∀ (S : ST) (z0 : Int32) (r : Int32) (S' : ST), rec_X11_bothOf S z0 = some (r, S') → Ct mX11_bothOf dd 0 0 [.ref 130, .int z0] (mkS x S) (fun v h => v = some (.int r) ∧ h = mkS x S')) (rec_X11_plainOf : ST → Int32 → Option (Int32 × ST)) (hrec_X11_plainOf : ∀ (S : ST) (z0 : Int32) (r : Int32) (S' : ST), rec_X11_plainOf S z0 = some (r, S') → Ct mX11_plainOf dd 0 0 [.ref 130, .int z0] (mkS x S) (fun v h => v = some (.int r) ∧ h = mkS x S')) (rec_X11_positiveOf : ST → Int32 → Option (Int32 × ST)) (hrec_X11_positiveOf : ∀ (S : ST) (z0 : Int32) (r : Int32) (S' : ST), rec_X11_positiveOf S z0 = some (r, S') → Ct mX11_positiveOf dd 0 0 [.ref 130, .int z0] (mkS x S) (fun v h => v = some (.int r) ∧ h = mkS x S')) (hB : 63 ≤ dd) (k6 : ST → Int32 → Int32 → Option (Int32 × ST)) (hk6 : ∀ (S : ST) (v1 : Int32) (v2 : Int32) (r : Int32) (S' : ST), k6 S v1 v2 = some (r, S') → Ev mX11_bothOf (dd + 1) 0 0 6 [some (.ref 130), some (.int v1), some (.int v2), none] [] (mkS x S) (fun v h => v = some (.int r) ∧ h = mkS x S')) (S : ST) (v1 : Int32) (r : Int32) (S' : ST) (hm : bfX11_bothOf_130_45 x rec_X11_testOf rec_X11_bothOf rec_X11_plainOf rec_X11_positiveOf k6 S v1 = some (r, S')) : Ev mX11_bothOf (dd + 1) 0 0 45 [some (.ref 130), some (.int v1), none, none] [] (mkS x S) (fun v h => v = some (.int r) ∧ h = mkS x S') := by
    unfold bfX11_bothOf_130_45 at hm
    refine Ev.steps tokX11_bothOf 1 (P := True) (pc' := 46) (lv' := [some (.ref 130), some (.int v1), none, none]) (st' := [.int 0]) (h' := mkS x S) rfl trivial ?_
    exact bpX11_bothOf_130_46 x (dd := dd) rec_X11_testOf hrec_X11_testOf rec_X11_bothOf hrec_X11_bothOf rec_X11_plainOf hrec_X11_plainOf rec_X11_positiveOf hrec_X11_positiveOf hB k6 hk6 S v1 0 _ _ hm
set_option maxHeartbeats 4000000 in
set_option maxRecDepth 20000 in
theorem bpX11_bothOf_130_29 (x : XT) {dd : Nat} (rec_X11_testOf : ST → Int32 → Option (Int32 × ST)) (hrec_X11_testOf : ∀ (S : ST) (z0 : Int32) (r : Int32) (S' : ST), rec_X11_testOf S z0 = some (r, S') → Ct mX11_testOf dd 0 0 [.ref 130, .int z0] (mkS x S) (fun v h => v = some (.int r) ∧ h = mkS x S')) (rec_X11_bothOf : ST → Int32 → Option (Int32 × ST)) (hrec_X11_bothOf : ∀ (S : ST) (z0 : Int32) (r : Int32) (S' : ST), rec_X11_bothOf S z0 = some (r, S') → Ct mX11_bothOf dd 0 0 [.ref 130, .int z0] (mkS x S) (fun v h => v = some (.int r) ∧ h = mkS x S')) (rec_X11_plainOf : ST → Int32 → Option (Int32 × ST)) (hrec_X11_plainOf : ∀ (S : ST) (z0 : Int32) (r : Int32) (S' : ST), rec_X11_plainOf S z0 = some (r, S') → Ct mX11_plainOf dd 0 0 [.ref 130, .int z0] (mkS x S) (fun v h => v = some (.int r) ∧ h = mkS x S')) (rec_X11_positiveOf : ST → Int32 → Option (Int32 × ST)) (hrec_X11_positiveOf : ∀ (S : ST) (z0 : Int32) (r : Int32) (S' : ST), rec_X11_positiveOf S z0 = some (r, S') → Ct mX11_positiveOf dd 0 0 [.ref 130, .int z0] (mkS x S) (fun v h => v = some (.int r) ∧ h = mkS x S')) (hB : 63 ≤ dd) (k6 : ST → Int32 → Int32 → Option (Int32 × ST)) (hk6 : ∀ (S : ST) (v1 : Int32) (v2 : Int32) (r : Int32) (S' : ST), k6 S v1 v2 = some (r, S') → Ev mX11_bothOf (dd + 1) 0 0 6 [some (.ref 130), some (.int v1), some (.int v2), none] [] (mkS x S) (fun v h => v = some (.int r) ∧ h = mkS x S')) (S : ST) (v1 : Int32) (v2 : Int32) (t1 : Int32) (r : Int32) (S' : ST) (hm : bfX11_bothOf_130_29 x rec_X11_testOf rec_X11_bothOf rec_X11_plainOf rec_X11_positiveOf k6 S v1 v2 t1 = some (r, S')) : Ev mX11_bothOf (dd + 1) 0 0 29 [some (.ref 130), some (.int v1), some (.int v2), none] [.int t1, .ref 130] (mkS x S) (fun v h => v = some (.int r) ∧ h = mkS x S') := by
    unfold bfX11_bothOf_130_29 at hm
    cases h1 : rec_X11_plainOf S t1 with
    | none => rw [h1] at hm; cases hm
    | some q2 =>
      obtain ⟨r3, S4⟩ := q2
      rw [h1] at hm
      dsimp only at hm
      refine ev_callV (N := mX11_plainOf) (d' := dd) (bc := 0) (bs := 0) (bc' := 0) (bs' := 0) (as := [.int t1]) (rest := []) (a := 130) (ci := 11) (dcd tokX11_bothOf rfl) okX11_plainOf inX11_plainOf seX11_plainOf lk11_339 rfl (by omega) (Nat.le_of_ble_eq_true rfl) rfl ⟨by decide, rfl⟩ (hrec_X11_plainOf S t1 _ _ h1) (fun v h' hq hn => ?_)
      obtain ⟨rfl, rfl⟩ := hq
      refine Ev.steps tokX11_bothOf 3 (P := True) (pc' := if v2 = 0 then 45 else 37) (lv' := [some (.ref 130), some (.int v1), some (.int v2), some (.int r3)]) (st' := []) (h' := mkS x S4) rfl trivial ?_
      refine Ev.ite (fun c5 => ?_) (fun c5 => ?_)
      · rw [if_pos c5] at hm
        refine Ev.fgt (lv' := [some (.ref 130), some (.int v1), none, none]) ⟨rfl, rfl, trivial⟩ ?_
        exact bpX11_bothOf_130_45 x (dd := dd) rec_X11_testOf hrec_X11_testOf rec_X11_bothOf hrec_X11_bothOf rec_X11_plainOf hrec_X11_plainOf rec_X11_positiveOf hrec_X11_positiveOf hB k6 hk6 S4 v1 _ _ hm
      · rw [if_neg c5] at hm
        refine Ev.steps tokX11_bothOf 2 (P := True) (pc' := if r3 = 0 then 45 else 41) (lv' := [some (.ref 130), some (.int v1), some (.int v2), some (.int r3)]) (st' := []) (h' := mkS x S4) rfl trivial ?_
        refine Ev.ite (fun c6 => ?_) (fun c6 => ?_)
        · rw [if_pos c6] at hm
          refine Ev.fgt (lv' := [some (.ref 130), some (.int v1), none, none]) ⟨rfl, rfl, trivial⟩ ?_
          exact bpX11_bothOf_130_45 x (dd := dd) rec_X11_testOf hrec_X11_testOf rec_X11_bothOf hrec_X11_bothOf rec_X11_plainOf hrec_X11_plainOf rec_X11_positiveOf hrec_X11_positiveOf hB k6 hk6 S4 v1 _ _ hm
        · rw [if_neg c6] at hm
          refine Ev.steps tokX11_bothOf 2 (P := True) (pc' := 46) (lv' := [some (.ref 130), some (.int v1), some (.int v2), some (.int r3)]) (st' := [.int 1]) (h' := mkS x S4) rfl trivial ?_
          refine Ev.fgt (lv' := [some (.ref 130), some (.int v1), none, none]) ⟨rfl, rfl, trivial⟩ ?_
          exact bpX11_bothOf_130_46 x (dd := dd) rec_X11_testOf hrec_X11_testOf rec_X11_bothOf hrec_X11_bothOf rec_X11_plainOf hrec_X11_plainOf rec_X11_positiveOf hrec_X11_positiveOf hB k6 hk6 S4 v1 1 _ _ hm
set_option maxHeartbeats 4000000 in
set_option maxRecDepth 20000 in
theorem bpX11_bothOf_130_28 (x : XT) {dd : Nat} (rec_X11_testOf : ST → Int32 → Option (Int32 × ST)) (hrec_X11_testOf : ∀ (S : ST) (z0 : Int32) (r : Int32) (S' : ST), rec_X11_testOf S z0 = some (r, S') → Ct mX11_testOf dd 0 0 [.ref 130, .int z0] (mkS x S) (fun v h => v = some (.int r) ∧ h = mkS x S')) (rec_X11_bothOf : ST → Int32 → Option (Int32 × ST)) (hrec_X11_bothOf : ∀ (S : ST) (z0 : Int32) (r : Int32) (S' : ST), rec_X11_bothOf S z0 = some (r, S') → Ct mX11_bothOf dd 0 0 [.ref 130, .int z0] (mkS x S) (fun v h => v = some (.int r) ∧ h = mkS x S')) (rec_X11_plainOf : ST → Int32 → Option (Int32 × ST)) (hrec_X11_plainOf : ∀ (S : ST) (z0 : Int32) (r : Int32) (S' : ST), rec_X11_plainOf S z0 = some (r, S') → Ct mX11_plainOf dd 0 0 [.ref 130, .int z0] (mkS x S) (fun v h => v = some (.int r) ∧ h = mkS x S')) (rec_X11_positiveOf : ST → Int32 → Option (Int32 × ST)) (hrec_X11_positiveOf : ∀ (S : ST) (z0 : Int32) (r : Int32) (S' : ST), rec_X11_positiveOf S z0 = some (r, S') → Ct mX11_positiveOf dd 0 0 [.ref 130, .int z0] (mkS x S) (fun v h => v = some (.int r) ∧ h = mkS x S')) (hB : 63 ≤ dd) (k6 : ST → Int32 → Int32 → Option (Int32 × ST)) (hk6 : ∀ (S : ST) (v1 : Int32) (v2 : Int32) (r : Int32) (S' : ST), k6 S v1 v2 = some (r, S') → Ev mX11_bothOf (dd + 1) 0 0 6 [some (.ref 130), some (.int v1), some (.int v2), none] [] (mkS x S) (fun v h => v = some (.int r) ∧ h = mkS x S')) (S : ST) (v1 : Int32) (v2 : Int32) (r : Int32) (S' : ST) (hm : bfX11_bothOf_130_28 x rec_X11_testOf rec_X11_bothOf rec_X11_plainOf rec_X11_positiveOf k6 S v1 v2 = some (r, S')) : Ev mX11_bothOf (dd + 1) 0 0 28 [some (.ref 130), some (.int v1), some (.int v2), none] [.ref 130] (mkS x S) (fun v h => v = some (.int r) ∧ h = mkS x S') := by
    unfold bfX11_bothOf_130_28 at hm
    refine Ev.steps tokX11_bothOf 1 (P := True) (pc' := 29) (lv' := [some (.ref 130), some (.int v1), some (.int v2), none]) (st' := [.int 0, .ref 130]) (h' := mkS x S) rfl trivial ?_
    exact bpX11_bothOf_130_29 x (dd := dd) rec_X11_testOf hrec_X11_testOf rec_X11_bothOf hrec_X11_bothOf rec_X11_plainOf hrec_X11_plainOf rec_X11_positiveOf hrec_X11_positiveOf hB k6 hk6 S v1 v2 0 _ _ hm
set_option maxHeartbeats 4000000 in
set_option maxRecDepth 20000 in
theorem bpX11_bothOf_130_6 (x : XT) {dd : Nat} (rec_X11_testOf : ST → Int32 → Option (Int32 × ST)) (hrec_X11_testOf : ∀ (S : ST) (z0 : Int32) (r : Int32) (S' : ST), rec_X11_testOf S z0 = some (r, S') → Ct mX11_testOf dd 0 0 [.ref 130, .int z0] (mkS x S) (fun v h => v = some (.int r) ∧ h = mkS x S')) (rec_X11_bothOf : ST → Int32 → Option (Int32 × ST)) (hrec_X11_bothOf : ∀ (S : ST) (z0 : Int32) (r : Int32) (S' : ST), rec_X11_bothOf S z0 = some (r, S') → Ct mX11_bothOf dd 0 0 [.ref 130, .int z0] (mkS x S) (fun v h => v = some (.int r) ∧ h = mkS x S')) (rec_X11_plainOf : ST → Int32 → Option (Int32 × ST)) (hrec_X11_plainOf : ∀ (S : ST) (z0 : Int32) (r : Int32) (S' : ST), rec_X11_plainOf S z0 = some (r, S') → Ct mX11_plainOf dd 0 0 [.ref 130, .int z0] (mkS x S) (fun v h => v = some (.int r) ∧ h = mkS x S')) (rec_X11_positiveOf : ST → Int32 → Option (Int32 × ST)) (hrec_X11_positiveOf : ∀ (S : ST) (z0 : Int32) (r : Int32) (S' : ST), rec_X11_positiveOf S z0 = some (r, S') → Ct mX11_positiveOf dd 0 0 [.ref 130, .int z0] (mkS x S) (fun v h => v = some (.int r) ∧ h = mkS x S')) (hB : 63 ≤ dd) (k6 : ST → Int32 → Int32 → Option (Int32 × ST)) (hk6 : ∀ (S : ST) (v1 : Int32) (v2 : Int32) (r : Int32) (S' : ST), k6 S v1 v2 = some (r, S') → Ev mX11_bothOf (dd + 1) 0 0 6 [some (.ref 130), some (.int v1), some (.int v2), none] [] (mkS x S) (fun v h => v = some (.int r) ∧ h = mkS x S')) (S : ST) (v1 : Int32) (v2 : Int32) (r : Int32) (S' : ST) (hm : bfX11_bothOf_130_6 x rec_X11_testOf rec_X11_bothOf rec_X11_plainOf rec_X11_positiveOf k6 S v1 v2 = some (r, S')) : Ev mX11_bothOf (dd + 1) 0 0 6 [some (.ref 130), some (.int v1), some (.int v2), none] [] (mkS x S) (fun v h => v = some (.int r) ∧ h = mkS x S') := by
    unfold bfX11_bothOf_130_6 at hm
    refine Ev.steps tokX11_bothOf 2 (P := True) (pc' := 9) (lv' := [some (.ref 130), some (.int v1), some (.int v2), none]) (st' := [.int 6, .ref 130]) (h' := mkS x S) rfl trivial ?_
    cases h1 : gfX11_passes0_130 x S 6 with
    | none => rw [h1] at hm; cases hm
    | some q2 =>
      obtain ⟨r3, S4⟩ := q2
      rw [h1] at hm
      dsimp only at hm
      refine ev_callV (N := mX11_passes0) (d' := 2) (bc := 0) (bs := 0) (bc' := 0) (bs' := 0) (as := [.int 6]) (rest := []) (a := 130) (ci := 11) (dcd tokX11_bothOf rfl) okX11_passes0 inX11_passes0 seX11_passes0 lk11_315 rfl (by omega) (Nat.le_of_ble_eq_true rfl) rfl ⟨by decide, rfl⟩ (gpX11_passes0_130 x S 6 _ _ h1) (fun v h' hq hn => ?_)
      obtain ⟨rfl, rfl⟩ := hq
      refine Ev.steps tokX11_bothOf 1 (P := True) (pc' := if r3 = 0 then 50 else 15) (lv' := [some (.ref 130), some (.int v1), some (.int v2), none]) (st' := []) (h' := mkS x S4) rfl trivial ?_
      refine Ev.ite (fun c5 => ?_) (fun c5 => ?_)
      · rw [if_pos c5] at hm
        refine Ev.steps tokX11_bothOf 1 (P := True) (pc' := 51) (lv' := [some (.ref 130), some (.int v1), some (.int v2), none]) (st' := [.int v2]) (h' := mkS x S4) rfl trivial ?_
        obtain ⟨o6, hm⟩ := oblk hm
        cases hm
        exact Ev.retz tokX11_bothOf rfl rfl (bbz_ok o6) ⟨rfl, rfl⟩
      · rw [if_neg c5] at hm
        refine Ev.steps tokX11_bothOf 3 (P := True) (pc' := if v1 = 0 then 28 else 20) (lv' := [some (.ref 130), some (.int v1), some (.int v2), none]) (st' := [.ref 130]) (h' := mkS x S4) rfl trivial ?_
        refine Ev.ite (fun c7 => ?_) (fun c7 => ?_)
        · rw [if_pos c7] at hm
          exact bpX11_bothOf_130_28 x (dd := dd) rec_X11_testOf hrec_X11_testOf rec_X11_bothOf hrec_X11_bothOf rec_X11_plainOf hrec_X11_plainOf rec_X11_positiveOf hrec_X11_positiveOf hB k6 hk6 S4 v1 v2 _ _ hm
        · rw [if_neg c7] at hm
          refine Ev.steps tokX11_bothOf 2 (P := True) (pc' := if v2 = 0 then 28 else 24) (lv' := [some (.ref 130), some (.int v1), some (.int v2), none]) (st' := [.ref 130]) (h' := mkS x S4) rfl trivial ?_
          refine Ev.ite (fun c8 => ?_) (fun c8 => ?_)
          · rw [if_pos c8] at hm
            exact bpX11_bothOf_130_28 x (dd := dd) rec_X11_testOf hrec_X11_testOf rec_X11_bothOf hrec_X11_bothOf rec_X11_plainOf hrec_X11_plainOf rec_X11_positiveOf hrec_X11_positiveOf hB k6 hk6 S4 v1 v2 _ _ hm
          · rw [if_neg c8] at hm
            refine Ev.steps tokX11_bothOf 2 (P := True) (pc' := 29) (lv' := [some (.ref 130), some (.int v1), some (.int v2), none]) (st' := [.int 1, .ref 130]) (h' := mkS x S4) rfl trivial ?_
            exact bpX11_bothOf_130_29 x (dd := dd) rec_X11_testOf hrec_X11_testOf rec_X11_bothOf hrec_X11_bothOf rec_X11_plainOf hrec_X11_plainOf rec_X11_positiveOf hrec_X11_positiveOf hB k6 hk6 S4 v1 v2 1 _ _ hm
theorem lpX11_bothOf_130_6 (x : XT) {dd : Nat} (rec_X11_testOf : ST → Int32 → Option (Int32 × ST)) (hrec_X11_testOf : ∀ (S : ST) (z0 : Int32) (r : Int32) (S' : ST), rec_X11_testOf S z0 = some (r, S') → Ct mX11_testOf dd 0 0 [.ref 130, .int z0] (mkS x S) (fun v h => v = some (.int r) ∧ h = mkS x S')) (rec_X11_bothOf : ST → Int32 → Option (Int32 × ST)) (hrec_X11_bothOf : ∀ (S : ST) (z0 : Int32) (r : Int32) (S' : ST), rec_X11_bothOf S z0 = some (r, S') → Ct mX11_bothOf dd 0 0 [.ref 130, .int z0] (mkS x S) (fun v h => v = some (.int r) ∧ h = mkS x S')) (rec_X11_plainOf : ST → Int32 → Option (Int32 × ST)) (hrec_X11_plainOf : ∀ (S : ST) (z0 : Int32) (r : Int32) (S' : ST), rec_X11_plainOf S z0 = some (r, S') → Ct mX11_plainOf dd 0 0 [.ref 130, .int z0] (mkS x S) (fun v h => v = some (.int r) ∧ h = mkS x S')) (rec_X11_positiveOf : ST → Int32 → Option (Int32 × ST)) (hrec_X11_positiveOf : ∀ (S : ST) (z0 : Int32) (r : Int32) (S' : ST), rec_X11_positiveOf S z0 = some (r, S') → Ct mX11_positiveOf dd 0 0 [.ref 130, .int z0] (mkS x S) (fun v h => v = some (.int r) ∧ h = mkS x S')) (hB : 63 ≤ dd)  : ∀ (n : Nat) (S : ST) (v1 : Int32) (v2 : Int32) (r : Int32) (S' : ST), lfX11_bothOf_130_6 x rec_X11_testOf rec_X11_bothOf rec_X11_plainOf rec_X11_positiveOf  n S v1 v2 = some (r, S') → Ev mX11_bothOf (dd + 1) 0 0 6 [some (.ref 130), some (.int v1), some (.int v2), none] [] (mkS x S) (fun v h => v = some (.int r) ∧ h = mkS x S')
  | 0, _, _, _, _, _, hm => by cases hm
  | n + 1, S, v1, v2, r, S', hm => bpX11_bothOf_130_6 x (dd := dd) rec_X11_testOf hrec_X11_testOf rec_X11_bothOf hrec_X11_bothOf rec_X11_plainOf hrec_X11_plainOf rec_X11_positiveOf hrec_X11_positiveOf hB (lfX11_bothOf_130_6 x rec_X11_testOf rec_X11_bothOf rec_X11_plainOf rec_X11_positiveOf  n) (lpX11_bothOf_130_6 x (dd := dd) rec_X11_testOf hrec_X11_testOf rec_X11_bothOf hrec_X11_bothOf rec_X11_plainOf hrec_X11_plainOf rec_X11_positiveOf hrec_X11_positiveOf hB  n) S v1 v2 r S' hm
set_option maxHeartbeats 4000000 in
set_option maxRecDepth 20000 in
theorem bpX11_bothOf_130_0 (x : XT) {dd : Nat} (rec_X11_testOf : ST → Int32 → Option (Int32 × ST)) (hrec_X11_testOf : ∀ (S : ST) (z0 : Int32) (r : Int32) (S' : ST), rec_X11_testOf S z0 = some (r, S') → Ct mX11_testOf dd 0 0 [.ref 130, .int z0] (mkS x S) (fun v h => v = some (.int r) ∧ h = mkS x S')) (rec_X11_bothOf : ST → Int32 → Option (Int32 × ST)) (hrec_X11_bothOf : ∀ (S : ST) (z0 : Int32) (r : Int32) (S' : ST), rec_X11_bothOf S z0 = some (r, S') → Ct mX11_bothOf dd 0 0 [.ref 130, .int z0] (mkS x S) (fun v h => v = some (.int r) ∧ h = mkS x S')) (rec_X11_plainOf : ST → Int32 → Option (Int32 × ST)) (hrec_X11_plainOf : ∀ (S : ST) (z0 : Int32) (r : Int32) (S' : ST), rec_X11_plainOf S z0 = some (r, S') → Ct mX11_plainOf dd 0 0 [.ref 130, .int z0] (mkS x S) (fun v h => v = some (.int r) ∧ h = mkS x S')) (rec_X11_positiveOf : ST → Int32 → Option (Int32 × ST)) (hrec_X11_positiveOf : ∀ (S : ST) (z0 : Int32) (r : Int32) (S' : ST), rec_X11_positiveOf S z0 = some (r, S') → Ct mX11_positiveOf dd 0 0 [.ref 130, .int z0] (mkS x S) (fun v h => v = some (.int r) ∧ h = mkS x S')) (hB : 63 ≤ dd)  (S : ST) (p1 : Int32) (r : Int32) (S' : ST) (hm : bfX11_bothOf_130_0 x rec_X11_testOf rec_X11_bothOf rec_X11_plainOf rec_X11_positiveOf  S p1 = some (r, S')) : Ev mX11_bothOf (dd + 1) 0 0 0 [some (.ref 130), some (.int p1), none, none] [] (mkS x S) (fun v h => v = some (.int r) ∧ h = mkS x S') := by
    unfold bfX11_bothOf_130_0 at hm
    refine Ev.steps tokX11_bothOf 2 (P := True) (pc' := 2) (lv' := [some (.ref 130), some (.int p1), none, none]) (st' := [.int p1, .ref 130]) (h' := mkS x S) rfl trivial ?_
    cases h1 : rec_X11_plainOf S p1 with
    | none => rw [h1] at hm; cases hm
    | some q2 =>
      obtain ⟨r3, S4⟩ := q2
      rw [h1] at hm
      dsimp only at hm
      refine ev_callV (N := mX11_plainOf) (d' := dd) (bc := 0) (bs := 0) (bc' := 0) (bs' := 0) (as := [.int p1]) (rest := []) (a := 130) (ci := 11) (dcd tokX11_bothOf rfl) okX11_plainOf inX11_plainOf seX11_plainOf lk11_339 rfl (by omega) (Nat.le_of_ble_eq_true rfl) rfl ⟨by decide, rfl⟩ (hrec_X11_plainOf S p1 _ _ h1) (fun v h' hq hn => ?_)
      obtain ⟨rfl, rfl⟩ := hq
      refine Ev.steps tokX11_bothOf 1 (P := True) (pc' := 6) (lv' := [some (.ref 130), some (.int p1), some (.int r3), none]) (st' := []) (h' := mkS x S4) rfl trivial ?_
      exact lpX11_bothOf_130_6 x (dd := dd) rec_X11_testOf hrec_X11_testOf rec_X11_bothOf hrec_X11_bothOf rec_X11_plainOf hrec_X11_plainOf rec_X11_positiveOf hrec_X11_positiveOf hB  20000 S4 p1 r3 _ _ hm
theorem grpX11_bothOf_130 (x : XT) {dd : Nat} (rec_X11_testOf : ST → Int32 → Option (Int32 × ST)) (hrec_X11_testOf : ∀ (S : ST) (z0 : Int32) (r : Int32) (S' : ST), rec_X11_testOf S z0 = some (r, S') → Ct mX11_testOf dd 0 0 [.ref 130, .int z0] (mkS x S) (fun v h => v = some (.int r) ∧ h = mkS x S')) (rec_X11_bothOf : ST → Int32 → Option (Int32 × ST)) (hrec_X11_bothOf : ∀ (S : ST) (z0 : Int32) (r : Int32) (S' : ST), rec_X11_bothOf S z0 = some (r, S') → Ct mX11_bothOf dd 0 0 [.ref 130, .int z0] (mkS x S) (fun v h => v = some (.int r) ∧ h = mkS x S')) (rec_X11_plainOf : ST → Int32 → Option (Int32 × ST)) (hrec_X11_plainOf : ∀ (S : ST) (z0 : Int32) (r : Int32) (S' : ST), rec_X11_plainOf S z0 = some (r, S') → Ct mX11_plainOf dd 0 0 [.ref 130, .int z0] (mkS x S) (fun v h => v = some (.int r) ∧ h = mkS x S')) (rec_X11_positiveOf : ST → Int32 → Option (Int32 × ST)) (hrec_X11_positiveOf : ∀ (S : ST) (z0 : Int32) (r : Int32) (S' : ST), rec_X11_positiveOf S z0 = some (r, S') → Ct mX11_positiveOf dd 0 0 [.ref 130, .int z0] (mkS x S) (fun v h => v = some (.int r) ∧ h = mkS x S')) (hB : 63 ≤ dd) (S : ST) (p1 : Int32) (r : Int32) (S' : ST) (hm : grfX11_bothOf_130 x rec_X11_testOf rec_X11_bothOf rec_X11_plainOf rec_X11_positiveOf S p1 = some (r, S')) : Ct mX11_bothOf (dd + 1) 0 0 [.ref 130, .int p1] (mkS x S) (fun v h => v = some (.int r) ∧ h = mkS x S') :=
  Ct.of (lv := [some (.ref 130), some (.int p1), none, none]) rfl rfl rfl (show (_ : Nat) ≤ _ from Nat.le_of_ble_eq_true rfl) (fun G => rfl) (bpX11_bothOf_130_0 x (dd := dd) rec_X11_testOf hrec_X11_testOf rec_X11_bothOf hrec_X11_bothOf rec_X11_plainOf hrec_X11_plainOf rec_X11_positiveOf hrec_X11_positiveOf hB S p1 r S' hm)
set_option maxHeartbeats 4000000 in
set_option maxRecDepth 20000 in
theorem bpX11_plainOf_130_38 (x : XT) {dd : Nat} (rec_X11_testOf : ST → Int32 → Option (Int32 × ST)) (hrec_X11_testOf : ∀ (S : ST) (z0 : Int32) (r : Int32) (S' : ST), rec_X11_testOf S z0 = some (r, S') → Ct mX11_testOf dd 0 0 [.ref 130, .int z0] (mkS x S) (fun v h => v = some (.int r) ∧ h = mkS x S')) (rec_X11_bothOf : ST → Int32 → Option (Int32 × ST)) (hrec_X11_bothOf : ∀ (S : ST) (z0 : Int32) (r : Int32) (S' : ST), rec_X11_bothOf S z0 = some (r, S') → Ct mX11_bothOf dd 0 0 [.ref 130, .int z0] (mkS x S) (fun v h => v = some (.int r) ∧ h = mkS x S')) (rec_X11_plainOf : ST → Int32 → Option (Int32 × ST)) (hrec_X11_plainOf : ∀ (S : ST) (z0 : Int32) (r : Int32) (S' : ST), rec_X11_plainOf S z0 = some (r, S') → Ct mX11_plainOf dd 0 0 [.ref 130, .int z0] (mkS x S) (fun v h => v = some (.int r) ∧ h = mkS x S')) (rec_X11_positiveOf : ST → Int32 → Option (Int32 × ST)) (hrec_X11_positiveOf : ∀ (S : ST) (z0 : Int32) (r : Int32) (S' : ST), rec_X11_positiveOf S z0 = some (r, S') → Ct mX11_positiveOf dd 0 0 [.ref 130, .int z0] (mkS x S) (fun v h => v = some (.int r) ∧ h = mkS x S')) (hB : 63 ≤ dd)  (S : ST) (t0 : Int32) (r : Int32) (S' : ST) (hm : bfX11_plainOf_130_38 x rec_X11_testOf rec_X11_bothOf rec_X11_plainOf rec_X11_positiveOf  S t0 = some (r, S')) : Ev mX11_plainOf (dd + 1) 0 0 38 [none, none, none] [.int t0] (mkS x S) (fun v h => v = some (.int r) ∧ h = mkS x S') := by
    unfold bfX11_plainOf_130_38 at hm
    obtain ⟨o1, hm⟩ := oblk hm
    cases hm
    exact Ev.retz tokX11_plainOf rfl rfl (bbz_ok o1) ⟨rfl, rfl⟩
set_option maxHeartbeats 4000000 in
set_option maxRecDepth 20000 in
theorem bpX11_plainOf_130_20 (x : XT) {dd : Nat} (rec_X11_testOf : ST → Int32 → Option (Int32 × ST)) (hrec_X11_testOf : ∀ (S : ST) (z0 : Int32) (r : Int32) (S' : ST), rec_X11_testOf S z0 = some (r, S') → Ct mX11_testOf dd 0 0 [.ref 130, .int z0] (mkS x S) (fun v h => v = some (.int r) ∧ h = mkS x S')) (rec_X11_bothOf : ST → Int32 → Option (Int32 × ST)) (hrec_X11_bothOf : ∀ (S : ST) (z0 : Int32) (r : Int32) (S' : ST), rec_X11_bothOf S z0 = some (r, S') → Ct mX11_bothOf dd 0 0 [.ref 130, .int z0] (mkS x S) (fun v h => v = some (.int r) ∧ h = mkS x S')) (rec_X11_plainOf : ST → Int32 → Option (Int32 × ST)) (hrec_X11_plainOf : ∀ (S : ST) (z0 : Int32) (r : Int32) (S' : ST), rec_X11_plainOf S z0 = some (r, S') → Ct mX11_plainOf dd 0 0 [.ref 130, .int z0] (mkS x S) (fun v h => v = some (.int r) ∧ h = mkS x S')) (rec_X11_positiveOf : ST → Int32 → Option (Int32 × ST)) (hrec_X11_positiveOf : ∀ (S : ST) (z0 : Int32) (r : Int32) (S' : ST), rec_X11_positiveOf S z0 = some (r, S') → Ct mX11_positiveOf dd 0 0 [.ref 130, .int z0] (mkS x S) (fun v h => v = some (.int r) ∧ h = mkS x S')) (hB : 63 ≤ dd) (k2 : ST → Int32 → Int32 → Option (Int32 × ST)) (hk2 : ∀ (S : ST) (v1 : Int32) (v2 : Int32) (r : Int32) (S' : ST), k2 S v1 v2 = some (r, S') → Ev mX11_plainOf (dd + 1) 0 0 2 [some (.ref 130), some (.int v1), some (.int v2)] [] (mkS x S) (fun v h => v = some (.int r) ∧ h = mkS x S')) (S : ST) (v1 : Int32) (t0 : Int32) (r : Int32) (S' : ST) (hm : bfX11_plainOf_130_20 x rec_X11_testOf rec_X11_bothOf rec_X11_plainOf rec_X11_positiveOf k2 S v1 t0 = some (r, S')) : Ev mX11_plainOf (dd + 1) 0 0 20 [some (.ref 130), some (.int v1), none] [.int t0] (mkS x S) (fun v h => v = some (.int r) ∧ h = mkS x S') := by
    unfold bfX11_plainOf_130_20 at hm
    refine Ev.steps tokX11_plainOf 2 (P := True) (pc' := 2) (lv' := [some (.ref 130), some (.int v1), some (.int t0)]) (st' := []) (h' := mkS x S) rfl trivial ?_
    exact hk2 S v1 t0 _ _ hm
set_option maxHeartbeats 4000000 in
set_option maxRecDepth 20000 in
theorem bpX11_plainOf_130_2 (x : XT) {dd : Nat} (rec_X11_testOf : ST → Int32 → Option (Int32 × ST)) (hrec_X11_testOf : ∀ (S : ST) (z0 : Int32) (r : Int32) (S' : ST), rec_X11_testOf S z0 = some (r, S') → Ct mX11_testOf dd 0 0 [.ref 130, .int z0] (mkS x S) (fun v h => v = some (.int r) ∧ h = mkS x S')) (rec_X11_bothOf : ST → Int32 → Option (Int32 × ST)) (hrec_X11_bothOf : ∀ (S : ST) (z0 : Int32) (r : Int32) (S' : ST), rec_X11_bothOf S z0 = some (r, S') → Ct mX11_bothOf dd 0 0 [.ref 130, .int z0] (mkS x S) (fun v h => v = some (.int r) ∧ h = mkS x S')) (rec_X11_plainOf : ST → Int32 → Option (Int32 × ST)) (hrec_X11_plainOf : ∀ (S : ST) (z0 : Int32) (r : Int32) (S' : ST), rec_X11_plainOf S z0 = some (r, S') → Ct mX11_plainOf dd 0 0 [.ref 130, .int z0] (mkS x S) (fun v h => v = some (.int r) ∧ h = mkS x S')) (rec_X11_positiveOf : ST → Int32 → Option (Int32 × ST)) (hrec_X11_positiveOf : ∀ (S : ST) (z0 : Int32) (r : Int32) (S' : ST), rec_X11_positiveOf S z0 = some (r, S') → Ct mX11_positiveOf dd 0 0 [.ref 130, .int z0] (mkS x S) (fun v h => v = some (.int r) ∧ h = mkS x S')) (hB : 63 ≤ dd) (k2 : ST → Int32 → Int32 → Option (Int32 × ST)) (hk2 : ∀ (S : ST) (v1 : Int32) (v2 : Int32) (r : Int32) (S' : ST), k2 S v1 v2 = some (r, S') → Ev mX11_plainOf (dd + 1) 0 0 2 [some (.ref 130), some (.int v1), some (.int v2)] [] (mkS x S) (fun v h => v = some (.int r) ∧ h = mkS x S')) (S : ST) (v1 : Int32) (v2 : Int32) (r : Int32) (S' : ST) (hm : bfX11_plainOf_130_2 x rec_X11_testOf rec_X11_bothOf rec_X11_plainOf rec_X11_positiveOf k2 S v1 v2 = some (r, S')) : Ev mX11_plainOf (dd + 1) 0 0 2 [some (.ref 130), some (.int v1), some (.int v2)] [] (mkS x S) (fun v h => v = some (.int r) ∧ h = mkS x S') := by
    unfold bfX11_plainOf_130_2 at hm
    refine Ev.steps tokX11_plainOf 2 (P := True) (pc' := 5) (lv' := [some (.ref 130), some (.int v1), some (.int v2)]) (st' := [.int 7, .ref 130]) (h' := mkS x S) rfl trivial ?_
    cases h1 : gfX11_passes0_130 x S 7 with
    | none => rw [h1] at hm; cases hm
    | some q2 =>
      obtain ⟨r3, S4⟩ := q2
      rw [h1] at hm
      dsimp only at hm
      refine ev_callV (N := mX11_passes0) (d' := 2) (bc := 0) (bs := 0) (bc' := 0) (bs' := 0) (as := [.int 7]) (rest := []) (a := 130) (ci := 11) (dcd tokX11_plainOf rfl) okX11_passes0 inX11_passes0 seX11_passes0 lk11_315 rfl (by omega) (Nat.le_of_ble_eq_true rfl) rfl ⟨by decide, rfl⟩ (gpX11_passes0_130 x S 7 _ _ h1) (fun v h' hq hn => ?_)
      obtain ⟨rfl, rfl⟩ := hq
      refine Ev.steps tokX11_plainOf 1 (P := True) (pc' := if r3 = 0 then 24 else 11) (lv' := [some (.ref 130), some (.int v1), some (.int v2)]) (st' := []) (h' := mkS x S4) rfl trivial ?_
      refine Ev.ite (fun c5 => ?_) (fun c5 => ?_)
      · rw [if_pos c5] at hm
        refine Ev.steps tokX11_plainOf 2 (P := True) (pc' := 26) (lv' := [some (.ref 130), some (.int v1), some (.int v2)]) (st' := [.int v1, .ref 130]) (h' := mkS x S4) rfl trivial ?_
        cases h6 : rec_X11_positiveOf S4 v1 with
        | none => rw [h6] at hm; cases hm
        | some q7 =>
          obtain ⟨r8, S9⟩ := q7
          rw [h6] at hm
          dsimp only at hm
          refine ev_callV (N := mX11_positiveOf) (d' := dd) (bc := 0) (bs := 0) (bc' := 0) (bs' := 0) (as := [.int v1]) (rest := []) (a := 130) (ci := 11) (dcd tokX11_plainOf rfl) okX11_positiveOf inX11_positiveOf seX11_positiveOf lk11_342 rfl (by omega) (Nat.le_of_ble_eq_true rfl) rfl ⟨by decide, rfl⟩ (hrec_X11_positiveOf S4 v1 _ _ h6) (fun v h' hq hn => ?_)
          obtain ⟨rfl, rfl⟩ := hq
          refine Ev.steps tokX11_plainOf 2 (P := True) (pc' := if r8 = v2 then 37 else 33) (lv' := [some (.ref 130), some (.int v1), some (.int v2)]) (st' := []) (h' := mkS x S9) rfl trivial ?_
          refine Ev.ite (fun c10 => ?_) (fun c10 => ?_)
          · rw [if_pos c10] at hm
            refine Ev.steps tokX11_plainOf 1 (P := True) (pc' := 38) (lv' := [some (.ref 130), some (.int v1), some (.int v2)]) (st' := [.int 0]) (h' := mkS x S9) rfl trivial ?_
            refine Ev.fgt (lv' := [none, none, none]) trivial ?_
            exact bpX11_plainOf_130_38 x (dd := dd) rec_X11_testOf hrec_X11_testOf rec_X11_bothOf hrec_X11_bothOf rec_X11_plainOf hrec_X11_plainOf rec_X11_positiveOf hrec_X11_positiveOf hB S9 0 _ _ hm
          · rw [if_neg c10] at hm
            refine Ev.steps tokX11_plainOf 2 (P := True) (pc' := 38) (lv' := [some (.ref 130), some (.int v1), some (.int v2)]) (st' := [.int 1]) (h' := mkS x S9) rfl trivial ?_
            refine Ev.fgt (lv' := [none, none, none]) trivial ?_
            exact bpX11_plainOf_130_38 x (dd := dd) rec_X11_testOf hrec_X11_testOf rec_X11_bothOf hrec_X11_bothOf rec_X11_plainOf hrec_X11_plainOf rec_X11_positiveOf hrec_X11_positiveOf hB S9 1 _ _ hm
      · rw [if_neg c5] at hm
        refine Ev.steps tokX11_plainOf 2 (P := True) (pc' := if ¬ v2 = 0 then 19 else 15) (lv' := [some (.ref 130), some (.int v1), some (.int v2)]) (st' := []) (h' := mkS x S4) rfl trivial ?_
        refine Ev.ite (fun c11 => ?_) (fun c11 => ?_)
        · rw [if_pos c11] at hm
          refine Ev.steps tokX11_plainOf 1 (P := True) (pc' := 20) (lv' := [some (.ref 130), some (.int v1), some (.int v2)]) (st' := [.int 0]) (h' := mkS x S4) rfl trivial ?_
          refine Ev.fgt (lv' := [some (.ref 130), some (.int v1), none]) ⟨rfl, rfl, trivial⟩ ?_
          exact bpX11_plainOf_130_20 x (dd := dd) rec_X11_testOf hrec_X11_testOf rec_X11_bothOf hrec_X11_bothOf rec_X11_plainOf hrec_X11_plainOf rec_X11_positiveOf hrec_X11_positiveOf hB k2 hk2 S4 v1 0 _ _ hm
        · rw [if_neg c11] at hm
          refine Ev.steps tokX11_plainOf 2 (P := True) (pc' := 20) (lv' := [some (.ref 130), some (.int v1), some (.int v2)]) (st' := [.int 1]) (h' := mkS x S4) rfl trivial ?_
          refine Ev.fgt (lv' := [some (.ref 130), some (.int v1), none]) ⟨rfl, rfl, trivial⟩ ?_
          exact bpX11_plainOf_130_20 x (dd := dd) rec_X11_testOf hrec_X11_testOf rec_X11_bothOf hrec_X11_bothOf rec_X11_plainOf hrec_X11_plainOf rec_X11_positiveOf hrec_X11_positiveOf hB k2 hk2 S4 v1 1 _ _ hm
theorem lpX11_plainOf_130_2 (x : XT) {dd : Nat} (rec_X11_testOf : ST → Int32 → Option (Int32 × ST)) (hrec_X11_testOf : ∀ (S : ST) (z0 : Int32) (r : Int32) (S' : ST), rec_X11_testOf S z0 = some (r, S') → Ct mX11_testOf dd 0 0 [.ref 130, .int z0] (mkS x S) (fun v h => v = some (.int r) ∧ h = mkS x S')) (rec_X11_bothOf : ST → Int32 → Option (Int32 × ST)) (hrec_X11_bothOf : ∀ (S : ST) (z0 : Int32) (r : Int32) (S' : ST), rec_X11_bothOf S z0 = some (r, S') → Ct mX11_bothOf dd 0 0 [.ref 130, .int z0] (mkS x S) (fun v h => v = some (.int r) ∧ h = mkS x S')) (rec_X11_plainOf : ST → Int32 → Option (Int32 × ST)) (hrec_X11_plainOf : ∀ (S : ST) (z0 : Int32) (r : Int32) (S' : ST), rec_X11_plainOf S z0 = some (r, S') → Ct mX11_plainOf dd 0 0 [.ref 130, .int z0] (mkS x S) (fun v h => v = some (.int r) ∧ h = mkS x S')) (rec_X11_positiveOf : ST → Int32 → Option (Int32 × ST)) (hrec_X11_positiveOf : ∀ (S : ST) (z0 : Int32) (r : Int32) (S' : ST), rec_X11_positiveOf S z0 = some (r, S') → Ct mX11_positiveOf dd 0 0 [.ref 130, .int z0] (mkS x S) (fun v h => v = some (.int r) ∧ h = mkS x S')) (hB : 63 ≤ dd)  : ∀ (n : Nat) (S : ST) (v1 : Int32) (v2 : Int32) (r : Int32) (S' : ST), lfX11_plainOf_130_2 x rec_X11_testOf rec_X11_bothOf rec_X11_plainOf rec_X11_positiveOf  n S v1 v2 = some (r, S') → Ev mX11_plainOf (dd + 1) 0 0 2 [some (.ref 130), some (.int v1), some (.int v2)] [] (mkS x S) (fun v h => v = some (.int r) ∧ h = mkS x S')
  | 0, _, _, _, _, _, hm => by cases hm
  | n + 1, S, v1, v2, r, S', hm => bpX11_plainOf_130_2 x (dd := dd) rec_X11_testOf hrec_X11_testOf rec_X11_bothOf hrec_X11_bothOf rec_X11_plainOf hrec_X11_plainOf rec_X11_positiveOf hrec_X11_positiveOf hB (lfX11_plainOf_130_2 x rec_X11_testOf rec_X11_bothOf rec_X11_plainOf rec_X11_positiveOf  n) (lpX11_plainOf_130_2 x (dd := dd) rec_X11_testOf hrec_X11_testOf rec_X11_bothOf hrec_X11_bothOf rec_X11_plainOf hrec_X11_plainOf rec_X11_positiveOf hrec_X11_positiveOf hB  n) S v1 v2 r S' hm
set_option maxHeartbeats 4000000 in
set_option maxRecDepth 20000 in
theorem bpX11_plainOf_130_0 (x : XT) {dd : Nat} (rec_X11_testOf : ST → Int32 → Option (Int32 × ST)) (hrec_X11_testOf : ∀ (S : ST) (z0 : Int32) (r : Int32) (S' : ST), rec_X11_testOf S z0 = some (r, S') → Ct mX11_testOf dd 0 0 [.ref 130, .int z0] (mkS x S) (fun v h => v = some (.int r) ∧ h = mkS x S')) (rec_X11_bothOf : ST → Int32 → Option (Int32 × ST)) (hrec_X11_bothOf : ∀ (S : ST) (z0 : Int32) (r : Int32) (S' : ST), rec_X11_bothOf S z0 = some (r, S') → Ct mX11_bothOf dd 0 0 [.ref 130, .int z0] (mkS x S) (fun v h => v = some (.int r) ∧ h = mkS x S')) (rec_X11_plainOf : ST → Int32 → Option (Int32 × ST)) (hrec_X11_plainOf : ∀ (S : ST) (z0 : Int32) (r : Int32) (S' : ST), rec_X11_plainOf S z0 = some (r, S') → Ct mX11_plainOf dd 0 0 [.ref 130, .int z0] (mkS x S) (fun v h => v = some (.int r) ∧ h = mkS x S')) (rec_X11_positiveOf : ST → Int32 → Option (Int32 × ST)) (hrec_X11_positiveOf : ∀ (S : ST) (z0 : Int32) (r : Int32) (S' : ST), rec_X11_positiveOf S z0 = some (r, S') → Ct mX11_positiveOf dd 0 0 [.ref 130, .int z0] (mkS x S) (fun v h => v = some (.int r) ∧ h = mkS x S')) (hB : 63 ≤ dd)  (S : ST) (p1 : Int32) (r : Int32) (S' : ST) (hm : bfX11_plainOf_130_0 x rec_X11_testOf rec_X11_bothOf rec_X11_plainOf rec_X11_positiveOf  S p1 = some (r, S')) : Ev mX11_plainOf (dd + 1) 0 0 0 [some (.ref 130), some (.int p1), none] [] (mkS x S) (fun v h => v = some (.int r) ∧ h = mkS x S') := by
    unfold bfX11_plainOf_130_0 at hm
    refine Ev.steps tokX11_plainOf 2 (P := True) (pc' := 2) (lv' := [some (.ref 130), some (.int p1), some (.int 0)]) (st' := []) (h' := mkS x S) rfl trivial ?_
    exact lpX11_plainOf_130_2 x (dd := dd) rec_X11_testOf hrec_X11_testOf rec_X11_bothOf hrec_X11_bothOf rec_X11_plainOf hrec_X11_plainOf rec_X11_positiveOf hrec_X11_positiveOf hB  20000 S p1 0 _ _ hm
theorem grpX11_plainOf_130 (x : XT) {dd : Nat} (rec_X11_testOf : ST → Int32 → Option (Int32 × ST)) (hrec_X11_testOf : ∀ (S : ST) (z0 : Int32) (r : Int32) (S' : ST), rec_X11_testOf S z0 = some (r, S') → Ct mX11_testOf dd 0 0 [.ref 130, .int z0] (mkS x S) (fun v h => v = some (.int r) ∧ h = mkS x S')) (rec_X11_bothOf : ST → Int32 → Option (Int32 × ST)) (hrec_X11_bothOf : ∀ (S : ST) (z0 : Int32) (r : Int32) (S' : ST), rec_X11_bothOf S z0 = some (r, S') → Ct mX11_bothOf dd 0 0 [.ref 130, .int z0] (mkS x S) (fun v h => v = some (.int r) ∧ h = mkS x S')) (rec_X11_plainOf : ST → Int32 → Option (Int32 × ST)) (hrec_X11_plainOf : ∀ (S : ST) (z0 : Int32) (r : Int32) (S' : ST), rec_X11_plainOf S z0 = some (r, S') → Ct mX11_plainOf dd 0 0 [.ref 130, .int z0] (mkS x S) (fun v h => v = some (.int r) ∧ h = mkS x S')) (rec_X11_positiveOf : ST → Int32 → Option (Int32 × ST)) (hrec_X11_positiveOf : ∀ (S : ST) (z0 : Int32) (r : Int32) (S' : ST), rec_X11_positiveOf S z0 = some (r, S') → Ct mX11_positiveOf dd 0 0 [.ref 130, .int z0] (mkS x S) (fun v h => v = some (.int r) ∧ h = mkS x S')) (hB : 63 ≤ dd) (S : ST) (p1 : Int32) (r : Int32) (S' : ST) (hm : grfX11_plainOf_130 x rec_X11_testOf rec_X11_bothOf rec_X11_plainOf rec_X11_positiveOf S p1 = some (r, S')) : Ct mX11_plainOf (dd + 1) 0 0 [.ref 130, .int p1] (mkS x S) (fun v h => v = some (.int r) ∧ h = mkS x S') :=
  Ct.of (lv := [some (.ref 130), some (.int p1), none]) rfl rfl rfl (show (_ : Nat) ≤ _ from Nat.le_of_ble_eq_true rfl) (fun G => rfl) (bpX11_plainOf_130_0 x (dd := dd) rec_X11_testOf hrec_X11_testOf rec_X11_bothOf hrec_X11_bothOf rec_X11_plainOf hrec_X11_plainOf rec_X11_positiveOf hrec_X11_positiveOf hB S p1 r S' hm)
set_option maxHeartbeats 4000000 in
set_option maxRecDepth 20000 in
theorem bpX11_positiveOf_130_126 (x : XT) {dd : Nat} (rec_X11_testOf : ST → Int32 → Option (Int32 × ST)) (hrec_X11_testOf : ∀ (S : ST) (z0 : Int32) (r : Int32) (S' : ST), rec_X11_testOf S z0 = some (r, S') → Ct mX11_testOf dd 0 0 [.ref 130, .int z0] (mkS x S) (fun v h => v = some (.int r) ∧ h = mkS x S')) (rec_X11_bothOf : ST → Int32 → Option (Int32 × ST)) (hrec_X11_bothOf : ∀ (S : ST) (z0 : Int32) (r : Int32) (S' : ST), rec_X11_bothOf S z0 = some (r, S') → Ct mX11_bothOf dd 0 0 [.ref 130, .int z0] (mkS x S) (fun v h => v = some (.int r) ∧ h = mkS x S')) (rec_X11_plainOf : ST → Int32 → Option (Int32 × ST)) (hrec_X11_plainOf : ∀ (S : ST) (z0 : Int32) (r : Int32) (S' : ST), rec_X11_plainOf S z0 = some (r, S') → Ct mX11_plainOf dd 0 0 [.ref 130, .int z0] (mkS x S) (fun v h => v = some (.int r) ∧ h = mkS x S')) (rec_X11_positiveOf : ST → Int32 → Option (Int32 × ST)) (hrec_X11_positiveOf : ∀ (S : ST) (z0 : Int32) (r : Int32) (S' : ST), rec_X11_positiveOf S z0 = some (r, S') → Ct mX11_positiveOf dd 0 0 [.ref 130, .int z0] (mkS x S) (fun v h => v = some (.int r) ∧ h = mkS x S')) (hB : 63 ≤ dd)  (S : ST) (t0 : Int32) (r : Int32) (S' : ST) (hm : bfX11_positiveOf_130_126 x rec_X11_testOf rec_X11_bothOf rec_X11_plainOf rec_X11_positiveOf  S t0 = some (r, S')) : Ev mX11_positiveOf (dd + 1) 0 0 126 [none, none, none, none, none, none, none] [.int t0] (mkS x S) (fun v h => v = some (.int r) ∧ h = mkS x S') := by
    unfold bfX11_positiveOf_130_126 at hm
    obtain ⟨o1, hm⟩ := oblk hm
    cases hm
    exact Ev.retz tokX11_positiveOf rfl rfl (bbz_ok o1) ⟨rfl, rfl⟩
set_option maxHeartbeats 4000000 in
set_option maxRecDepth 20000 in
theorem bpX11_positiveOf_130_125 (x : XT) {dd : Nat} (rec_X11_testOf : ST → Int32 → Option (Int32 × ST)) (hrec_X11_testOf : ∀ (S : ST) (z0 : Int32) (r : Int32) (S' : ST), rec_X11_testOf S z0 = some (r, S') → Ct mX11_testOf dd 0 0 [.ref 130, .int z0] (mkS x S) (fun v h => v = some (.int r) ∧ h = mkS x S')) (rec_X11_bothOf : ST → Int32 → Option (Int32 × ST)) (hrec_X11_bothOf : ∀ (S : ST) (z0 : Int32) (r : Int32) (S' : ST), rec_X11_bothOf S z0 = some (r, S') → Ct mX11_bothOf dd 0 0 [.ref 130, .int z0] (mkS x S) (fun v h => v = some (.int r) ∧ h = mkS x S')) (rec_X11_plainOf : ST → Int32 → Option (Int32 × ST)) (hrec_X11_plainOf : ∀ (S : ST) (z0 : Int32) (r : Int32) (S' : ST), rec_X11_plainOf S z0 = some (r, S') → Ct mX11_plainOf dd 0 0 [.ref 130, .int z0] (mkS x S) (fun v h => v = some (.int r) ∧ h = mkS x S')) (rec_X11_positiveOf : ST → Int32 → Option (Int32 × ST)) (hrec_X11_positiveOf : ∀ (S : ST) (z0 : Int32) (r : Int32) (S' : ST), rec_X11_positiveOf S z0 = some (r, S') → Ct mX11_positiveOf dd 0 0 [.ref 130, .int z0] (mkS x S) (fun v h => v = some (.int r) ∧ h = mkS x S')) (hB : 63 ≤ dd)  (S : ST)  (r : Int32) (S' : ST) (hm : bfX11_positiveOf_130_125 x rec_X11_testOf rec_X11_bothOf rec_X11_plainOf rec_X11_positiveOf  S  = some (r, S')) : Ev mX11_positiveOf (dd + 1) 0 0 125 [none, none, none, none, none, none, none] [] (mkS x S) (fun v h => v = some (.int r) ∧ h = mkS x S') := by
    unfold bfX11_positiveOf_130_125 at hm
    refine Ev.steps tokX11_positiveOf 1 (P := True) (pc' := 126) (lv' := [none, none, none, none, none, none, none]) (st' := [.int 0]) (h' := mkS x S) rfl trivial ?_
    exact bpX11_positiveOf_130_126 x (dd := dd) rec_X11_testOf hrec_X11_testOf rec_X11_bothOf hrec_X11_bothOf rec_X11_plainOf hrec_X11_plainOf rec_X11_positiveOf hrec_X11_positiveOf hB S 0 _ _ hm
set_option maxHeartbeats 4000000 in
set_option maxRecDepth 20000 in
theorem bpX11_positiveOf_130_121 (x : XT) {dd : Nat} (rec_X11_testOf : ST → Int32 → Option (Int32 × ST)) (hrec_X11_testOf : ∀ (S : ST) (z0 : Int32) (r : Int32) (S' : ST), rec_X11_testOf S z0 = some (r, S') → Ct mX11_testOf dd 0 0 [.ref 130, .int z0] (mkS x S) (fun v h => v = some (.int r) ∧ h = mkS x S')) (rec_X11_bothOf : ST → Int32 → Option (Int32 × ST)) (hrec_X11_bothOf : ∀ (S : ST) (z0 : Int32) (r : Int32) (S' : ST), rec_X11_bothOf S z0 = some (r, S') → Ct mX11_bothOf dd 0 0 [.ref 130, .int z0] (mkS x S) (fun v h => v = some (.int r) ∧ h = mkS x S')) (rec_X11_plainOf : ST → Int32 → Option (Int32 × ST)) (hrec_X11_plainOf : ∀ (S : ST) (z0 : Int32) (r : Int32) (S' : ST), rec_X11_plainOf S z0 = some (r, S') → Ct mX11_plainOf dd 0 0 [.ref 130, .int z0] (mkS x S) (fun v h => v = some (.int r) ∧ h = mkS x S')) (rec_X11_positiveOf : ST → Int32 → Option (Int32 × ST)) (hrec_X11_positiveOf : ∀ (S : ST) (z0 : Int32) (r : Int32) (S' : ST), rec_X11_positiveOf S z0 = some (r, S') → Ct mX11_positiveOf dd 0 0 [.ref 130, .int z0] (mkS x S) (fun v h => v = some (.int r) ∧ h = mkS x S')) (hB : 63 ≤ dd)  (S : ST)  (r : Int32) (S' : ST) (hm : bfX11_positiveOf_130_121 x rec_X11_testOf rec_X11_bothOf rec_X11_plainOf rec_X11_positiveOf  S  = some (r, S')) : Ev mX11_positiveOf (dd + 1) 0 0 121 [none, none, none, none, none, none, none] [] (mkS x S) (fun v h => v = some (.int r) ∧ h = mkS x S') := by
    unfold bfX11_positiveOf_130_121 at hm
    refine Ev.steps tokX11_positiveOf 2 (P := True) (pc' := 126) (lv' := [none, none, none, none, none, none, none]) (st' := [.int 1]) (h' := mkS x S) rfl trivial ?_
    exact bpX11_positiveOf_130_126 x (dd := dd) rec_X11_testOf hrec_X11_testOf rec_X11_bothOf hrec_X11_bothOf rec_X11_plainOf hrec_X11_plainOf rec_X11_positiveOf hrec_X11_positiveOf hB S 1 _ _ hm
set_option maxHeartbeats 4000000 in
set_option maxRecDepth 20000 in
theorem bpX11_positiveOf_130_0 (x : XT) {dd : Nat} (rec_X11_testOf : ST → Int32 → Option (Int32 × ST)) (hrec_X11_testOf : ∀ (S : ST) (z0 : Int32) (r : Int32) (S' : ST), rec_X11_testOf S z0 = some (r, S') → Ct mX11_testOf dd 0 0 [.ref 130, .int z0] (mkS x S) (fun v h => v = some (.int r) ∧ h = mkS x S')) (rec_X11_bothOf : ST → Int32 → Option (Int32 × ST)) (hrec_X11_bothOf : ∀ (S : ST) (z0 : Int32) (r : Int32) (S' : ST), rec_X11_bothOf S z0 = some (r, S') → Ct mX11_bothOf dd 0 0 [.ref 130, .int z0] (mkS x S) (fun v h => v = some (.int r) ∧ h = mkS x S')) (rec_X11_plainOf : ST → Int32 → Option (Int32 × ST)) (hrec_X11_plainOf : ∀ (S : ST) (z0 : Int32) (r : Int32) (S' : ST), rec_X11_plainOf S z0 = some (r, S') → Ct mX11_plainOf dd 0 0 [.ref 130, .int z0] (mkS x S) (fun v h => v = some (.int r) ∧ h = mkS x S')) (rec_X11_positiveOf : ST → Int32 → Option (Int32 × ST)) (hrec_X11_positiveOf : ∀ (S : ST) (z0 : Int32) (r : Int32) (S' : ST), rec_X11_positiveOf S z0 = some (r, S') → Ct mX11_positiveOf dd 0 0 [.ref 130, .int z0] (mkS x S) (fun v h => v = some (.int r) ∧ h = mkS x S')) (hB : 63 ≤ dd)  (S : ST) (p1 : Int32) (r : Int32) (S' : ST) (hm : bfX11_positiveOf_130_0 x rec_X11_testOf rec_X11_bothOf rec_X11_plainOf rec_X11_positiveOf  S p1 = some (r, S')) : Ev mX11_positiveOf (dd + 1) 0 0 0 [some (.ref 130), some (.int p1), none, none, none, none, none] [] (mkS x S) (fun v h => v = some (.int r) ∧ h = mkS x S') := by
    unfold bfX11_positiveOf_130_0 at hm
    refine Ev.steps tokX11_positiveOf 2 (P := True) (pc' := 3) (lv' := [some (.ref 130), some (.int p1), none, none, none, none, none]) (st' := [.int 40, .ref 130]) (h' := mkS x S) rfl trivial ?_
    cases h1 : gfX11_sign x S 40 with
    | none => rw [h1] at hm; cases hm
    | some q2 =>
      obtain ⟨r3, S4⟩ := q2
      rw [h1] at hm
      dsimp only at hm
      refine ev_callS (N := mX11_sign) (d' := 1) (bc := 0) (bs := 0) (bc' := 0) (bs' := 0) (as := [.int 40]) (rest := [.ref 130]) (dcd tokX11_positiveOf rfl) okX11_sign inX11_sign lk11_250 rfl (by omega) (Nat.le_of_ble_eq_true rfl) (gpX11_sign x S 40 _ _ h1) (fun v h' hq hn => ?_)
      obtain ⟨rfl, rfl⟩ := hq
      cases h5 : gfX11_passes0_130 x S4 r3 with
      | none => rw [h5] at hm; cases hm
      | some q6 =>
        obtain ⟨r7, S8⟩ := q6
        rw [h5] at hm
        dsimp only at hm
        refine ev_callV (N := mX11_passes0) (d' := 2) (bc := 0) (bs := 0) (bc' := 0) (bs' := 0) (as := [.int r3]) (rest := []) (a := 130) (ci := 11) (dcd tokX11_positiveOf rfl) okX11_passes0 inX11_passes0 seX11_passes0 lk11_315 rfl (by omega) (Nat.le_of_ble_eq_true rfl) rfl ⟨by decide, rfl⟩ (gpX11_passes0_130 x S4 r3 _ _ h5) (fun v h' hq hn => ?_)
        obtain ⟨rfl, rfl⟩ := hq
        refine Ev.steps tokX11_positiveOf 1 (P := True) (pc' := if r7 = 0 then 30 else 12) (lv' := [some (.ref 130), some (.int p1), none, none, none, none, none]) (st' := []) (h' := mkS x S8) rfl trivial ?_
        refine Ev.ite (fun c9 => ?_) (fun c9 => ?_)
        · rw [if_pos c9] at hm
          refine Ev.steps tokX11_positiveOf 2 (P := True) (pc' := 32) (lv' := [some (.ref 130), some (.int p1), none, none, none, none, none]) (st' := [.int p1, .ref 130]) (h' := mkS x S8) rfl trivial ?_
          cases h10 : gfX11_sumOf_130 x S8 p1 with
          | none => rw [h10] at hm; cases hm
          | some q11 =>
            obtain ⟨r12, S13⟩ := q11
            rw [h10] at hm
            dsimp only at hm
            refine ev_callV (N := mX11_sumOf) (d' := 63) (bc := 0) (bs := 0) (bc' := 0) (bs' := 0) (as := [.int p1]) (rest := []) (a := 130) (ci := 11) (dcd tokX11_positiveOf rfl) okX11_sumOf inX11_sumOf seX11_sumOf lk11_318 rfl (by omega) (Nat.le_of_ble_eq_true rfl) rfl ⟨by decide, rfl⟩ (gpX11_sumOf_130 x S8 p1 _ _ h10) (fun v h' hq hn => ?_)
            obtain ⟨rfl, rfl⟩ := hq
            refine Ev.steps tokX11_positiveOf 4 (P := True) (pc' := 41) (lv' := [some (.ref 130), some (.int p1), some (.long r12), none, none, none, none]) (st' := [.int (S13.1 130 22), .ref 130]) (h' := mkS x S13) rfl trivial ?_
            cases h14 : gfX11_codeAt_130 x S13 (S13.1 130 22) with
            | none => rw [h14] at hm; cases hm
            | some q15 =>
              obtain ⟨r16, S17⟩ := q15
              rw [h14] at hm
              dsimp only at hm
              refine ev_callV (N := mX11_codeAt) (d' := 1) (bc := 0) (bs := 0) (bc' := 0) (bs' := 0) (as := [.int (S13.1 130 22)]) (rest := []) (a := 130) (ci := 11) (dcd tokX11_positiveOf rfl) okX11_codeAt inX11_codeAt seX11_codeAt lk11_294 rfl (by omega) (Nat.le_of_ble_eq_true rfl) rfl ⟨by decide, rfl⟩ (gpX11_codeAt_130 x S13 (S13.1 130 22) _ _ h14) (fun v h' hq hn => ?_)
              obtain ⟨rfl, rfl⟩ := hq
              refine Ev.steps tokX11_positiveOf 9 (P := True) (pc' := 58) (lv' := [some (.ref 130), some (.int p1), some (.long r12), none, some (.int r16), none, none]) (st' := [.int p1, .ref 130]) (h' := mkS x ((u2 S17.1 130 22 ((S17.1 130 22) + 1)), S17.2.1, S17.2.2.1, S17.2.2.2)) rfl trivial ?_
              cases h18 : gfX11_sumOf_130 x ((u2 S17.1 130 22 ((S17.1 130 22) + 1)), S17.2.1, S17.2.2.1, S17.2.2.2) p1 with
              | none => rw [h18] at hm; cases hm
              | some q19 =>
                obtain ⟨r20, S21⟩ := q19
                rw [h18] at hm
                dsimp only at hm
                refine ev_callV (N := mX11_sumOf) (d' := 63) (bc := 0) (bs := 0) (bc' := 0) (bs' := 0) (as := [.int p1]) (rest := []) (a := 130) (ci := 11) (dcd tokX11_positiveOf rfl) okX11_sumOf inX11_sumOf seX11_sumOf lk11_318 rfl (by omega) (Nat.le_of_ble_eq_true rfl) rfl ⟨by decide, rfl⟩ (gpX11_sumOf_130 x ((u2 S17.1 130 22 ((S17.1 130 22) + 1)), S17.2.1, S17.2.2.1, S17.2.2.2) p1 _ _ h18) (fun v h' hq hn => ?_)
                obtain ⟨rfl, rfl⟩ := hq
                refine Ev.steps tokX11_positiveOf 3 (P := True) (pc' := if p1 = 0 then 125 else 67) (lv' := [some (.ref 130), some (.int p1), some (.long r12), none, some (.int r16), some (.long r20), none]) (st' := []) (h' := mkS x S21) rfl trivial ?_
                refine Ev.ite (fun c22 => ?_) (fun c22 => ?_)
                · rw [if_pos c22] at hm
                  refine Ev.fgt (lv' := [none, none, none, none, none, none, none]) trivial ?_
                  exact bpX11_positiveOf_130_125 x (dd := dd) rec_X11_testOf hrec_X11_testOf rec_X11_bothOf hrec_X11_bothOf rec_X11_plainOf hrec_X11_plainOf rec_X11_positiveOf hrec_X11_positiveOf hB S21 _ _ hm
                · rw [if_neg c22] at hm
                  refine Ev.steps tokX11_positiveOf 3 (P := True) (pc' := if ¬ (S21.1 130 24) = 0 then 125 else 74) (lv' := [some (.ref 130), some (.int p1), some (.long r12), none, some (.int r16), some (.long r20), none]) (st' := []) (h' := mkS x S21) rfl trivial ?_
                  refine Ev.ite (fun c23 => ?_) (fun c23 => ?_)
                  · rw [if_pos c23] at hm
                    refine Ev.fgt (lv' := [none, none, none, none, none, none, none]) trivial ?_
                    exact bpX11_positiveOf_130_125 x (dd := dd) rec_X11_testOf hrec_X11_testOf rec_X11_bothOf hrec_X11_bothOf rec_X11_plainOf hrec_X11_plainOf rec_X11_positiveOf hrec_X11_positiveOf hB S21 _ _ hm
                  · rw [if_neg c23] at hm
                    refine Ev.steps tokX11_positiveOf 2 (P := True) (pc' := 78) (lv' := [some (.ref 130), some (.int p1), some (.long r12), none, some (.int r16), some (.long r20), none]) (st' := [.int 60, .int r16]) (h' := mkS x S21) rfl trivial ?_
                    cases h24 : gfX11_sign x S21 60 with
                    | none => rw [h24] at hm; cases hm
                    | some q25 =>
                      obtain ⟨r26, S27⟩ := q25
                      rw [h24] at hm
                      dsimp only at hm
                      refine ev_callS (N := mX11_sign) (d' := 1) (bc := 0) (bs := 0) (bc' := 0) (bs' := 0) (as := [.int 60]) (rest := [.int r16]) (dcd tokX11_positiveOf rfl) okX11_sign inX11_sign lk11_250 rfl (by omega) (Nat.le_of_ble_eq_true rfl) (gpX11_sign x S21 60 _ _ h24) (fun v h' hq hn => ?_)
                      obtain ⟨rfl, rfl⟩ := hq
                      refine Ev.steps tokX11_positiveOf 1 (P := True) (pc' := if ¬ r16 = r26 then 94 else 84) (lv' := [some (.ref 130), some (.int p1), some (.long r12), none, some (.int r16), some (.long r20), none]) (st' := []) (h' := mkS x S27) rfl trivial ?_
                      refine Ev.ite (fun c28 => ?_) (fun c28 => ?_)
                      · rw [if_pos c28] at hm
                        refine Ev.steps tokX11_positiveOf 2 (P := True) (pc' := 98) (lv' := [some (.ref 130), some (.int p1), some (.long r12), none, some (.int r16), some (.long r20), none]) (st' := [.int 62, .int r16]) (h' := mkS x S27) rfl trivial ?_
                        cases h29 : gfX11_sign x S27 62 with
                        | none => rw [h29] at hm; cases hm
                        | some q30 =>
                          obtain ⟨r31, S32⟩ := q30
                          rw [h29] at hm
                          dsimp only at hm
                          refine ev_callS (N := mX11_sign) (d' := 1) (bc := 0) (bs := 0) (bc' := 0) (bs' := 0) (as := [.int 62]) (rest := [.int r16]) (dcd tokX11_positiveOf rfl) okX11_sign inX11_sign lk11_250 rfl (by omega) (Nat.le_of_ble_eq_true rfl) (gpX11_sign x S27 62 _ _ h29) (fun v h' hq hn => ?_)
                          obtain ⟨rfl, rfl⟩ := hq
                          refine Ev.steps tokX11_positiveOf 1 (P := True) (pc' := if ¬ r16 = r31 then 114 else 104) (lv' := [some (.ref 130), some (.int p1), some (.long r12), none, some (.int r16), some (.long r20), none]) (st' := []) (h' := mkS x S32) rfl trivial ?_
                          refine Ev.ite (fun c33 => ?_) (fun c33 => ?_)
                          · rw [if_pos c33] at hm
                            refine Ev.steps tokX11_positiveOf 4 (P := True) (pc' := if ¬ (lg_cmp r12 r20) = 0 then 125 else 121) (lv' := [some (.ref 130), some (.int p1), some (.long r12), none, some (.int r16), some (.long r20), none]) (st' := []) (h' := mkS x S32) rfl trivial ?_
                            refine Ev.ite (fun c34 => ?_) (fun c34 => ?_)
                            · rw [if_pos c34] at hm
                              refine Ev.fgt (lv' := [none, none, none, none, none, none, none]) trivial ?_
                              exact bpX11_positiveOf_130_125 x (dd := dd) rec_X11_testOf hrec_X11_testOf rec_X11_bothOf hrec_X11_bothOf rec_X11_plainOf hrec_X11_plainOf rec_X11_positiveOf hrec_X11_positiveOf hB S32 _ _ hm
                            · rw [if_neg c34] at hm
                              refine Ev.fgt (lv' := [none, none, none, none, none, none, none]) trivial ?_
                              exact bpX11_positiveOf_130_121 x (dd := dd) rec_X11_testOf hrec_X11_testOf rec_X11_bothOf hrec_X11_bothOf rec_X11_plainOf hrec_X11_plainOf rec_X11_positiveOf hrec_X11_positiveOf hB S32 _ _ hm
                          · rw [if_neg c33] at hm
                            refine Ev.steps tokX11_positiveOf 4 (P := True) (pc' := if (lg_cmp r12 r20) ≤ 0 then 125 else 111) (lv' := [some (.ref 130), some (.int p1), some (.long r12), none, some (.int r16), some (.long r20), none]) (st' := []) (h' := mkS x S32) rfl trivial ?_
                            refine Ev.ite (fun c35 => ?_) (fun c35 => ?_)
                            · rw [if_pos c35] at hm
                              refine Ev.fgt (lv' := [none, none, none, none, none, none, none]) trivial ?_
                              exact bpX11_positiveOf_130_125 x (dd := dd) rec_X11_testOf hrec_X11_testOf rec_X11_bothOf hrec_X11_bothOf rec_X11_plainOf hrec_X11_plainOf rec_X11_positiveOf hrec_X11_positiveOf hB S32 _ _ hm
                            · rw [if_neg c35] at hm
                              refine Ev.steps tokX11_positiveOf 1 (P := True) (pc' := 121) (lv' := [some (.ref 130), some (.int p1), some (.long r12), none, some (.int r16), some (.long r20), none]) (st' := []) (h' := mkS x S32) rfl trivial ?_
                              refine Ev.fgt (lv' := [none, none, none, none, none, none, none]) trivial ?_
                              exact bpX11_positiveOf_130_121 x (dd := dd) rec_X11_testOf hrec_X11_testOf rec_X11_bothOf hrec_X11_bothOf rec_X11_plainOf hrec_X11_plainOf rec_X11_positiveOf hrec_X11_positiveOf hB S32 _ _ hm
                      · rw [if_neg c28] at hm
                        refine Ev.steps tokX11_positiveOf 4 (P := True) (pc' := if 0 ≤ (lg_cmp r12 r20) then 125 else 91) (lv' := [some (.ref 130), some (.int p1), some (.long r12), none, some (.int r16), some (.long r20), none]) (st' := []) (h' := mkS x S27) rfl trivial ?_
                        refine Ev.ite (fun c36 => ?_) (fun c36 => ?_)
                        · rw [if_pos c36] at hm
                          refine Ev.fgt (lv' := [none, none, none, none, none, none, none]) trivial ?_
                          exact bpX11_positiveOf_130_125 x (dd := dd) rec_X11_testOf hrec_X11_testOf rec_X11_bothOf hrec_X11_bothOf rec_X11_plainOf hrec_X11_plainOf rec_X11_positiveOf hrec_X11_positiveOf hB S27 _ _ hm
                        · rw [if_neg c36] at hm
                          refine Ev.steps tokX11_positiveOf 1 (P := True) (pc' := 121) (lv' := [some (.ref 130), some (.int p1), some (.long r12), none, some (.int r16), some (.long r20), none]) (st' := []) (h' := mkS x S27) rfl trivial ?_
                          refine Ev.fgt (lv' := [none, none, none, none, none, none, none]) trivial ?_
                          exact bpX11_positiveOf_130_121 x (dd := dd) rec_X11_testOf hrec_X11_testOf rec_X11_bothOf hrec_X11_bothOf rec_X11_plainOf hrec_X11_plainOf rec_X11_positiveOf hrec_X11_positiveOf hB S27 _ _ hm
        · rw [if_neg c9] at hm
          refine Ev.steps tokX11_positiveOf 2 (P := True) (pc' := 14) (lv' := [some (.ref 130), some (.int p1), none, none, none, none, none]) (st' := [.int p1, .ref 130]) (h' := mkS x S8) rfl trivial ?_
          cases h37 : rec_X11_testOf S8 p1 with
          | none => rw [h37] at hm; cases hm
          | some q38 =>
            obtain ⟨r39, S40⟩ := q38
            rw [h37] at hm
            dsimp only at hm
            refine ev_callV (N := mX11_testOf) (d' := dd) (bc := 0) (bs := 0) (bc' := 0) (bs' := 0) (as := [.int p1]) (rest := []) (a := 130) (ci := 11) (dcd tokX11_positiveOf rfl) okX11_testOf inX11_testOf seX11_testOf lk11_345 rfl (by omega) (Nat.le_of_ble_eq_true rfl) rfl ⟨by decide, rfl⟩ (hrec_X11_testOf S8 p1 _ _ h37) (fun v h' hq hn => ?_)
            obtain ⟨rfl, rfl⟩ := hq
            refine Ev.steps tokX11_positiveOf 8 (P := True) (pc' := 29) (lv' := [some (.ref 130), some (.int p1), some (.int r39), none, none, none, none]) (st' := [.int r39]) (h' := mkS x ((u2 S40.1 130 22 ((S40.1 130 22) + 1)), S40.2.1, S40.2.2.1, S40.2.2.2)) rfl trivial ?_
            obtain ⟨o41, hm⟩ := oblk hm
            cases hm
            exact Ev.retz tokX11_positiveOf rfl rfl (bbz_ok o41) ⟨rfl, rfl⟩
theorem grpX11_positiveOf_130 (x : XT) {dd : Nat} (rec_X11_testOf : ST → Int32 → Option (Int32 × ST)) (hrec_X11_testOf : ∀ (S : ST) (z0 : Int32) (r : Int32) (S' : ST), rec_X11_testOf S z0 = some (r, S') → Ct mX11_testOf dd 0 0 [.ref 130, .int z0] (mkS x S) (fun v h => v = some (.int r) ∧ h = mkS x S')) (rec_X11_bothOf : ST → Int32 → Option (Int32 × ST)) (hrec_X11_bothOf : ∀ (S : ST) (z0 : Int32) (r : Int32) (S' : ST), rec_X11_bothOf S z0 = some (r, S') → Ct mX11_bothOf dd 0 0 [.ref 130, .int z0] (mkS x S) (fun v h => v = some (.int r) ∧ h = mkS x S')) (rec_X11_plainOf : ST → Int32 → Option (Int32 × ST)) (hrec_X11_plainOf : ∀ (S : ST) (z0 : Int32) (r : Int32) (S' : ST), rec_X11_plainOf S z0 = some (r, S') → Ct mX11_plainOf dd 0 0 [.ref 130, .int z0] (mkS x S) (fun v h => v = some (.int r) ∧ h = mkS x S')) (rec_X11_positiveOf : ST → Int32 → Option (Int32 × ST)) (hrec_X11_positiveOf : ∀ (S : ST) (z0 : Int32) (r : Int32) (S' : ST), rec_X11_positiveOf S z0 = some (r, S') → Ct mX11_positiveOf dd 0 0 [.ref 130, .int z0] (mkS x S) (fun v h => v = some (.int r) ∧ h = mkS x S')) (hB : 63 ≤ dd) (S : ST) (p1 : Int32) (r : Int32) (S' : ST) (hm : grfX11_positiveOf_130 x rec_X11_testOf rec_X11_bothOf rec_X11_plainOf rec_X11_positiveOf S p1 = some (r, S')) : Ct mX11_positiveOf (dd + 1) 0 0 [.ref 130, .int p1] (mkS x S) (fun v h => v = some (.int r) ∧ h = mkS x S') :=
  Ct.of (lv := [some (.ref 130), some (.int p1), none, none, none, none, none]) rfl rfl rfl (show (_ : Nat) ≤ _ from Nat.le_of_ble_eq_true rfl) (fun G => rfl) (bpX11_positiveOf_130_0 x (dd := dd) rec_X11_testOf hrec_X11_testOf rec_X11_bothOf hrec_X11_bothOf rec_X11_plainOf hrec_X11_plainOf rec_X11_positiveOf hrec_X11_positiveOf hB S p1 r S' hm)
theorem gqpX11_testOf_130 (x : XT) (n : Nat) : (∀ (S : ST) (a b : Int32) (r : Int32) (S' : ST), gqX11_testOf_130 x n 0 S a b = some (r, S') → Ct mX11_testOf (63 + n) 0 0 [.ref 130, .int a] (mkS x S) (fun v h => v = some (.int r) ∧ h = mkS x S')) ∧ (∀ (S : ST) (a b : Int32) (r : Int32) (S' : ST), gqX11_testOf_130 x n 1 S a b = some (r, S') → Ct mX11_bothOf (63 + n) 0 0 [.ref 130, .int a] (mkS x S) (fun v h => v = some (.int r) ∧ h = mkS x S')) ∧ (∀ (S : ST) (a b : Int32) (r : Int32) (S' : ST), gqX11_testOf_130 x n 2 S a b = some (r, S') → Ct mX11_plainOf (63 + n) 0 0 [.ref 130, .int a] (mkS x S) (fun v h => v = some (.int r) ∧ h = mkS x S')) ∧ (∀ (S : ST) (a b : Int32) (r : Int32) (S' : ST), gqX11_testOf_130 x n 3 S a b = some (r, S') → Ct mX11_positiveOf (63 + n) 0 0 [.ref 130, .int a] (mkS x S) (fun v h => v = some (.int r) ∧ h = mkS x S')) := by
  induction n with
  | zero => exact ⟨(fun _ _ _ _ _ hm => (by cases hm)), (fun _ _ _ _ _ hm => (by cases hm)), (fun _ _ _ _ _ hm => (by cases hm)), (fun _ _ _ _ _ hm => (by cases hm))⟩
  | succ n ih =>
    refine ⟨?_, ?_, ?_, ?_⟩
    · intro S a b r S' hm
      rw [gqX11_testOf_130] at hm
      rw [show Nat.beq 0 0 = true from rfl, cond_true] at hm
      exact grpX11_testOf_130 x (dd := 63 + n) (fun S z0 => gqX11_testOf_130 x n 0 S z0 0) (fun S z0 r S' h => ih.1 S z0 0 r S' h) (fun S z0 => gqX11_testOf_130 x n 1 S z0 0) (fun S z0 r S' h => ih.2.1 S z0 0 r S' h) (fun S z0 => gqX11_testOf_130 x n 2 S z0 0) (fun S z0 r S' h => ih.2.2.1 S z0 0 r S' h) (fun S z0 => gqX11_testOf_130 x n 3 S z0 0) (fun S z0 r S' h => ih.2.2.2 S z0 0 r S' h) (by omega) S a r S' hm
    · intro S a b r S' hm
      rw [gqX11_testOf_130] at hm
      rw [show Nat.beq 1 0 = false from rfl, cond_false, show Nat.beq 1 1 = true from rfl, cond_true] at hm
      exact grpX11_bothOf_130 x (dd := 63 + n) (fun S z0 => gqX11_testOf_130 x n 0 S z0 0) (fun S z0 r S' h => ih.1 S z0 0 r S' h) (fun S z0 => gqX11_testOf_130 x n 1 S z0 0) (fun S z0 r S' h => ih.2.1 S z0 0 r S' h) (fun S z0 => gqX11_testOf_130 x n 2 S z0 0) (fun S z0 r S' h => ih.2.2.1 S z0 0 r S' h) (fun S z0 => gqX11_testOf_130 x n 3 S z0 0) (fun S z0 r S' h => ih.2.2.2 S z0 0 r S' h) (by omega) S a r S' hm
    · intro S a b r S' hm
      rw [gqX11_testOf_130] at hm
      rw [show Nat.beq 2 0 = false from rfl, cond_false, show Nat.beq 2 1 = false from rfl, cond_false, show Nat.beq 2 2 = true from rfl, cond_true] at hm
      exact grpX11_plainOf_130 x (dd := 63 + n) (fun S z0 => gqX11_testOf_130 x n 0 S z0 0) (fun S z0 r S' h => ih.1 S z0 0 r S' h) (fun S z0 => gqX11_testOf_130 x n 1 S z0 0) (fun S z0 r S' h => ih.2.1 S z0 0 r S' h) (fun S z0 => gqX11_testOf_130 x n 2 S z0 0) (fun S z0 r S' h => ih.2.2.1 S z0 0 r S' h) (fun S z0 => gqX11_testOf_130 x n 3 S z0 0) (fun S z0 r S' h => ih.2.2.2 S z0 0 r S' h) (by omega) S a r S' hm
    · intro S a b r S' hm
      rw [gqX11_testOf_130] at hm
      rw [show Nat.beq 3 0 = false from rfl, cond_false, show Nat.beq 3 1 = false from rfl, cond_false, show Nat.beq 3 2 = false from rfl, cond_false, show Nat.beq 3 3 = true from rfl, cond_true] at hm
      exact grpX11_positiveOf_130 x (dd := 63 + n) (fun S z0 => gqX11_testOf_130 x n 0 S z0 0) (fun S z0 r S' h => ih.1 S z0 0 r S' h) (fun S z0 => gqX11_testOf_130 x n 1 S z0 0) (fun S z0 r S' h => ih.2.1 S z0 0 r S' h) (fun S z0 => gqX11_testOf_130 x n 2 S z0 0) (fun S z0 r S' h => ih.2.2.1 S z0 0 r S' h) (fun S z0 => gqX11_testOf_130 x n 3 S z0 0) (fun S z0 r S' h => ih.2.2.2 S z0 0 r S' h) (by omega) S a r S' hm
theorem gpX11_testOf_130 (x : XT) (S : ST) (p1 : Int32) (r : Int32) (S' : ST) (hm : gfX11_testOf_130 x S p1 = some (r, S')) : Ct mX11_testOf 123 0 0 [.ref 130, .int p1] (mkS x S) (fun v h => v = some (.int r) ∧ h = mkS x S') :=
  (gqpX11_testOf_130 x 60).1 S p1 0 r S' hm
theorem gpX11_bothOf_130 (x : XT) (S : ST) (p1 : Int32) (r : Int32) (S' : ST) (hm : gfX11_bothOf_130 x S p1 = some (r, S')) : Ct mX11_bothOf 123 0 0 [.ref 130, .int p1] (mkS x S) (fun v h => v = some (.int r) ∧ h = mkS x S') :=
  (gqpX11_testOf_130 x 60).2.1 S p1 0 r S' hm
theorem gpX11_plainOf_130 (x : XT) (S : ST) (p1 : Int32) (r : Int32) (S' : ST) (hm : gfX11_plainOf_130 x S p1 = some (r, S')) : Ct mX11_plainOf 123 0 0 [.ref 130, .int p1] (mkS x S) (fun v h => v = some (.int r) ∧ h = mkS x S') :=
  (gqpX11_testOf_130 x 60).2.2.1 S p1 0 r S' hm
theorem gpX11_positiveOf_130 (x : XT) (S : ST) (p1 : Int32) (r : Int32) (S' : ST) (hm : gfX11_positiveOf_130 x S p1 = some (r, S')) : Ct mX11_positiveOf 123 0 0 [.ref 130, .int p1] (mkS x S) (fun v h => v = some (.int r) ∧ h = mkS x S') :=
  (gqpX11_testOf_130 x 60).2.2.2 S p1 0 r S' hm
end MIR
