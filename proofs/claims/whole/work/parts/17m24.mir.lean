section MIR
set_option maxHeartbeats 4000000 in
set_option maxRecDepth 20000 in
theorem bpX11_readTest_130_5 (x : XT) {dd : Nat} (rec_X11_readTest : ST → Int32 → Option (Unit × ST)) (hrec_X11_readTest : ∀ (S : ST) (z0 : Int32) (r : Unit) (S' : ST), rec_X11_readTest S z0 = some (r, S') → Ct mX11_readTest dd 0 0 [.ref 130, .int z0] (mkS x S) (fun v h => v = none ∧ h = mkS x S')) (rec_X11_readBoth : ST → Int32 → Option (Unit × ST)) (hrec_X11_readBoth : ∀ (S : ST) (z0 : Int32) (r : Unit) (S' : ST), rec_X11_readBoth S z0 = some (r, S') → Ct mX11_readBoth dd 0 0 [.ref 130, .int z0] (mkS x S) (fun v h => v = none ∧ h = mkS x S')) (rec_X11_readPlain : ST → Int32 → Option (Unit × ST)) (hrec_X11_readPlain : ∀ (S : ST) (z0 : Int32) (r : Unit) (S' : ST), rec_X11_readPlain S z0 = some (r, S') → Ct mX11_readPlain dd 0 0 [.ref 130, .int z0] (mkS x S) (fun v h => v = none ∧ h = mkS x S')) (hB : 63 ≤ dd) (k5 : ST → Int32 → Option (Unit × ST)) (hk5 : ∀ (S : ST) (v1 : Int32) (r : Unit) (S' : ST), k5 S v1 = some (r, S') → Ev mX11_readTest (dd + 1) 0 0 5 [some (.ref 130), some (.int v1)] [] (mkS x S) (fun v h => v = none ∧ h = mkS x S')) (S : ST) (v1 : Int32) (r : Unit) (S' : ST) (hm : bfX11_readTest_130_5 x rec_X11_readTest rec_X11_readBoth rec_X11_readPlain k5 S v1 = some (r, S')) : Ev mX11_readTest (dd + 1) 0 0 5 [some (.ref 130), some (.int v1)] [] (mkS x S) (fun v h => v = none ∧ h = mkS x S') := by
    unfold bfX11_readTest_130_5 at hm
    refine Ev.steps tokX11_readTest 2 (P := True) (pc' := 7) (lv' := [some (.ref 130), some (.int v1)]) (st' := [.int 5, .ref 130]) (h' := mkS x S) rfl trivial ?_
    cases h1 : gfX11_takes0_130 x S 5 with
    | none => rw [h1] at hm; cases hm
    | some q2 =>
      obtain ⟨r3, S4⟩ := q2
      rw [h1] at hm
      dsimp only at hm
      refine ev_callV (N := mX11_takes0) (d' := 2) (bc := 0) (bs := 0) (bc' := 0) (bs' := 0) (as := [.int 5]) (rest := []) (a := 130) (ci := 11) (dcd tokX11_readTest rfl) okX11_takes0 inX11_takes0 seX11_takes0 lk11_208 rfl (by omega) (Nat.le_of_ble_eq_true rfl) rfl ⟨by decide, rfl⟩ (gpX11_takes0_130 x S 5 _ _ h1) (fun v h' hq hn => ?_)
      obtain ⟨rfl, rfl⟩ := hq
      refine Ev.steps tokX11_readTest 1 (P := True) (pc' := if r3 = 0 then 21 else 13) (lv' := [some (.ref 130), some (.int v1)]) (st' := []) (h' := mkS x S4) rfl trivial ?_
      refine Ev.ite (fun c5 => ?_) (fun c5 => ?_)
      · rw [if_pos c5] at hm
        cases hm
        exact Ev.retv tokX11_readTest rfl rfl ⟨rfl, rfl⟩
      · rw [if_neg c5] at hm
        refine Ev.steps tokX11_readTest 2 (P := True) (pc' := 15) (lv' := [some (.ref 130), some (.int v1)]) (st' := [.int v1, .ref 130]) (h' := mkS x S4) rfl trivial ?_
        cases h6 : rec_X11_readBoth S4 v1 with
        | none => rw [h6] at hm; cases hm
        | some q7 =>
          obtain ⟨r8, S9⟩ := q7
          rw [h6] at hm
          dsimp only at hm
          refine ev_callV (N := mX11_readBoth) (d' := dd) (bc := 0) (bs := 0) (bc' := 0) (bs' := 0) (as := [.int v1]) (rest := []) (a := 130) (ci := 11) (dcd tokX11_readTest rfl) okX11_readBoth inX11_readBoth seX11_readBoth lk11_244 rfl (by omega) (Nat.le_of_ble_eq_true rfl) rfl ⟨by decide, rfl⟩ (hrec_X11_readBoth S4 v1 _ _ h6) (fun v h' hq hn => ?_)
          obtain ⟨rfl, rfl⟩ := hq
          refine Ev.steps tokX11_readTest 1 (P := True) (pc' := 5) (lv' := [some (.ref 130), some (.int v1)]) (st' := []) (h' := mkS x S9) rfl trivial ?_
          exact hk5 S9 v1 _ _ hm
theorem lpX11_readTest_130_5 (x : XT) {dd : Nat} (rec_X11_readTest : ST → Int32 → Option (Unit × ST)) (hrec_X11_readTest : ∀ (S : ST) (z0 : Int32) (r : Unit) (S' : ST), rec_X11_readTest S z0 = some (r, S') → Ct mX11_readTest dd 0 0 [.ref 130, .int z0] (mkS x S) (fun v h => v = none ∧ h = mkS x S')) (rec_X11_readBoth : ST → Int32 → Option (Unit × ST)) (hrec_X11_readBoth : ∀ (S : ST) (z0 : Int32) (r : Unit) (S' : ST), rec_X11_readBoth S z0 = some (r, S') → Ct mX11_readBoth dd 0 0 [.ref 130, .int z0] (mkS x S) (fun v h => v = none ∧ h = mkS x S')) (rec_X11_readPlain : ST → Int32 → Option (Unit × ST)) (hrec_X11_readPlain : ∀ (S : ST) (z0 : Int32) (r : Unit) (S' : ST), rec_X11_readPlain S z0 = some (r, S') → Ct mX11_readPlain dd 0 0 [.ref 130, .int z0] (mkS x S) (fun v h => v = none ∧ h = mkS x S')) (hB : 63 ≤ dd)  : ∀ (n : Nat) (S : ST) (v1 : Int32) (r : Unit) (S' : ST), lfX11_readTest_130_5 x rec_X11_readTest rec_X11_readBoth rec_X11_readPlain  n S v1 = some (r, S') → Ev mX11_readTest (dd + 1) 0 0 5 [some (.ref 130), some (.int v1)] [] (mkS x S) (fun v h => v = none ∧ h = mkS x S')
  | 0, _, _, _, _, hm => by cases hm
  | n + 1, S, v1, r, S', hm => bpX11_readTest_130_5 x (dd := dd) rec_X11_readTest hrec_X11_readTest rec_X11_readBoth hrec_X11_readBoth rec_X11_readPlain hrec_X11_readPlain hB (lfX11_readTest_130_5 x rec_X11_readTest rec_X11_readBoth rec_X11_readPlain  n) (lpX11_readTest_130_5 x (dd := dd) rec_X11_readTest hrec_X11_readTest rec_X11_readBoth hrec_X11_readBoth rec_X11_readPlain hrec_X11_readPlain hB  n) S v1 r S' hm
set_option maxHeartbeats 4000000 in
set_option maxRecDepth 20000 in
theorem bpX11_readTest_130_0 (x : XT) {dd : Nat} (rec_X11_readTest : ST → Int32 → Option (Unit × ST)) (hrec_X11_readTest : ∀ (S : ST) (z0 : Int32) (r : Unit) (S' : ST), rec_X11_readTest S z0 = some (r, S') → Ct mX11_readTest dd 0 0 [.ref 130, .int z0] (mkS x S) (fun v h => v = none ∧ h = mkS x S')) (rec_X11_readBoth : ST → Int32 → Option (Unit × ST)) (hrec_X11_readBoth : ∀ (S : ST) (z0 : Int32) (r : Unit) (S' : ST), rec_X11_readBoth S z0 = some (r, S') → Ct mX11_readBoth dd 0 0 [.ref 130, .int z0] (mkS x S) (fun v h => v = none ∧ h = mkS x S')) (rec_X11_readPlain : ST → Int32 → Option (Unit × ST)) (hrec_X11_readPlain : ∀ (S : ST) (z0 : Int32) (r : Unit) (S' : ST), rec_X11_readPlain S z0 = some (r, S') → Ct mX11_readPlain dd 0 0 [.ref 130, .int z0] (mkS x S) (fun v h => v = none ∧ h = mkS x S')) (hB : 63 ≤ dd)  (S : ST) (p1 : Int32) (r : Unit) (S' : ST) (hm : bfX11_readTest_130_0 x rec_X11_readTest rec_X11_readBoth rec_X11_readPlain  S p1 = some (r, S')) : Ev mX11_readTest (dd + 1) 0 0 0 [some (.ref 130), some (.int p1)] [] (mkS x S) (fun v h => v = none ∧ h = mkS x S') := by
    unfold bfX11_readTest_130_0 at hm
    refine Ev.steps tokX11_readTest 2 (P := True) (pc' := 2) (lv' := [some (.ref 130), some (.int p1)]) (st' := [.int p1, .ref 130]) (h' := mkS x S) rfl trivial ?_
    cases h1 : rec_X11_readBoth S p1 with
    | none => rw [h1] at hm; cases hm
    | some q2 =>
      obtain ⟨r3, S4⟩ := q2
      rw [h1] at hm
      dsimp only at hm
      refine ev_callV (N := mX11_readBoth) (d' := dd) (bc := 0) (bs := 0) (bc' := 0) (bs' := 0) (as := [.int p1]) (rest := []) (a := 130) (ci := 11) (dcd tokX11_readTest rfl) okX11_readBoth inX11_readBoth seX11_readBoth lk11_244 rfl (by omega) (Nat.le_of_ble_eq_true rfl) rfl ⟨by decide, rfl⟩ (hrec_X11_readBoth S p1 _ _ h1) (fun v h' hq hn => ?_)
      obtain ⟨rfl, rfl⟩ := hq
      exact lpX11_readTest_130_5 x (dd := dd) rec_X11_readTest hrec_X11_readTest rec_X11_readBoth hrec_X11_readBoth rec_X11_readPlain hrec_X11_readPlain hB  20000 S4 p1 _ _ hm
theorem grpX11_readTest_130 (x : XT) {dd : Nat} (rec_X11_readTest : ST → Int32 → Option (Unit × ST)) (hrec_X11_readTest : ∀ (S : ST) (z0 : Int32) (r : Unit) (S' : ST), rec_X11_readTest S z0 = some (r, S') → Ct mX11_readTest dd 0 0 [.ref 130, .int z0] (mkS x S) (fun v h => v = none ∧ h = mkS x S')) (rec_X11_readBoth : ST → Int32 → Option (Unit × ST)) (hrec_X11_readBoth : ∀ (S : ST) (z0 : Int32) (r : Unit) (S' : ST), rec_X11_readBoth S z0 = some (r, S') → Ct mX11_readBoth dd 0 0 [.ref 130, .int z0] (mkS x S) (fun v h => v = none ∧ h = mkS x S')) (rec_X11_readPlain : ST → Int32 → Option (Unit × ST)) (hrec_X11_readPlain : ∀ (S : ST) (z0 : Int32) (r : Unit) (S' : ST), rec_X11_readPlain S z0 = some (r, S') → Ct mX11_readPlain dd 0 0 [.ref 130, .int z0] (mkS x S) (fun v h => v = none ∧ h = mkS x S')) (hB : 63 ≤ dd) (S : ST) (p1 : Int32) (r : Unit) (S' : ST) (hm : grfX11_readTest_130 x rec_X11_readTest rec_X11_readBoth rec_X11_readPlain S p1 = some (r, S')) : Ct mX11_readTest (dd + 1) 0 0 [.ref 130, .int p1] (mkS x S) (fun v h => v = none ∧ h = mkS x S') :=
  Ct.of (lv := [some (.ref 130), some (.int p1)]) rfl rfl rfl (show (_ : Nat) ≤ _ from Nat.le_of_ble_eq_true rfl) (fun G => rfl) (bpX11_readTest_130_0 x (dd := dd) rec_X11_readTest hrec_X11_readTest rec_X11_readBoth hrec_X11_readBoth rec_X11_readPlain hrec_X11_readPlain hB S p1 r S' hm)
set_option maxHeartbeats 4000000 in
set_option maxRecDepth 20000 in
theorem bpX11_readBoth_130_5 (x : XT) {dd : Nat} (rec_X11_readTest : ST → Int32 → Option (Unit × ST)) (hrec_X11_readTest : ∀ (S : ST) (z0 : Int32) (r : Unit) (S' : ST), rec_X11_readTest S z0 = some (r, S') → Ct mX11_readTest dd 0 0 [.ref 130, .int z0] (mkS x S) (fun v h => v = none ∧ h = mkS x S')) (rec_X11_readBoth : ST → Int32 → Option (Unit × ST)) (hrec_X11_readBoth : ∀ (S : ST) (z0 : Int32) (r : Unit) (S' : ST), rec_X11_readBoth S z0 = some (r, S') → Ct mX11_readBoth dd 0 0 [.ref 130, .int z0] (mkS x S) (fun v h => v = none ∧ h = mkS x S')) (rec_X11_readPlain : ST → Int32 → Option (Unit × ST)) (hrec_X11_readPlain : ∀ (S : ST) (z0 : Int32) (r : Unit) (S' : ST), rec_X11_readPlain S z0 = some (r, S') → Ct mX11_readPlain dd 0 0 [.ref 130, .int z0] (mkS x S) (fun v h => v = none ∧ h = mkS x S')) (hB : 63 ≤ dd) (k5 : ST → Int32 → Option (Unit × ST)) (hk5 : ∀ (S : ST) (v1 : Int32) (r : Unit) (S' : ST), k5 S v1 = some (r, S') → Ev mX11_readBoth (dd + 1) 0 0 5 [some (.ref 130), some (.int v1)] [] (mkS x S) (fun v h => v = none ∧ h = mkS x S')) (S : ST) (v1 : Int32) (r : Unit) (S' : ST) (hm : bfX11_readBoth_130_5 x rec_X11_readTest rec_X11_readBoth rec_X11_readPlain k5 S v1 = some (r, S')) : Ev mX11_readBoth (dd + 1) 0 0 5 [some (.ref 130), some (.int v1)] [] (mkS x S) (fun v h => v = none ∧ h = mkS x S') := by
    unfold bfX11_readBoth_130_5 at hm
    refine Ev.steps tokX11_readBoth 2 (P := True) (pc' := 8) (lv' := [some (.ref 130), some (.int v1)]) (st' := [.int 6, .ref 130]) (h' := mkS x S) rfl trivial ?_
    cases h1 : gfX11_takes0_130 x S 6 with
    | none => rw [h1] at hm; cases hm
    | some q2 =>
      obtain ⟨r3, S4⟩ := q2
      rw [h1] at hm
      dsimp only at hm
      refine ev_callV (N := mX11_takes0) (d' := 2) (bc := 0) (bs := 0) (bc' := 0) (bs' := 0) (as := [.int 6]) (rest := []) (a := 130) (ci := 11) (dcd tokX11_readBoth rfl) okX11_takes0 inX11_takes0 seX11_takes0 lk11_208 rfl (by omega) (Nat.le_of_ble_eq_true rfl) rfl ⟨by decide, rfl⟩ (gpX11_takes0_130 x S 6 _ _ h1) (fun v h' hq hn => ?_)
      obtain ⟨rfl, rfl⟩ := hq
      refine Ev.steps tokX11_readBoth 1 (P := True) (pc' := if r3 = 0 then 22 else 14) (lv' := [some (.ref 130), some (.int v1)]) (st' := []) (h' := mkS x S4) rfl trivial ?_
      refine Ev.ite (fun c5 => ?_) (fun c5 => ?_)
      · rw [if_pos c5] at hm
        cases hm
        exact Ev.retv tokX11_readBoth rfl rfl ⟨rfl, rfl⟩
      · rw [if_neg c5] at hm
        refine Ev.steps tokX11_readBoth 2 (P := True) (pc' := 16) (lv' := [some (.ref 130), some (.int v1)]) (st' := [.int v1, .ref 130]) (h' := mkS x S4) rfl trivial ?_
        cases h6 : rec_X11_readPlain S4 v1 with
        | none => rw [h6] at hm; cases hm
        | some q7 =>
          obtain ⟨r8, S9⟩ := q7
          rw [h6] at hm
          dsimp only at hm
          refine ev_callV (N := mX11_readPlain) (d' := dd) (bc := 0) (bs := 0) (bc' := 0) (bs' := 0) (as := [.int v1]) (rest := []) (a := 130) (ci := 11) (dcd tokX11_readBoth rfl) okX11_readPlain inX11_readPlain seX11_readPlain lk11_247 rfl (by omega) (Nat.le_of_ble_eq_true rfl) rfl ⟨by decide, rfl⟩ (hrec_X11_readPlain S4 v1 _ _ h6) (fun v h' hq hn => ?_)
          obtain ⟨rfl, rfl⟩ := hq
          refine Ev.steps tokX11_readBoth 1 (P := True) (pc' := 5) (lv' := [some (.ref 130), some (.int v1)]) (st' := []) (h' := mkS x S9) rfl trivial ?_
          exact hk5 S9 v1 _ _ hm
theorem lpX11_readBoth_130_5 (x : XT) {dd : Nat} (rec_X11_readTest : ST → Int32 → Option (Unit × ST)) (hrec_X11_readTest : ∀ (S : ST) (z0 : Int32) (r : Unit) (S' : ST), rec_X11_readTest S z0 = some (r, S') → Ct mX11_readTest dd 0 0 [.ref 130, .int z0] (mkS x S) (fun v h => v = none ∧ h = mkS x S')) (rec_X11_readBoth : ST → Int32 → Option (Unit × ST)) (hrec_X11_readBoth : ∀ (S : ST) (z0 : Int32) (r : Unit) (S' : ST), rec_X11_readBoth S z0 = some (r, S') → Ct mX11_readBoth dd 0 0 [.ref 130, .int z0] (mkS x S) (fun v h => v = none ∧ h = mkS x S')) (rec_X11_readPlain : ST → Int32 → Option (Unit × ST)) (hrec_X11_readPlain : ∀ (S : ST) (z0 : Int32) (r : Unit) (S' : ST), rec_X11_readPlain S z0 = some (r, S') → Ct mX11_readPlain dd 0 0 [.ref 130, .int z0] (mkS x S) (fun v h => v = none ∧ h = mkS x S')) (hB : 63 ≤ dd)  : ∀ (n : Nat) (S : ST) (v1 : Int32) (r : Unit) (S' : ST), lfX11_readBoth_130_5 x rec_X11_readTest rec_X11_readBoth rec_X11_readPlain  n S v1 = some (r, S') → Ev mX11_readBoth (dd + 1) 0 0 5 [some (.ref 130), some (.int v1)] [] (mkS x S) (fun v h => v = none ∧ h = mkS x S')
  | 0, _, _, _, _, hm => by cases hm
  | n + 1, S, v1, r, S', hm => bpX11_readBoth_130_5 x (dd := dd) rec_X11_readTest hrec_X11_readTest rec_X11_readBoth hrec_X11_readBoth rec_X11_readPlain hrec_X11_readPlain hB (lfX11_readBoth_130_5 x rec_X11_readTest rec_X11_readBoth rec_X11_readPlain  n) (lpX11_readBoth_130_5 x (dd := dd) rec_X11_readTest hrec_X11_readTest rec_X11_readBoth hrec_X11_readBoth rec_X11_readPlain hrec_X11_readPlain hB  n) S v1 r S' hm
set_option maxHeartbeats 4000000 in
set_option maxRecDepth 20000 in
theorem bpX11_readBoth_130_0 (x : XT) {dd : Nat} (rec_X11_readTest : ST → Int32 → Option (Unit × ST)) (hrec_X11_readTest : ∀ (S : ST) (z0 : Int32) (r : Unit) (S' : ST), rec_X11_readTest S z0 = some (r, S') → Ct mX11_readTest dd 0 0 [.ref 130, .int z0] (mkS x S) (fun v h => v = none ∧ h = mkS x S')) (rec_X11_readBoth : ST → Int32 → Option (Unit × ST)) (hrec_X11_readBoth : ∀ (S : ST) (z0 : Int32) (r : Unit) (S' : ST), rec_X11_readBoth S z0 = some (r, S') → Ct mX11_readBoth dd 0 0 [.ref 130, .int z0] (mkS x S) (fun v h => v = none ∧ h = mkS x S')) (rec_X11_readPlain : ST → Int32 → Option (Unit × ST)) (hrec_X11_readPlain : ∀ (S : ST) (z0 : Int32) (r : Unit) (S' : ST), rec_X11_readPlain S z0 = some (r, S') → Ct mX11_readPlain dd 0 0 [.ref 130, .int z0] (mkS x S) (fun v h => v = none ∧ h = mkS x S')) (hB : 63 ≤ dd)  (S : ST) (p1 : Int32) (r : Unit) (S' : ST) (hm : bfX11_readBoth_130_0 x rec_X11_readTest rec_X11_readBoth rec_X11_readPlain  S p1 = some (r, S')) : Ev mX11_readBoth (dd + 1) 0 0 0 [some (.ref 130), some (.int p1)] [] (mkS x S) (fun v h => v = none ∧ h = mkS x S') := by
    unfold bfX11_readBoth_130_0 at hm
    refine Ev.steps tokX11_readBoth 2 (P := True) (pc' := 2) (lv' := [some (.ref 130), some (.int p1)]) (st' := [.int p1, .ref 130]) (h' := mkS x S) rfl trivial ?_
    cases h1 : rec_X11_readPlain S p1 with
    | none => rw [h1] at hm; cases hm
    | some q2 =>
      obtain ⟨r3, S4⟩ := q2
      rw [h1] at hm
      dsimp only at hm
      refine ev_callV (N := mX11_readPlain) (d' := dd) (bc := 0) (bs := 0) (bc' := 0) (bs' := 0) (as := [.int p1]) (rest := []) (a := 130) (ci := 11) (dcd tokX11_readBoth rfl) okX11_readPlain inX11_readPlain seX11_readPlain lk11_247 rfl (by omega) (Nat.le_of_ble_eq_true rfl) rfl ⟨by decide, rfl⟩ (hrec_X11_readPlain S p1 _ _ h1) (fun v h' hq hn => ?_)
      obtain ⟨rfl, rfl⟩ := hq
      exact lpX11_readBoth_130_5 x (dd := dd) rec_X11_readTest hrec_X11_readTest rec_X11_readBoth hrec_X11_readBoth rec_X11_readPlain hrec_X11_readPlain hB  20000 S4 p1 _ _ hm
theorem grpX11_readBoth_130 (x : XT) {dd : Nat} (rec_X11_readTest : ST → Int32 → Option (Unit × ST)) (hrec_X11_readTest : ∀ (S : ST) (z0 : Int32) (r : Unit) (S' : ST), rec_X11_readTest S z0 = some (r, S') → Ct mX11_readTest dd 0 0 [.ref 130, .int z0] (mkS x S) (fun v h => v = none ∧ h = mkS x S')) (rec_X11_readBoth : ST → Int32 → Option (Unit × ST)) (hrec_X11_readBoth : ∀ (S : ST) (z0 : Int32) (r : Unit) (S' : ST), rec_X11_readBoth S z0 = some (r, S') → Ct mX11_readBoth dd 0 0 [.ref 130, .int z0] (mkS x S) (fun v h => v = none ∧ h = mkS x S')) (rec_X11_readPlain : ST → Int32 → Option (Unit × ST)) (hrec_X11_readPlain : ∀ (S : ST) (z0 : Int32) (r : Unit) (S' : ST), rec_X11_readPlain S z0 = some (r, S') → Ct mX11_readPlain dd 0 0 [.ref 130, .int z0] (mkS x S) (fun v h => v = none ∧ h = mkS x S')) (hB : 63 ≤ dd) (S : ST) (p1 : Int32) (r : Unit) (S' : ST) (hm : grfX11_readBoth_130 x rec_X11_readTest rec_X11_readBoth rec_X11_readPlain S p1 = some (r, S')) : Ct mX11_readBoth (dd + 1) 0 0 [.ref 130, .int p1] (mkS x S) (fun v h => v = none ∧ h = mkS x S') :=
  Ct.of (lv := [some (.ref 130), some (.int p1)]) rfl rfl rfl (show (_ : Nat) ≤ _ from Nat.le_of_ble_eq_true rfl) (fun G => rfl) (bpX11_readBoth_130_0 x (dd := dd) rec_X11_readTest hrec_X11_readTest rec_X11_readBoth hrec_X11_readBoth rec_X11_readPlain hrec_X11_readPlain hB S p1 r S' hm)
set_option maxHeartbeats 4000000 in
set_option maxRecDepth 20000 in
theorem bpX11_readPlain_130_133 (x : XT) {dd : Nat} (rec_X11_readTest : ST → Int32 → Option (Unit × ST)) (hrec_X11_readTest : ∀ (S : ST) (z0 : Int32) (r : Unit) (S' : ST), rec_X11_readTest S z0 = some (r, S') → Ct mX11_readTest dd 0 0 [.ref 130, .int z0] (mkS x S) (fun v h => v = none ∧ h = mkS x S')) (rec_X11_readBoth : ST → Int32 → Option (Unit × ST)) (hrec_X11_readBoth : ∀ (S : ST) (z0 : Int32) (r : Unit) (S' : ST), rec_X11_readBoth S z0 = some (r, S') → Ct mX11_readBoth dd 0 0 [.ref 130, .int z0] (mkS x S) (fun v h => v = none ∧ h = mkS x S')) (rec_X11_readPlain : ST → Int32 → Option (Unit × ST)) (hrec_X11_readPlain : ∀ (S : ST) (z0 : Int32) (r : Unit) (S' : ST), rec_X11_readPlain S z0 = some (r, S') → Ct mX11_readPlain dd 0 0 [.ref 130, .int z0] (mkS x S) (fun v h => v = none ∧ h = mkS x S')) (hB : 63 ≤ dd)  (S : ST)  (r : Unit) (S' : ST) (hm : bfX11_readPlain_130_133 x rec_X11_readTest rec_X11_readBoth rec_X11_readPlain  S  = some (r, S')) : Ev mX11_readPlain (dd + 1) 0 0 133 [none, none, none, none] [] (mkS x S) (fun v h => v = none ∧ h = mkS x S') := by
    unfold bfX11_readPlain_130_133 at hm
    cases hm
    exact Ev.retv tokX11_readPlain rfl rfl ⟨rfl, rfl⟩
set_option maxHeartbeats 4000000 in
set_option maxRecDepth 20000 in
theorem bpX11_readPlain_130_128 (x : XT) {dd : Nat} (rec_X11_readTest : ST → Int32 → Option (Unit × ST)) (hrec_X11_readTest : ∀ (S : ST) (z0 : Int32) (r : Unit) (S' : ST), rec_X11_readTest S z0 = some (r, S') → Ct mX11_readTest dd 0 0 [.ref 130, .int z0] (mkS x S) (fun v h => v = none ∧ h = mkS x S')) (rec_X11_readBoth : ST → Int32 → Option (Unit × ST)) (hrec_X11_readBoth : ∀ (S : ST) (z0 : Int32) (r : Unit) (S' : ST), rec_X11_readBoth S z0 = some (r, S') → Ct mX11_readBoth dd 0 0 [.ref 130, .int z0] (mkS x S) (fun v h => v = none ∧ h = mkS x S')) (rec_X11_readPlain : ST → Int32 → Option (Unit × ST)) (hrec_X11_readPlain : ∀ (S : ST) (z0 : Int32) (r : Unit) (S' : ST), rec_X11_readPlain S z0 = some (r, S') → Ct mX11_readPlain dd 0 0 [.ref 130, .int z0] (mkS x S) (fun v h => v = none ∧ h = mkS x S')) (hB : 63 ≤ dd)  (S : ST) (v1 : Int32) (r : Unit) (S' : ST) (hm : bfX11_readPlain_130_128 x rec_X11_readTest rec_X11_readBoth rec_X11_readPlain  S v1 = some (r, S')) : Ev mX11_readPlain (dd + 1) 0 0 128 [some (.ref 130), some (.int v1), none, none] [] (mkS x S) (fun v h => v = none ∧ h = mkS x S') := by
    unfold bfX11_readPlain_130_128 at hm
    refine Ev.steps tokX11_readPlain 2 (P := True) (pc' := 130) (lv' := [some (.ref 130), some (.int v1), none, none]) (st' := [.int v1, .ref 130]) (h' := mkS x S) rfl trivial ?_
    cases h1 : gfX11_readSum_130 x S v1 with
    | none => rw [h1] at hm; cases hm
    | some q2 =>
      obtain ⟨r3, S4⟩ := q2
      rw [h1] at hm
      dsimp only at hm
      refine ev_callV (N := mX11_readSum) (d' := 63) (bc := 0) (bs := 0) (bc' := 0) (bs' := 0) (as := [.int v1]) (rest := []) (a := 130) (ci := 11) (dcd tokX11_readPlain rfl) okX11_readSum inX11_readSum seX11_readSum lk11_217 rfl (by omega) (Nat.le_of_ble_eq_true rfl) rfl ⟨by decide, rfl⟩ (gpX11_readSum_130 x S v1 _ _ h1) (fun v h' hq hn => ?_)
      obtain ⟨rfl, rfl⟩ := hq
      refine Ev.fgt (lv' := [none, none, none, none]) trivial ?_
      exact bpX11_readPlain_130_133 x (dd := dd) rec_X11_readTest hrec_X11_readTest rec_X11_readBoth hrec_X11_readBoth rec_X11_readPlain hrec_X11_readPlain hB S4 _ _ hm
set_option maxHeartbeats 4000000 in
set_option maxRecDepth 20000 in
theorem bpX11_readPlain_130_53 (x : XT) {dd : Nat} (rec_X11_readTest : ST → Int32 → Option (Unit × ST)) (hrec_X11_readTest : ∀ (S : ST) (z0 : Int32) (r : Unit) (S' : ST), rec_X11_readTest S z0 = some (r, S') → Ct mX11_readTest dd 0 0 [.ref 130, .int z0] (mkS x S) (fun v h => v = none ∧ h = mkS x S')) (rec_X11_readBoth : ST → Int32 → Option (Unit × ST)) (hrec_X11_readBoth : ∀ (S : ST) (z0 : Int32) (r : Unit) (S' : ST), rec_X11_readBoth S z0 = some (r, S') → Ct mX11_readBoth dd 0 0 [.ref 130, .int z0] (mkS x S) (fun v h => v = none ∧ h = mkS x S')) (rec_X11_readPlain : ST → Int32 → Option (Unit × ST)) (hrec_X11_readPlain : ∀ (S : ST) (z0 : Int32) (r : Unit) (S' : ST), rec_X11_readPlain S z0 = some (r, S') → Ct mX11_readPlain dd 0 0 [.ref 130, .int z0] (mkS x S) (fun v h => v = none ∧ h = mkS x S')) (hB : 63 ≤ dd)  (S : ST) (v1 : Int32) (r : Unit) (S' : ST) (hm : bfX11_readPlain_130_53 x rec_X11_readTest rec_X11_readBoth rec_X11_readPlain  S v1 = some (r, S')) : Ev mX11_readPlain (dd + 1) 0 0 53 [some (.ref 130), some (.int v1), none, none] [] (mkS x S) (fun v h => v = none ∧ h = mkS x S') := by
    unfold bfX11_readPlain_130_53 at hm
    refine Ev.steps tokX11_readPlain 1 (P := True) (pc' := 54) (lv' := [some (.ref 130), some (.int v1), none, none]) (st' := [.ref 130]) (h' := mkS x S) rfl trivial ?_
    cases h1 : gfX11_fine_130 x S with
    | none => rw [h1] at hm; cases hm
    | some q2 =>
      obtain ⟨r3, S4⟩ := q2
      rw [h1] at hm
      dsimp only at hm
      refine ev_callV (N := mX11_fine) (d' := 1) (bc := 0) (bs := 0) (bc' := 0) (bs' := 0) (as := []) (rest := []) (a := 130) (ci := 11) (dcd tokX11_readPlain rfl) okX11_fine inX11_fine seX11_fine lk11_202 rfl (by omega) (Nat.le_of_ble_eq_true rfl) rfl ⟨by decide, rfl⟩ (gpX11_fine_130 x S _ _ h1) (fun v h' hq hn => ?_)
      obtain ⟨rfl, rfl⟩ := hq
      refine Ev.steps tokX11_readPlain 1 (P := True) (pc' := if ¬ r3 = 0 then 61 else 60) (lv' := [some (.ref 130), some (.int v1), none, none]) (st' := []) (h' := mkS x S4) rfl trivial ?_
      refine Ev.ite (fun c5 => ?_) (fun c5 => ?_)
      · rw [if_pos c5] at hm
        refine Ev.steps tokX11_readPlain 10 (P := True) (pc' := 75) (lv' := [some (.ref 130), some (.int v1), none, none]) (st' := [.int (v1 + 1), .ref 130]) (h' := mkS x ((u2 S4.1 130 19 ((S4.1 130 19) + 1)), S4.2.1, S4.2.2.1, S4.2.2.2)) rfl trivial ?_
        cases h6 : rec_X11_readTest ((u2 S4.1 130 19 ((S4.1 130 19) + 1)), S4.2.1, S4.2.2.1, S4.2.2.2) (v1 + 1) with
        | none => rw [h6] at hm; cases hm
        | some q7 =>
          obtain ⟨r8, S9⟩ := q7
          rw [h6] at hm
          dsimp only at hm
          refine ev_callV (N := mX11_readTest) (d' := dd) (bc := 0) (bs := 0) (bc' := 0) (bs' := 0) (as := [.int (v1 + 1)]) (rest := []) (a := 130) (ci := 11) (dcd tokX11_readPlain rfl) okX11_readTest inX11_readTest seX11_readTest lk11_224 rfl (by omega) (Nat.le_of_ble_eq_true rfl) rfl ⟨by decide, rfl⟩ (hrec_X11_readTest ((u2 S4.1 130 19 ((S4.1 130 19) + 1)), S4.2.1, S4.2.2.1, S4.2.2.2) (v1 + 1) _ _ h6) (fun v h' hq hn => ?_)
          obtain ⟨rfl, rfl⟩ := hq
          refine Ev.steps tokX11_readPlain 2 (P := True) (pc' := 81) (lv' := [some (.ref 130), some (.int v1), none, none]) (st' := [.int 41, .ref 130]) (h' := mkS x S9) rfl trivial ?_
          cases h10 : gfX11_sign x S9 41 with
          | none => rw [h10] at hm; cases hm
          | some q11 =>
            obtain ⟨r12, S13⟩ := q11
            rw [h10] at hm
            dsimp only at hm
            refine ev_callS (N := mX11_sign) (d' := 1) (bc := 0) (bs := 0) (bc' := 0) (bs' := 0) (as := [.int 41]) (rest := [.ref 130]) (dcd tokX11_readPlain rfl) okX11_sign inX11_sign lk11_250 rfl (by omega) (Nat.le_of_ble_eq_true rfl) (gpX11_sign x S9 41 _ _ h10) (fun v h' hq hn => ?_)
            obtain ⟨rfl, rfl⟩ := hq
            cases h14 : gfX11_must_130 x S13 r12 with
            | none => rw [h14] at hm; cases hm
            | some q15 =>
              obtain ⟨r16, S17⟩ := q15
              rw [h14] at hm
              dsimp only at hm
              refine ev_callV (N := mX11_must) (d' := 3) (bc := 0) (bs := 0) (bc' := 0) (bs' := 0) (as := [.int r12]) (rest := []) (a := 130) (ci := 11) (dcd tokX11_readPlain rfl) okX11_must inX11_must seX11_must lk11_221 rfl (by omega) (Nat.le_of_ble_eq_true rfl) rfl ⟨by decide, rfl⟩ (gpX11_must_130 x S13 r12 _ _ h14) (fun v h' hq hn => ?_)
              obtain ⟨rfl, rfl⟩ := hq
              refine Ev.steps tokX11_readPlain 1 (P := True) (pc' := 133) (lv' := [some (.ref 130), some (.int v1), none, none]) (st' := []) (h' := mkS x S17) rfl trivial ?_
              refine Ev.fgt (lv' := [none, none, none, none]) trivial ?_
              exact bpX11_readPlain_130_133 x (dd := dd) rec_X11_readTest hrec_X11_readTest rec_X11_readBoth hrec_X11_readBoth rec_X11_readPlain hrec_X11_readPlain hB S17 _ _ hm
      · rw [if_neg c5] at hm
        cases hm
        exact Ev.retv tokX11_readPlain rfl rfl ⟨rfl, rfl⟩
set_option maxHeartbeats 4000000 in
set_option maxRecDepth 20000 in
theorem bpX11_readPlain_130_2 (x : XT) {dd : Nat} (rec_X11_readTest : ST → Int32 → Option (Unit × ST)) (hrec_X11_readTest : ∀ (S : ST) (z0 : Int32) (r : Unit) (S' : ST), rec_X11_readTest S z0 = some (r, S') → Ct mX11_readTest dd 0 0 [.ref 130, .int z0] (mkS x S) (fun v h => v = none ∧ h = mkS x S')) (rec_X11_readBoth : ST → Int32 → Option (Unit × ST)) (hrec_X11_readBoth : ∀ (S : ST) (z0 : Int32) (r : Unit) (S' : ST), rec_X11_readBoth S z0 = some (r, S') → Ct mX11_readBoth dd 0 0 [.ref 130, .int z0] (mkS x S) (fun v h => v = none ∧ h = mkS x S')) (rec_X11_readPlain : ST → Int32 → Option (Unit × ST)) (hrec_X11_readPlain : ∀ (S : ST) (z0 : Int32) (r : Unit) (S' : ST), rec_X11_readPlain S z0 = some (r, S') → Ct mX11_readPlain dd 0 0 [.ref 130, .int z0] (mkS x S) (fun v h => v = none ∧ h = mkS x S')) (hB : 63 ≤ dd) (k2 : ST → Int32 → Int32 → Option (Unit × ST)) (hk2 : ∀ (S : ST) (v1 : Int32) (v2 : Int32) (r : Unit) (S' : ST), k2 S v1 v2 = some (r, S') → Ev mX11_readPlain (dd + 1) 0 0 2 [some (.ref 130), some (.int v1), some (.int v2), none] [] (mkS x S) (fun v h => v = none ∧ h = mkS x S')) (S : ST) (v1 : Int32) (v2 : Int32) (r : Unit) (S' : ST) (hm : bfX11_readPlain_130_2 x rec_X11_readTest rec_X11_readBoth rec_X11_readPlain k2 S v1 v2 = some (r, S')) : Ev mX11_readPlain (dd + 1) 0 0 2 [some (.ref 130), some (.int v1), some (.int v2), none] [] (mkS x S) (fun v h => v = none ∧ h = mkS x S') := by
    unfold bfX11_readPlain_130_2 at hm
    refine Ev.steps tokX11_readPlain 2 (P := True) (pc' := if v2 = 0 then 16 else 6) (lv' := [some (.ref 130), some (.int v1), some (.int v2), none]) (st' := []) (h' := mkS x S) rfl trivial ?_
    refine Ev.ite (fun c1 => ?_) (fun c1 => ?_)
    · rw [if_pos c1] at hm
      refine Ev.steps tokX11_readPlain 1 (P := True) (pc' := 17) (lv' := [some (.ref 130), some (.int v1), some (.int v2), none]) (st' := [.ref 130]) (h' := mkS x S) rfl trivial ?_
      cases h2 : gfX11_fine_130 x S with
      | none => rw [h2] at hm; cases hm
      | some q3 =>
        obtain ⟨r4, S5⟩ := q3
        rw [h2] at hm
        dsimp only at hm
        refine ev_callV (N := mX11_fine) (d' := 1) (bc := 0) (bs := 0) (bc' := 0) (bs' := 0) (as := []) (rest := []) (a := 130) (ci := 11) (dcd tokX11_readPlain rfl) okX11_fine inX11_fine seX11_fine lk11_202 rfl (by omega) (Nat.le_of_ble_eq_true rfl) rfl ⟨by decide, rfl⟩ (gpX11_fine_130 x S _ _ h2) (fun v h' hq hn => ?_)
        obtain ⟨rfl, rfl⟩ := hq
        refine Ev.steps tokX11_readPlain 1 (P := True) (pc' := if ¬ r4 = 0 then 24 else 23) (lv' := [some (.ref 130), some (.int v1), some (.int v2), none]) (st' := []) (h' := mkS x S5) rfl trivial ?_
        refine Ev.ite (fun c6 => ?_) (fun c6 => ?_)
        · rw [if_pos c6] at hm
          obtain ⟨o7, hm⟩ := oblk hm
          refine Ev.steps tokX11_readPlain 8 (P := vp_in (S5.1 130 19) 401 ∧ True) (pc' := 37) (lv' := [some (.ref 130), some (.int v1), some (.int v2), some (.int (S5.2.1 139 ((S5.1 130 19).toNatClampNeg)))]) (st' := [.int 40, .int (S5.2.1 139 ((S5.1 130 19).toNatClampNeg))]) (h' := mkS x S5) rfl ⟨inb_ok o7, trivial⟩ ?_
          cases h8 : gfX11_sign x S5 40 with
          | none => rw [h8] at hm; cases hm
          | some q9 =>
            obtain ⟨r10, S11⟩ := q9
            rw [h8] at hm
            dsimp only at hm
            refine ev_callS (N := mX11_sign) (d' := 1) (bc := 0) (bs := 0) (bc' := 0) (bs' := 0) (as := [.int 40]) (rest := [.int (S5.2.1 139 ((S5.1 130 19).toNatClampNeg))]) (dcd tokX11_readPlain rfl) okX11_sign inX11_sign lk11_250 rfl (by omega) (Nat.le_of_ble_eq_true rfl) (gpX11_sign x S5 40 _ _ h8) (fun v h' hq hn => ?_)
            obtain ⟨rfl, rfl⟩ := hq
            refine Ev.steps tokX11_readPlain 1 (P := True) (pc' := if ¬ (S5.2.1 139 ((S5.1 130 19).toNatClampNeg)) = r10 then 90 else 43) (lv' := [some (.ref 130), some (.int v1), some (.int v2), some (.int (S5.2.1 139 ((S5.1 130 19).toNatClampNeg)))]) (st' := []) (h' := mkS x S11) rfl trivial ?_
            refine Ev.ite (fun c12 => ?_) (fun c12 => ?_)
            · rw [if_pos c12] at hm
              refine Ev.steps tokX11_readPlain 2 (P := True) (pc' := 92) (lv' := [some (.ref 130), some (.int v1), some (.int v2), some (.int (S5.2.1 139 ((S5.1 130 19).toNatClampNeg)))]) (st' := [.int v1, .ref 130]) (h' := mkS x S11) rfl trivial ?_
              cases h13 : gfX11_readSum_130 x S11 v1 with
              | none => rw [h13] at hm; cases hm
              | some q14 =>
                obtain ⟨r15, S16⟩ := q14
                rw [h13] at hm
                dsimp only at hm
                refine ev_callV (N := mX11_readSum) (d' := 63) (bc := 0) (bs := 0) (bc' := 0) (bs' := 0) (as := [.int v1]) (rest := []) (a := 130) (ci := 11) (dcd tokX11_readPlain rfl) okX11_readSum inX11_readSum seX11_readSum lk11_217 rfl (by omega) (Nat.le_of_ble_eq_true rfl) rfl ⟨by decide, rfl⟩ (gpX11_readSum_130 x S11 v1 _ _ h13) (fun v h' hq hn => ?_)
                obtain ⟨rfl, rfl⟩ := hq
                refine Ev.steps tokX11_readPlain 2 (P := True) (pc' := 98) (lv' := [some (.ref 130), some (.int v1), some (.int v2), some (.int (S5.2.1 139 ((S5.1 130 19).toNatClampNeg)))]) (st' := [.int 60, .ref 130]) (h' := mkS x S16) rfl trivial ?_
                cases h17 : gfX11_sign x S16 60 with
                | none => rw [h17] at hm; cases hm
                | some q18 =>
                  obtain ⟨r19, S20⟩ := q18
                  rw [h17] at hm
                  dsimp only at hm
                  refine ev_callS (N := mX11_sign) (d' := 1) (bc := 0) (bs := 0) (bc' := 0) (bs' := 0) (as := [.int 60]) (rest := [.ref 130]) (dcd tokX11_readPlain rfl) okX11_sign inX11_sign lk11_250 rfl (by omega) (Nat.le_of_ble_eq_true rfl) (gpX11_sign x S16 60 _ _ h17) (fun v h' hq hn => ?_)
                  obtain ⟨rfl, rfl⟩ := hq
                  cases h21 : gfX11_takes0_130 x S20 r19 with
                  | none => rw [h21] at hm; cases hm
                  | some q22 =>
                    obtain ⟨r23, S24⟩ := q22
                    rw [h21] at hm
                    dsimp only at hm
                    refine ev_callV (N := mX11_takes0) (d' := 2) (bc := 0) (bs := 0) (bc' := 0) (bs' := 0) (as := [.int r19]) (rest := []) (a := 130) (ci := 11) (dcd tokX11_readPlain rfl) okX11_takes0 inX11_takes0 seX11_takes0 lk11_208 rfl (by omega) (Nat.le_of_ble_eq_true rfl) rfl ⟨by decide, rfl⟩ (gpX11_takes0_130 x S20 r19 _ _ h21) (fun v h' hq hn => ?_)
                    obtain ⟨rfl, rfl⟩ := hq
                    refine Ev.steps tokX11_readPlain 1 (P := True) (pc' := if ¬ r23 = 0 then 128 else 107) (lv' := [some (.ref 130), some (.int v1), some (.int v2), some (.int (S5.2.1 139 ((S5.1 130 19).toNatClampNeg)))]) (st' := []) (h' := mkS x S24) rfl trivial ?_
                    refine Ev.ite (fun c25 => ?_) (fun c25 => ?_)
                    · rw [if_pos c25] at hm
                      refine Ev.fgt (lv' := [some (.ref 130), some (.int v1), none, none]) ⟨rfl, rfl, trivial⟩ ?_
                      exact bpX11_readPlain_130_128 x (dd := dd) rec_X11_readTest hrec_X11_readTest rec_X11_readBoth hrec_X11_readBoth rec_X11_readPlain hrec_X11_readPlain hB S24 v1 _ _ hm
                    · rw [if_neg c25] at hm
                      refine Ev.steps tokX11_readPlain 2 (P := True) (pc' := 110) (lv' := [some (.ref 130), some (.int v1), some (.int v2), some (.int (S5.2.1 139 ((S5.1 130 19).toNatClampNeg)))]) (st' := [.int 62, .ref 130]) (h' := mkS x S24) rfl trivial ?_
                      cases h26 : gfX11_sign x S24 62 with
                      | none => rw [h26] at hm; cases hm
                      | some q27 =>
                        obtain ⟨r28, S29⟩ := q27
                        rw [h26] at hm
                        dsimp only at hm
                        refine ev_callS (N := mX11_sign) (d' := 1) (bc := 0) (bs := 0) (bc' := 0) (bs' := 0) (as := [.int 62]) (rest := [.ref 130]) (dcd tokX11_readPlain rfl) okX11_sign inX11_sign lk11_250 rfl (by omega) (Nat.le_of_ble_eq_true rfl) (gpX11_sign x S24 62 _ _ h26) (fun v h' hq hn => ?_)
                        obtain ⟨rfl, rfl⟩ := hq
                        cases h30 : gfX11_takes0_130 x S29 r28 with
                        | none => rw [h30] at hm; cases hm
                        | some q31 =>
                          obtain ⟨r32, S33⟩ := q31
                          rw [h30] at hm
                          dsimp only at hm
                          refine ev_callV (N := mX11_takes0) (d' := 2) (bc := 0) (bs := 0) (bc' := 0) (bs' := 0) (as := [.int r28]) (rest := []) (a := 130) (ci := 11) (dcd tokX11_readPlain rfl) okX11_takes0 inX11_takes0 seX11_takes0 lk11_208 rfl (by omega) (Nat.le_of_ble_eq_true rfl) rfl ⟨by decide, rfl⟩ (gpX11_takes0_130 x S29 r28 _ _ h30) (fun v h' hq hn => ?_)
                          obtain ⟨rfl, rfl⟩ := hq
                          refine Ev.steps tokX11_readPlain 1 (P := True) (pc' := if ¬ r32 = 0 then 128 else 119) (lv' := [some (.ref 130), some (.int v1), some (.int v2), some (.int (S5.2.1 139 ((S5.1 130 19).toNatClampNeg)))]) (st' := []) (h' := mkS x S33) rfl trivial ?_
                          refine Ev.ite (fun c34 => ?_) (fun c34 => ?_)
                          · rw [if_pos c34] at hm
                            refine Ev.fgt (lv' := [some (.ref 130), some (.int v1), none, none]) ⟨rfl, rfl, trivial⟩ ?_
                            exact bpX11_readPlain_130_128 x (dd := dd) rec_X11_readTest hrec_X11_readTest rec_X11_readBoth hrec_X11_readBoth rec_X11_readPlain hrec_X11_readPlain hB S33 v1 _ _ hm
                          · rw [if_neg c34] at hm
                            refine Ev.steps tokX11_readPlain 2 (P := True) (pc' := 122) (lv' := [some (.ref 130), some (.int v1), some (.int v2), some (.int (S5.2.1 139 ((S5.1 130 19).toNatClampNeg)))]) (st' := [.int 61, .ref 130]) (h' := mkS x S33) rfl trivial ?_
                            cases h35 : gfX11_sign x S33 61 with
                            | none => rw [h35] at hm; cases hm
                            | some q36 =>
                              obtain ⟨r37, S38⟩ := q36
                              rw [h35] at hm
                              dsimp only at hm
                              refine ev_callS (N := mX11_sign) (d' := 1) (bc := 0) (bs := 0) (bc' := 0) (bs' := 0) (as := [.int 61]) (rest := [.ref 130]) (dcd tokX11_readPlain rfl) okX11_sign inX11_sign lk11_250 rfl (by omega) (Nat.le_of_ble_eq_true rfl) (gpX11_sign x S33 61 _ _ h35) (fun v h' hq hn => ?_)
                              obtain ⟨rfl, rfl⟩ := hq
                              cases h39 : gfX11_must_130 x S38 r37 with
                              | none => rw [h39] at hm; cases hm
                              | some q40 =>
                                obtain ⟨r41, S42⟩ := q40
                                rw [h39] at hm
                                dsimp only at hm
                                refine ev_callV (N := mX11_must) (d' := 3) (bc := 0) (bs := 0) (bc' := 0) (bs' := 0) (as := [.int r37]) (rest := []) (a := 130) (ci := 11) (dcd tokX11_readPlain rfl) okX11_must inX11_must seX11_must lk11_221 rfl (by omega) (Nat.le_of_ble_eq_true rfl) rfl ⟨by decide, rfl⟩ (gpX11_must_130 x S38 r37 _ _ h39) (fun v h' hq hn => ?_)
                                obtain ⟨rfl, rfl⟩ := hq
                                refine Ev.fgt (lv' := [some (.ref 130), some (.int v1), none, none]) ⟨rfl, rfl, trivial⟩ ?_
                                exact bpX11_readPlain_130_128 x (dd := dd) rec_X11_readTest hrec_X11_readTest rec_X11_readBoth hrec_X11_readBoth rec_X11_readPlain hrec_X11_readPlain hB S42 v1 _ _ hm
            · rw [if_neg c12] at hm
              refine Ev.steps tokX11_readPlain 3 (P := True) (pc' := if ¬ v1 = 8 then 53 else 49) (lv' := [some (.ref 130), some (.int v1), some (.int v2), some (.int (S5.2.1 139 ((S5.1 130 19).toNatClampNeg)))]) (st' := []) (h' := mkS x S11) rfl trivial ?_
              refine Ev.ite (fun c43 => ?_) (fun c43 => ?_)
              · rw [if_pos c43] at hm
                refine Ev.fgt (lv' := [some (.ref 130), some (.int v1), none, none]) ⟨rfl, rfl, trivial⟩ ?_
                exact bpX11_readPlain_130_53 x (dd := dd) rec_X11_readTest hrec_X11_readTest rec_X11_readBoth hrec_X11_readBoth rec_X11_readPlain hrec_X11_readPlain hB S11 v1 _ _ hm
              · rw [if_neg c43] at hm
                refine Ev.steps tokX11_readPlain 1 (P := True) (pc' := 50) (lv' := [some (.ref 130), some (.int v1), some (.int v2), some (.int (S5.2.1 139 ((S5.1 130 19).toNatClampNeg)))]) (st' := [.ref 130]) (h' := mkS x S11) rfl trivial ?_
                cases h44 : gfX11_faults_130 x S11 with
                | none => rw [h44] at hm; cases hm
                | some q45 =>
                  obtain ⟨r46, S47⟩ := q45
                  rw [h44] at hm
                  dsimp only at hm
                  refine ev_callV (N := mX11_faults) (d' := 2) (bc := 0) (bs := 0) (bc' := 0) (bs' := 0) (as := []) (rest := []) (a := 130) (ci := 11) (dcd tokX11_readPlain rfl) okX11_faults inX11_faults seX11_faults lk11_211 rfl (by omega) (Nat.le_of_ble_eq_true rfl) rfl ⟨by decide, rfl⟩ (gpX11_faults_130 x S11 _ _ h44) (fun v h' hq hn => ?_)
                  obtain ⟨rfl, rfl⟩ := hq
                  refine Ev.fgt (lv' := [some (.ref 130), some (.int v1), none, none]) ⟨rfl, rfl, trivial⟩ ?_
                  exact bpX11_readPlain_130_53 x (dd := dd) rec_X11_readTest hrec_X11_readTest rec_X11_readBoth hrec_X11_readBoth rec_X11_readPlain hrec_X11_readPlain hB S47 v1 _ _ hm
        · rw [if_neg c6] at hm
          cases hm
          exact Ev.retv tokX11_readPlain rfl rfl ⟨rfl, rfl⟩
    · rw [if_neg c1] at hm
      refine Ev.steps tokX11_readPlain 2 (P := True) (pc' := 9) (lv' := [some (.ref 130), some (.int v1), some (.int v2), none]) (st' := [.int 7, .ref 130]) (h' := mkS x S) rfl trivial ?_
      cases h48 : gfX11_takes0_130 x S 7 with
      | none => rw [h48] at hm; cases hm
      | some q49 =>
        obtain ⟨r50, S51⟩ := q49
        rw [h48] at hm
        dsimp only at hm
        refine ev_callV (N := mX11_takes0) (d' := 2) (bc := 0) (bs := 0) (bc' := 0) (bs' := 0) (as := [.int 7]) (rest := []) (a := 130) (ci := 11) (dcd tokX11_readPlain rfl) okX11_takes0 inX11_takes0 seX11_takes0 lk11_208 rfl (by omega) (Nat.le_of_ble_eq_true rfl) rfl ⟨by decide, rfl⟩ (gpX11_takes0_130 x S 7 _ _ h48) (fun v h' hq hn => ?_)
        obtain ⟨rfl, rfl⟩ := hq
        refine Ev.steps tokX11_readPlain 2 (P := True) (pc' := 2) (lv' := [some (.ref 130), some (.int v1), some (.int r50), none]) (st' := []) (h' := mkS x S51) rfl trivial ?_
        exact hk2 S51 v1 r50 _ _ hm
theorem lpX11_readPlain_130_2 (x : XT) {dd : Nat} (rec_X11_readTest : ST → Int32 → Option (Unit × ST)) (hrec_X11_readTest : ∀ (S : ST) (z0 : Int32) (r : Unit) (S' : ST), rec_X11_readTest S z0 = some (r, S') → Ct mX11_readTest dd 0 0 [.ref 130, .int z0] (mkS x S) (fun v h => v = none ∧ h = mkS x S')) (rec_X11_readBoth : ST → Int32 → Option (Unit × ST)) (hrec_X11_readBoth : ∀ (S : ST) (z0 : Int32) (r : Unit) (S' : ST), rec_X11_readBoth S z0 = some (r, S') → Ct mX11_readBoth dd 0 0 [.ref 130, .int z0] (mkS x S) (fun v h => v = none ∧ h = mkS x S')) (rec_X11_readPlain : ST → Int32 → Option (Unit × ST)) (hrec_X11_readPlain : ∀ (S : ST) (z0 : Int32) (r : Unit) (S' : ST), rec_X11_readPlain S z0 = some (r, S') → Ct mX11_readPlain dd 0 0 [.ref 130, .int z0] (mkS x S) (fun v h => v = none ∧ h = mkS x S')) (hB : 63 ≤ dd)  : ∀ (n : Nat) (S : ST) (v1 : Int32) (v2 : Int32) (r : Unit) (S' : ST), lfX11_readPlain_130_2 x rec_X11_readTest rec_X11_readBoth rec_X11_readPlain  n S v1 v2 = some (r, S') → Ev mX11_readPlain (dd + 1) 0 0 2 [some (.ref 130), some (.int v1), some (.int v2), none] [] (mkS x S) (fun v h => v = none ∧ h = mkS x S')
  | 0, _, _, _, _, _, hm => by cases hm
  | n + 1, S, v1, v2, r, S', hm => bpX11_readPlain_130_2 x (dd := dd) rec_X11_readTest hrec_X11_readTest rec_X11_readBoth hrec_X11_readBoth rec_X11_readPlain hrec_X11_readPlain hB (lfX11_readPlain_130_2 x rec_X11_readTest rec_X11_readBoth rec_X11_readPlain  n) (lpX11_readPlain_130_2 x (dd := dd) rec_X11_readTest hrec_X11_readTest rec_X11_readBoth hrec_X11_readBoth rec_X11_readPlain hrec_X11_readPlain hB  n) S v1 v2 r S' hm
set_option maxHeartbeats 4000000 in
set_option maxRecDepth 20000 in
theorem bpX11_readPlain_130_0 (x : XT) {dd : Nat} (rec_X11_readTest : ST → Int32 → Option (Unit × ST)) (hrec_X11_readTest : ∀ (S : ST) (z0 : Int32) (r : Unit) (S' : ST), rec_X11_readTest S z0 = some (r, S') → Ct mX11_readTest dd 0 0 [.ref 130, .int z0] (mkS x S) (fun v h => v = none ∧ h = mkS x S')) (rec_X11_readBoth : ST → Int32 → Option (Unit × ST)) (hrec_X11_readBoth : ∀ (S : ST) (z0 : Int32) (r : Unit) (S' : ST), rec_X11_readBoth S z0 = some (r, S') → Ct mX11_readBoth dd 0 0 [.ref 130, .int z0] (mkS x S) (fun v h => v = none ∧ h = mkS x S')) (rec_X11_readPlain : ST → Int32 → Option (Unit × ST)) (hrec_X11_readPlain : ∀ (S : ST) (z0 : Int32) (r : Unit) (S' : ST), rec_X11_readPlain S z0 = some (r, S') → Ct mX11_readPlain dd 0 0 [.ref 130, .int z0] (mkS x S) (fun v h => v = none ∧ h = mkS x S')) (hB : 63 ≤ dd)  (S : ST) (p1 : Int32) (r : Unit) (S' : ST) (hm : bfX11_readPlain_130_0 x rec_X11_readTest rec_X11_readBoth rec_X11_readPlain  S p1 = some (r, S')) : Ev mX11_readPlain (dd + 1) 0 0 0 [some (.ref 130), some (.int p1), none, none] [] (mkS x S) (fun v h => v = none ∧ h = mkS x S') := by
    unfold bfX11_readPlain_130_0 at hm
    refine Ev.steps tokX11_readPlain 2 (P := True) (pc' := 2) (lv' := [some (.ref 130), some (.int p1), some (.int 1), none]) (st' := []) (h' := mkS x S) rfl trivial ?_
    exact lpX11_readPlain_130_2 x (dd := dd) rec_X11_readTest hrec_X11_readTest rec_X11_readBoth hrec_X11_readBoth rec_X11_readPlain hrec_X11_readPlain hB  20000 S p1 1 _ _ hm
theorem grpX11_readPlain_130 (x : XT) {dd : Nat} (rec_X11_readTest : ST → Int32 → Option (Unit × ST)) (hrec_X11_readTest : ∀ (S : ST) (z0 : Int32) (r : Unit) (S' : ST), rec_X11_readTest S z0 = some (r, S') → Ct mX11_readTest dd 0 0 [.ref 130, .int z0] (mkS x S) (fun v h => v = none ∧ h = mkS x S')) (rec_X11_readBoth : ST → Int32 → Option (Unit × ST)) (hrec_X11_readBoth : ∀ (S : ST) (z0 : Int32) (r : Unit) (S' : ST), rec_X11_readBoth S z0 = some (r, S') → Ct mX11_readBoth dd 0 0 [.ref 130, .int z0] (mkS x S) (fun v h => v = none ∧ h = mkS x S')) (rec_X11_readPlain : ST → Int32 → Option (Unit × ST)) (hrec_X11_readPlain : ∀ (S : ST) (z0 : Int32) (r : Unit) (S' : ST), rec_X11_readPlain S z0 = some (r, S') → Ct mX11_readPlain dd 0 0 [.ref 130, .int z0] (mkS x S) (fun v h => v = none ∧ h = mkS x S')) (hB : 63 ≤ dd) (S : ST) (p1 : Int32) (r : Unit) (S' : ST) (hm : grfX11_readPlain_130 x rec_X11_readTest rec_X11_readBoth rec_X11_readPlain S p1 = some (r, S')) : Ct mX11_readPlain (dd + 1) 0 0 [.ref 130, .int p1] (mkS x S) (fun v h => v = none ∧ h = mkS x S') :=
  Ct.of (lv := [some (.ref 130), some (.int p1), none, none]) rfl rfl rfl (show (_ : Nat) ≤ _ from Nat.le_of_ble_eq_true rfl) (fun G => rfl) (bpX11_readPlain_130_0 x (dd := dd) rec_X11_readTest hrec_X11_readTest rec_X11_readBoth hrec_X11_readBoth rec_X11_readPlain hrec_X11_readPlain hB S p1 r S' hm)
theorem gqpX11_readTest_130 (x : XT) (n : Nat) : (∀ (S : ST) (a b : Int32) (r : Unit) (S' : ST), gqX11_readTest_130 x n 0 S a b = some (r, S') → Ct mX11_readTest (63 + n) 0 0 [.ref 130, .int a] (mkS x S) (fun v h => v = none ∧ h = mkS x S')) ∧ (∀ (S : ST) (a b : Int32) (r : Unit) (S' : ST), gqX11_readTest_130 x n 1 S a b = some (r, S') → Ct mX11_readBoth (63 + n) 0 0 [.ref 130, .int a] (mkS x S) (fun v h => v = none ∧ h = mkS x S')) ∧ (∀ (S : ST) (a b : Int32) (r : Unit) (S' : ST), gqX11_readTest_130 x n 2 S a b = some (r, S') → Ct mX11_readPlain (63 + n) 0 0 [.ref 130, .int a] (mkS x S) (fun v h => v = none ∧ h = mkS x S')) := by
  induction n with
  | zero => exact ⟨(fun _ _ _ _ _ hm => (by cases hm)), (fun _ _ _ _ _ hm => (by cases hm)), (fun _ _ _ _ _ hm => (by cases hm))⟩
  | succ n ih =>
    refine ⟨?_, ?_, ?_⟩
    · intro S a b r S' hm
      rw [gqX11_readTest_130] at hm
      rw [show Nat.beq 0 0 = true from rfl, cond_true] at hm
      exact grpX11_readTest_130 x (dd := 63 + n) (fun S z0 => gqX11_readTest_130 x n 0 S z0 0) (fun S z0 r S' h => ih.1 S z0 0 r S' h) (fun S z0 => gqX11_readTest_130 x n 1 S z0 0) (fun S z0 r S' h => ih.2.1 S z0 0 r S' h) (fun S z0 => gqX11_readTest_130 x n 2 S z0 0) (fun S z0 r S' h => ih.2.2 S z0 0 r S' h) (by omega) S a r S' hm
    · intro S a b r S' hm
      rw [gqX11_readTest_130] at hm
      rw [show Nat.beq 1 0 = false from rfl, cond_false, show Nat.beq 1 1 = true from rfl, cond_true] at hm
      exact grpX11_readBoth_130 x (dd := 63 + n) (fun S z0 => gqX11_readTest_130 x n 0 S z0 0) (fun S z0 r S' h => ih.1 S z0 0 r S' h) (fun S z0 => gqX11_readTest_130 x n 1 S z0 0) (fun S z0 r S' h => ih.2.1 S z0 0 r S' h) (fun S z0 => gqX11_readTest_130 x n 2 S z0 0) (fun S z0 r S' h => ih.2.2 S z0 0 r S' h) (by omega) S a r S' hm
    · intro S a b r S' hm
      rw [gqX11_readTest_130] at hm
      rw [show Nat.beq 2 0 = false from rfl, cond_false, show Nat.beq 2 1 = false from rfl, cond_false, show Nat.beq 2 2 = true from rfl, cond_true] at hm
      exact grpX11_readPlain_130 x (dd := 63 + n) (fun S z0 => gqX11_readTest_130 x n 0 S z0 0) (fun S z0 r S' h => ih.1 S z0 0 r S' h) (fun S z0 => gqX11_readTest_130 x n 1 S z0 0) (fun S z0 r S' h => ih.2.1 S z0 0 r S' h) (fun S z0 => gqX11_readTest_130 x n 2 S z0 0) (fun S z0 r S' h => ih.2.2 S z0 0 r S' h) (by omega) S a r S' hm
theorem gpX11_readTest_130 (x : XT) (S : ST) (p1 : Int32) (r : Unit) (S' : ST) (hm : gfX11_readTest_130 x S p1 = some (r, S')) : Ct mX11_readTest 123 0 0 [.ref 130, .int p1] (mkS x S) (fun v h => v = none ∧ h = mkS x S') :=
  (gqpX11_readTest_130 x 60).1 S p1 0 r S' hm
theorem gpX11_readBoth_130 (x : XT) (S : ST) (p1 : Int32) (r : Unit) (S' : ST) (hm : gfX11_readBoth_130 x S p1 = some (r, S')) : Ct mX11_readBoth 123 0 0 [.ref 130, .int p1] (mkS x S) (fun v h => v = none ∧ h = mkS x S') :=
  (gqpX11_readTest_130 x 60).2.1 S p1 0 r S' hm
theorem gpX11_readPlain_130 (x : XT) (S : ST) (p1 : Int32) (r : Unit) (S' : ST) (hm : gfX11_readPlain_130 x S p1 = some (r, S')) : Ct mX11_readPlain 123 0 0 [.ref 130, .int p1] (mkS x S) (fun v h => v = none ∧ h = mkS x S') :=
  (gqpX11_readTest_130 x 60).2.2 S p1 0 r S' hm
set_option maxHeartbeats 4000000 in
set_option maxRecDepth 20000 in
theorem bpX11_readClause_130_42 (x : XT)  (S : ST)  (r : Unit) (S' : ST) (hm : bfX11_readClause_130_42 x  S  = some (r, S')) : Ev mX11_readClause 124 0 0 42 [none] [] (mkS x S) (fun v h => v = none ∧ h = mkS x S') := by
    unfold bfX11_readClause_130_42 at hm
    cases hm
    exact Ev.retv tokX11_readClause rfl rfl ⟨rfl, rfl⟩
set_option maxHeartbeats 4000000 in
set_option maxRecDepth 20000 in
theorem bpX11_readClause_130_29 (x : XT)  (S : ST)  (r : Unit) (S' : ST) (hm : bfX11_readClause_130_29 x  S  = some (r, S')) : Ev mX11_readClause 124 0 0 29 [some (.ref 130)] [] (mkS x S) (fun v h => v = none ∧ h = mkS x S') := by
    unfold bfX11_readClause_130_29 at hm
    refine Ev.steps tokX11_readClause 2 (P := True) (pc' := 31) (lv' := [some (.ref 130)]) (st' := [.int 4, .ref 130]) (h' := mkS x S) rfl trivial ?_
    cases h1 : gfX11_takes0_130 x S 4 with
    | none => rw [h1] at hm; cases hm
    | some q2 =>
      obtain ⟨r3, S4⟩ := q2
      rw [h1] at hm
      dsimp only at hm
      refine ev_callV (N := mX11_takes0) (d' := 2) (bc := 0) (bs := 0) (bc' := 0) (bs' := 0) (as := [.int 4]) (rest := []) (a := 130) (ci := 11) (dcd tokX11_readClause rfl) okX11_takes0 inX11_takes0 seX11_takes0 lk11_208 rfl (by decide) (Nat.le_of_ble_eq_true rfl) rfl ⟨by decide, rfl⟩ (gpX11_takes0_130 x S 4 _ _ h1) (fun v h' hq hn => ?_)
      obtain ⟨rfl, rfl⟩ := hq
      refine Ev.steps tokX11_readClause 1 (P := True) (pc' := if r3 = 0 then 42 else 37) (lv' := [some (.ref 130)]) (st' := []) (h' := mkS x S4) rfl trivial ?_
      refine Ev.ite (fun c5 => ?_) (fun c5 => ?_)
      · rw [if_pos c5] at hm
        refine Ev.fgt (lv' := [none]) trivial ?_
        exact bpX11_readClause_130_42 x S4 _ _ hm
      · rw [if_neg c5] at hm
        refine Ev.steps tokX11_readClause 2 (P := True) (pc' := 39) (lv' := [some (.ref 130)]) (st' := [.int 0, .ref 130]) (h' := mkS x S4) rfl trivial ?_
        cases h6 : gfX11_readTest_130 x S4 0 with
        | none => rw [h6] at hm; cases hm
        | some q7 =>
          obtain ⟨r8, S9⟩ := q7
          rw [h6] at hm
          dsimp only at hm
          refine ev_callV (N := mX11_readTest) (d' := 123) (bc := 0) (bs := 0) (bc' := 0) (bs' := 0) (as := [.int 0]) (rest := []) (a := 130) (ci := 11) (dcd tokX11_readClause rfl) okX11_readTest inX11_readTest seX11_readTest lk11_224 rfl (by decide) (Nat.le_of_ble_eq_true rfl) rfl ⟨by decide, rfl⟩ (gpX11_readTest_130 x S4 0 _ _ h6) (fun v h' hq hn => ?_)
          obtain ⟨rfl, rfl⟩ := hq
          refine Ev.fgt (lv' := [none]) trivial ?_
          exact bpX11_readClause_130_42 x S9 _ _ hm
set_option maxHeartbeats 4000000 in
set_option maxRecDepth 20000 in
theorem bpX11_readClause_130_16 (x : XT)  (S : ST)  (r : Unit) (S' : ST) (hm : bfX11_readClause_130_16 x  S  = some (r, S')) : Ev mX11_readClause 124 0 0 16 [some (.ref 130)] [] (mkS x S) (fun v h => v = none ∧ h = mkS x S') := by
    unfold bfX11_readClause_130_16 at hm
    refine Ev.steps tokX11_readClause 2 (P := True) (pc' := 18) (lv' := [some (.ref 130)]) (st' := [.int 0, .ref 130]) (h' := mkS x S) rfl trivial ?_
    cases h1 : gfX11_readSum_130 x S 0 with
    | none => rw [h1] at hm; cases hm
    | some q2 =>
      obtain ⟨r3, S4⟩ := q2
      rw [h1] at hm
      dsimp only at hm
      refine ev_callV (N := mX11_readSum) (d' := 63) (bc := 0) (bs := 0) (bc' := 0) (bs' := 0) (as := [.int 0]) (rest := []) (a := 130) (ci := 11) (dcd tokX11_readClause rfl) okX11_readSum inX11_readSum seX11_readSum lk11_217 rfl (by decide) (Nat.le_of_ble_eq_true rfl) rfl ⟨by decide, rfl⟩ (gpX11_readSum_130 x S 0 _ _ h1) (fun v h' hq hn => ?_)
      obtain ⟨rfl, rfl⟩ := hq
      refine Ev.steps tokX11_readClause 1 (P := True) (pc' := 29) (lv' := [some (.ref 130)]) (st' := []) (h' := mkS x S4) rfl trivial ?_
      exact bpX11_readClause_130_29 x S4 _ _ hm
set_option maxHeartbeats 4000000 in
set_option maxRecDepth 20000 in
theorem bpX11_readClause_130_0 (x : XT)  (S : ST)  (r : Unit) (S' : ST) (hm : bfX11_readClause_130_0 x  S  = some (r, S')) : Ev mX11_readClause 124 0 0 0 [some (.ref 130)] [] (mkS x S) (fun v h => v = none ∧ h = mkS x S') := by
    unfold bfX11_readClause_130_0 at hm
    refine Ev.steps tokX11_readClause 2 (P := True) (pc' := 2) (lv' := [some (.ref 130)]) (st' := [.int 1, .ref 130]) (h' := mkS x S) rfl trivial ?_
    cases h1 : gfX11_takes0_130 x S 1 with
    | none => rw [h1] at hm; cases hm
    | some q2 =>
      obtain ⟨r3, S4⟩ := q2
      rw [h1] at hm
      dsimp only at hm
      refine ev_callV (N := mX11_takes0) (d' := 2) (bc := 0) (bs := 0) (bc' := 0) (bs' := 0) (as := [.int 1]) (rest := []) (a := 130) (ci := 11) (dcd tokX11_readClause rfl) okX11_takes0 inX11_takes0 seX11_takes0 lk11_208 rfl (by decide) (Nat.le_of_ble_eq_true rfl) rfl ⟨by decide, rfl⟩ (gpX11_takes0_130 x S 1 _ _ h1) (fun v h' hq hn => ?_)
      obtain ⟨rfl, rfl⟩ := hq
      refine Ev.steps tokX11_readClause 1 (P := True) (pc' := if ¬ r3 = 0 then 16 else 8) (lv' := [some (.ref 130)]) (st' := []) (h' := mkS x S4) rfl trivial ?_
      refine Ev.ite (fun c5 => ?_) (fun c5 => ?_)
      · rw [if_pos c5] at hm
        exact bpX11_readClause_130_16 x S4 _ _ hm
      · rw [if_neg c5] at hm
        refine Ev.steps tokX11_readClause 2 (P := True) (pc' := 10) (lv' := [some (.ref 130)]) (st' := [.int 2, .ref 130]) (h' := mkS x S4) rfl trivial ?_
        cases h6 : gfX11_takes0_130 x S4 2 with
        | none => rw [h6] at hm; cases hm
        | some q7 =>
          obtain ⟨r8, S9⟩ := q7
          rw [h6] at hm
          dsimp only at hm
          refine ev_callV (N := mX11_takes0) (d' := 2) (bc := 0) (bs := 0) (bc' := 0) (bs' := 0) (as := [.int 2]) (rest := []) (a := 130) (ci := 11) (dcd tokX11_readClause rfl) okX11_takes0 inX11_takes0 seX11_takes0 lk11_208 rfl (by decide) (Nat.le_of_ble_eq_true rfl) rfl ⟨by decide, rfl⟩ (gpX11_takes0_130 x S4 2 _ _ h6) (fun v h' hq hn => ?_)
          obtain ⟨rfl, rfl⟩ := hq
          refine Ev.steps tokX11_readClause 1 (P := True) (pc' := if r8 = 0 then 24 else 16) (lv' := [some (.ref 130)]) (st' := []) (h' := mkS x S9) rfl trivial ?_
          refine Ev.ite (fun c10 => ?_) (fun c10 => ?_)
          · rw [if_pos c10] at hm
            refine Ev.steps tokX11_readClause 2 (P := True) (pc' := 26) (lv' := [some (.ref 130)]) (st' := [.int 3, .ref 130]) (h' := mkS x S9) rfl trivial ?_
            cases h11 : gfX11_must_130 x S9 3 with
            | none => rw [h11] at hm; cases hm
            | some q12 =>
              obtain ⟨r13, S14⟩ := q12
              rw [h11] at hm
              dsimp only at hm
              refine ev_callV (N := mX11_must) (d' := 3) (bc := 0) (bs := 0) (bc' := 0) (bs' := 0) (as := [.int 3]) (rest := []) (a := 130) (ci := 11) (dcd tokX11_readClause rfl) okX11_must inX11_must seX11_must lk11_221 rfl (by decide) (Nat.le_of_ble_eq_true rfl) rfl ⟨by decide, rfl⟩ (gpX11_must_130 x S9 3 _ _ h11) (fun v h' hq hn => ?_)
              obtain ⟨rfl, rfl⟩ := hq
              exact bpX11_readClause_130_29 x S14 _ _ hm
          · rw [if_neg c10] at hm
            exact bpX11_readClause_130_16 x S9 _ _ hm
theorem gpX11_readClause_130 (x : XT) (S : ST)  (r : Unit) (S' : ST) (hm : gfX11_readClause_130 x S  = some (r, S')) : Ct mX11_readClause 124 0 0 [.ref 130] (mkS x S) (fun v h => v = none ∧ h = mkS x S') :=
  Ct.of (lv := [some (.ref 130)]) rfl rfl rfl (show (_ : Nat) ≤ _ from Nat.le_of_ble_eq_true rfl) (fun G => rfl) (bpX11_readClause_130_0 x S  r S' hm)
set_option maxHeartbeats 4000000 in
set_option maxRecDepth 20000 in
theorem bpX11_readTwo_130_0 (x : XT)  (S : ST) (p1 : Int32) (r : Unit) (S' : ST) (hm : bfX11_readTwo_130_0 x  S p1 = some (r, S')) : Ev mX11_readTwo 64 0 0 0 [some (.ref 130), some (.int p1)] [] (mkS x S) (fun v h => v = none ∧ h = mkS x S') := by
    unfold bfX11_readTwo_130_0 at hm
    refine Ev.steps tokX11_readTwo 2 (P := True) (pc' := 2) (lv' := [some (.ref 130), some (.int p1)]) (st' := [.int 0, .ref 130]) (h' := mkS x S) rfl trivial ?_
    cases h1 : gfX11_readSum_130 x S 0 with
    | none => rw [h1] at hm; cases hm
    | some q2 =>
      obtain ⟨r3, S4⟩ := q2
      rw [h1] at hm
      dsimp only at hm
      refine ev_callV (N := mX11_readSum) (d' := 63) (bc := 0) (bs := 0) (bc' := 0) (bs' := 0) (as := [.int 0]) (rest := []) (a := 130) (ci := 11) (dcd tokX11_readTwo rfl) okX11_readSum inX11_readSum seX11_readSum lk11_217 rfl (by decide) (Nat.le_of_ble_eq_true rfl) rfl ⟨by decide, rfl⟩ (gpX11_readSum_130 x S 0 _ _ h1) (fun v h' hq hn => ?_)
      obtain ⟨rfl, rfl⟩ := hq
      refine Ev.steps tokX11_readTwo 2 (P := True) (pc' := 7) (lv' := [some (.ref 130), some (.int p1)]) (st' := [.int p1, .ref 130]) (h' := mkS x S4) rfl trivial ?_
      cases h5 : gfX11_must_130 x S4 p1 with
      | none => rw [h5] at hm; cases hm
      | some q6 =>
        obtain ⟨r7, S8⟩ := q6
        rw [h5] at hm
        dsimp only at hm
        refine ev_callV (N := mX11_must) (d' := 3) (bc := 0) (bs := 0) (bc' := 0) (bs' := 0) (as := [.int p1]) (rest := []) (a := 130) (ci := 11) (dcd tokX11_readTwo rfl) okX11_must inX11_must seX11_must lk11_221 rfl (by decide) (Nat.le_of_ble_eq_true rfl) rfl ⟨by decide, rfl⟩ (gpX11_must_130 x S4 p1 _ _ h5) (fun v h' hq hn => ?_)
        obtain ⟨rfl, rfl⟩ := hq
        refine Ev.steps tokX11_readTwo 2 (P := True) (pc' := 12) (lv' := [some (.ref 130), some (.int p1)]) (st' := [.int 0, .ref 130]) (h' := mkS x S8) rfl trivial ?_
        cases h9 : gfX11_readSum_130 x S8 0 with
        | none => rw [h9] at hm; cases hm
        | some q10 =>
          obtain ⟨r11, S12⟩ := q10
          rw [h9] at hm
          dsimp only at hm
          refine ev_callV (N := mX11_readSum) (d' := 63) (bc := 0) (bs := 0) (bc' := 0) (bs' := 0) (as := [.int 0]) (rest := []) (a := 130) (ci := 11) (dcd tokX11_readTwo rfl) okX11_readSum inX11_readSum seX11_readSum lk11_217 rfl (by decide) (Nat.le_of_ble_eq_true rfl) rfl ⟨by decide, rfl⟩ (gpX11_readSum_130 x S8 0 _ _ h9) (fun v h' hq hn => ?_)
          obtain ⟨rfl, rfl⟩ := hq
          cases hm
          exact Ev.retv tokX11_readTwo rfl rfl ⟨rfl, rfl⟩
theorem gpX11_readTwo_130 (x : XT) (S : ST) (p1 : Int32) (r : Unit) (S' : ST) (hm : gfX11_readTwo_130 x S p1 = some (r, S')) : Ct mX11_readTwo 64 0 0 [.ref 130, .int p1] (mkS x S) (fun v h => v = none ∧ h = mkS x S') :=
  Ct.of (lv := [some (.ref 130), some (.int p1)]) rfl rfl rfl (show (_ : Nat) ≤ _ from Nat.le_of_ble_eq_true rfl) (fun G => rfl) (bpX11_readTwo_130_0 x S p1 r S' hm)
set_option maxHeartbeats 4000000 in
set_option maxRecDepth 20000 in
theorem bpX11_readOrder_130_88 (x : XT)  (S : ST)  (r : Unit) (S' : ST) (hm : bfX11_readOrder_130_88 x  S  = some (r, S')) : Ev mX11_readOrder 124 0 0 88 [none] [] (mkS x S) (fun v h => v = none ∧ h = mkS x S') := by
    unfold bfX11_readOrder_130_88 at hm
    cases hm
    exact Ev.retv tokX11_readOrder rfl rfl ⟨rfl, rfl⟩
set_option maxHeartbeats 4000000 in
set_option maxRecDepth 20000 in
theorem bpX11_readOrder_130_75 (x : XT)  (S : ST)  (r : Unit) (S' : ST) (hm : bfX11_readOrder_130_75 x  S  = some (r, S')) : Ev mX11_readOrder 124 0 0 75 [some (.ref 130)] [] (mkS x S) (fun v h => v = none ∧ h = mkS x S') := by
    unfold bfX11_readOrder_130_75 at hm
    refine Ev.steps tokX11_readOrder 2 (P := True) (pc' := 77) (lv' := [some (.ref 130)]) (st' := [.int 4, .ref 130]) (h' := mkS x S) rfl trivial ?_
    cases h1 : gfX11_takes0_130 x S 4 with
    | none => rw [h1] at hm; cases hm
    | some q2 =>
      obtain ⟨r3, S4⟩ := q2
      rw [h1] at hm
      dsimp only at hm
      refine ev_callV (N := mX11_takes0) (d' := 2) (bc := 0) (bs := 0) (bc' := 0) (bs' := 0) (as := [.int 4]) (rest := []) (a := 130) (ci := 11) (dcd tokX11_readOrder rfl) okX11_takes0 inX11_takes0 seX11_takes0 lk11_208 rfl (by decide) (Nat.le_of_ble_eq_true rfl) rfl ⟨by decide, rfl⟩ (gpX11_takes0_130 x S 4 _ _ h1) (fun v h' hq hn => ?_)
      obtain ⟨rfl, rfl⟩ := hq
      refine Ev.steps tokX11_readOrder 1 (P := True) (pc' := if r3 = 0 then 88 else 83) (lv' := [some (.ref 130)]) (st' := []) (h' := mkS x S4) rfl trivial ?_
      refine Ev.ite (fun c5 => ?_) (fun c5 => ?_)
      · rw [if_pos c5] at hm
        refine Ev.fgt (lv' := [none]) trivial ?_
        exact bpX11_readOrder_130_88 x S4 _ _ hm
      · rw [if_neg c5] at hm
        refine Ev.steps tokX11_readOrder 2 (P := True) (pc' := 85) (lv' := [some (.ref 130)]) (st' := [.int 0, .ref 130]) (h' := mkS x S4) rfl trivial ?_
        cases h6 : gfX11_readTest_130 x S4 0 with
        | none => rw [h6] at hm; cases hm
        | some q7 =>
          obtain ⟨r8, S9⟩ := q7
          rw [h6] at hm
          dsimp only at hm
          refine ev_callV (N := mX11_readTest) (d' := 123) (bc := 0) (bs := 0) (bc' := 0) (bs' := 0) (as := [.int 0]) (rest := []) (a := 130) (ci := 11) (dcd tokX11_readOrder rfl) okX11_readTest inX11_readTest seX11_readTest lk11_224 rfl (by decide) (Nat.le_of_ble_eq_true rfl) rfl ⟨by decide, rfl⟩ (gpX11_readTest_130 x S4 0 _ _ h6) (fun v h' hq hn => ?_)
          obtain ⟨rfl, rfl⟩ := hq
          refine Ev.fgt (lv' := [none]) trivial ?_
          exact bpX11_readOrder_130_88 x S9 _ _ hm
set_option maxHeartbeats 4000000 in
set_option maxRecDepth 20000 in
theorem bpX11_readOrder_130_59 (x : XT)  (S : ST)  (r : Unit) (S' : ST) (hm : bfX11_readOrder_130_59 x  S  = some (r, S')) : Ev mX11_readOrder 124 0 0 59 [some (.ref 130)] [] (mkS x S) (fun v h => v = none ∧ h = mkS x S') := by
    unfold bfX11_readOrder_130_59 at hm
    refine Ev.steps tokX11_readOrder 2 (P := True) (pc' := 62) (lv' := [some (.ref 130)]) (st' := [.int 26, .ref 130]) (h' := mkS x S) rfl trivial ?_
    cases h1 : gfX11_takes0_130 x S 26 with
    | none => rw [h1] at hm; cases hm
    | some q2 =>
      obtain ⟨r3, S4⟩ := q2
      rw [h1] at hm
      dsimp only at hm
      refine ev_callV (N := mX11_takes0) (d' := 2) (bc := 0) (bs := 0) (bc' := 0) (bs' := 0) (as := [.int 26]) (rest := []) (a := 130) (ci := 11) (dcd tokX11_readOrder rfl) okX11_takes0 inX11_takes0 seX11_takes0 lk11_208 rfl (by decide) (Nat.le_of_ble_eq_true rfl) rfl ⟨by decide, rfl⟩ (gpX11_takes0_130 x S 26 _ _ h1) (fun v h' hq hn => ?_)
      obtain ⟨rfl, rfl⟩ := hq
      refine Ev.steps tokX11_readOrder 1 (P := True) (pc' := if r3 = 0 then 75 else 68) (lv' := [some (.ref 130)]) (st' := []) (h' := mkS x S4) rfl trivial ?_
      refine Ev.ite (fun c5 => ?_) (fun c5 => ?_)
      · rw [if_pos c5] at hm
        exact bpX11_readOrder_130_75 x S4 _ _ hm
      · rw [if_neg c5] at hm
        refine Ev.steps tokX11_readOrder 3 (P := True) (pc' := 72) (lv' := [some (.ref 130)]) (st' := [.int 20, .int 1, .ref 130]) (h' := mkS x S4) rfl trivial ?_
        cases h6 : gfX11_mustNumber_130 x S4 1 20 with
        | none => rw [h6] at hm; cases hm
        | some q7 =>
          obtain ⟨r8, S9⟩ := q7
          rw [h6] at hm
          dsimp only at hm
          refine ev_callV (N := mX11_mustNumber) (d' := 3) (bc := 0) (bs := 0) (bc' := 0) (bs' := 0) (as := [.int 1, .int 20]) (rest := []) (a := 130) (ci := 11) (dcd tokX11_readOrder rfl) okX11_mustNumber inX11_mustNumber seX11_mustNumber lk11_230 rfl (by decide) (Nat.le_of_ble_eq_true rfl) rfl ⟨by decide, rfl⟩ (gpX11_mustNumber_130 x S4 1 20 _ _ h6) (fun v h' hq hn => ?_)
          obtain ⟨rfl, rfl⟩ := hq
          exact bpX11_readOrder_130_75 x S9 _ _ hm
set_option maxHeartbeats 4000000 in
set_option maxRecDepth 20000 in
theorem bpX11_readOrder_130_0 (x : XT)  (S : ST)  (r : Unit) (S' : ST) (hm : bfX11_readOrder_130_0 x  S  = some (r, S')) : Ev mX11_readOrder 124 0 0 0 [some (.ref 130)] [] (mkS x S) (fun v h => v = none ∧ h = mkS x S') := by
    unfold bfX11_readOrder_130_0 at hm
    refine Ev.steps tokX11_readOrder 2 (P := True) (pc' := 3) (lv' := [some (.ref 130)]) (st' := [.int 20, .ref 130]) (h' := mkS x S) rfl trivial ?_
    cases h1 : gfX11_takes0_130 x S 20 with
    | none => rw [h1] at hm; cases hm
    | some q2 =>
      obtain ⟨r3, S4⟩ := q2
      rw [h1] at hm
      dsimp only at hm
      refine ev_callV (N := mX11_takes0) (d' := 2) (bc := 0) (bs := 0) (bc' := 0) (bs' := 0) (as := [.int 20]) (rest := []) (a := 130) (ci := 11) (dcd tokX11_readOrder rfl) okX11_takes0 inX11_takes0 seX11_takes0 lk11_208 rfl (by decide) (Nat.le_of_ble_eq_true rfl) rfl ⟨by decide, rfl⟩ (gpX11_takes0_130 x S 20 _ _ h1) (fun v h' hq hn => ?_)
      obtain ⟨rfl, rfl⟩ := hq
      refine Ev.steps tokX11_readOrder 1 (P := True) (pc' := if r3 = 0 then 18 else 9) (lv' := [some (.ref 130)]) (st' := []) (h' := mkS x S4) rfl trivial ?_
      refine Ev.ite (fun c5 => ?_) (fun c5 => ?_)
      · rw [if_pos c5] at hm
        refine Ev.steps tokX11_readOrder 2 (P := True) (pc' := 21) (lv' := [some (.ref 130)]) (st' := [.int 23, .ref 130]) (h' := mkS x S4) rfl trivial ?_
        cases h6 : gfX11_takes0_130 x S4 23 with
        | none => rw [h6] at hm; cases hm
        | some q7 =>
          obtain ⟨r8, S9⟩ := q7
          rw [h6] at hm
          dsimp only at hm
          refine ev_callV (N := mX11_takes0) (d' := 2) (bc := 0) (bs := 0) (bc' := 0) (bs' := 0) (as := [.int 23]) (rest := []) (a := 130) (ci := 11) (dcd tokX11_readOrder rfl) okX11_takes0 inX11_takes0 seX11_takes0 lk11_208 rfl (by decide) (Nat.le_of_ble_eq_true rfl) rfl ⟨by decide, rfl⟩ (gpX11_takes0_130 x S4 23 _ _ h6) (fun v h' hq hn => ?_)
          obtain ⟨rfl, rfl⟩ := hq
          refine Ev.steps tokX11_readOrder 1 (P := True) (pc' := if r8 = 0 then 36 else 27) (lv' := [some (.ref 130)]) (st' := []) (h' := mkS x S9) rfl trivial ?_
          refine Ev.ite (fun c10 => ?_) (fun c10 => ?_)
          · rw [if_pos c10] at hm
            refine Ev.steps tokX11_readOrder 2 (P := True) (pc' := 39) (lv' := [some (.ref 130)]) (st' := [.int 22, .ref 130]) (h' := mkS x S9) rfl trivial ?_
            cases h11 : gfX11_takes0_130 x S9 22 with
            | none => rw [h11] at hm; cases hm
            | some q12 =>
              obtain ⟨r13, S14⟩ := q12
              rw [h11] at hm
              dsimp only at hm
              refine ev_callV (N := mX11_takes0) (d' := 2) (bc := 0) (bs := 0) (bc' := 0) (bs' := 0) (as := [.int 22]) (rest := []) (a := 130) (ci := 11) (dcd tokX11_readOrder rfl) okX11_takes0 inX11_takes0 seX11_takes0 lk11_208 rfl (by decide) (Nat.le_of_ble_eq_true rfl) rfl ⟨by decide, rfl⟩ (gpX11_takes0_130 x S9 22 _ _ h11) (fun v h' hq hn => ?_)
              obtain ⟨rfl, rfl⟩ := hq
              refine Ev.steps tokX11_readOrder 1 (P := True) (pc' := if r13 = 0 then 53 else 45) (lv' := [some (.ref 130)]) (st' := []) (h' := mkS x S14) rfl trivial ?_
              refine Ev.ite (fun c15 => ?_) (fun c15 => ?_)
              · rw [if_pos c15] at hm
                refine Ev.steps tokX11_readOrder 2 (P := True) (pc' := 56) (lv' := [some (.ref 130)]) (st' := [.int 25, .ref 130]) (h' := mkS x S14) rfl trivial ?_
                cases h16 : gfX11_must_130 x S14 25 with
                | none => rw [h16] at hm; cases hm
                | some q17 =>
                  obtain ⟨r18, S19⟩ := q17
                  rw [h16] at hm
                  dsimp only at hm
                  refine ev_callV (N := mX11_must) (d' := 3) (bc := 0) (bs := 0) (bc' := 0) (bs' := 0) (as := [.int 25]) (rest := []) (a := 130) (ci := 11) (dcd tokX11_readOrder rfl) okX11_must inX11_must seX11_must lk11_221 rfl (by decide) (Nat.le_of_ble_eq_true rfl) rfl ⟨by decide, rfl⟩ (gpX11_must_130 x S14 25 _ _ h16) (fun v h' hq hn => ?_)
                  obtain ⟨rfl, rfl⟩ := hq
                  exact bpX11_readOrder_130_59 x S19 _ _ hm
              · rw [if_neg c15] at hm
                refine Ev.steps tokX11_readOrder 2 (P := True) (pc' := 47) (lv' := [some (.ref 130)]) (st' := [.int 0, .ref 130]) (h' := mkS x S14) rfl trivial ?_
                cases h20 : gfX11_readSum_130 x S14 0 with
                | none => rw [h20] at hm; cases hm
                | some q21 =>
                  obtain ⟨r22, S23⟩ := q21
                  rw [h20] at hm
                  dsimp only at hm
                  refine ev_callV (N := mX11_readSum) (d' := 63) (bc := 0) (bs := 0) (bc' := 0) (bs' := 0) (as := [.int 0]) (rest := []) (a := 130) (ci := 11) (dcd tokX11_readOrder rfl) okX11_readSum inX11_readSum seX11_readSum lk11_217 rfl (by decide) (Nat.le_of_ble_eq_true rfl) rfl ⟨by decide, rfl⟩ (gpX11_readSum_130 x S14 0 _ _ h20) (fun v h' hq hn => ?_)
                  obtain ⟨rfl, rfl⟩ := hq
                  refine Ev.steps tokX11_readOrder 1 (P := True) (pc' := 59) (lv' := [some (.ref 130)]) (st' := []) (h' := mkS x S23) rfl trivial ?_
                  exact bpX11_readOrder_130_59 x S23 _ _ hm
          · rw [if_neg c10] at hm
            refine Ev.steps tokX11_readOrder 2 (P := True) (pc' := 30) (lv' := [some (.ref 130)]) (st' := [.int 24, .ref 130]) (h' := mkS x S9) rfl trivial ?_
            cases h24 : gfX11_readTwo_130 x S9 24 with
            | none => rw [h24] at hm; cases hm
            | some q25 =>
              obtain ⟨r26, S27⟩ := q25
              rw [h24] at hm
              dsimp only at hm
              refine ev_callV (N := mX11_readTwo) (d' := 64) (bc := 0) (bs := 0) (bc' := 0) (bs' := 0) (as := [.int 24]) (rest := []) (a := 130) (ci := 11) (dcd tokX11_readOrder rfl) okX11_readTwo inX11_readTwo seX11_readTwo lk11_227 rfl (by decide) (Nat.le_of_ble_eq_true rfl) rfl ⟨by decide, rfl⟩ (gpX11_readTwo_130 x S9 24 _ _ h24) (fun v h' hq hn => ?_)
              obtain ⟨rfl, rfl⟩ := hq
              refine Ev.steps tokX11_readOrder 1 (P := True) (pc' := 59) (lv' := [some (.ref 130)]) (st' := []) (h' := mkS x S27) rfl trivial ?_
              exact bpX11_readOrder_130_59 x S27 _ _ hm
      · rw [if_neg c5] at hm
        refine Ev.steps tokX11_readOrder 2 (P := True) (pc' := 12) (lv' := [some (.ref 130)]) (st' := [.int 21, .ref 130]) (h' := mkS x S4) rfl trivial ?_
        cases h28 : gfX11_readTwo_130 x S4 21 with
        | none => rw [h28] at hm; cases hm
        | some q29 =>
          obtain ⟨r30, S31⟩ := q29
          rw [h28] at hm
          dsimp only at hm
          refine ev_callV (N := mX11_readTwo) (d' := 64) (bc := 0) (bs := 0) (bc' := 0) (bs' := 0) (as := [.int 21]) (rest := []) (a := 130) (ci := 11) (dcd tokX11_readOrder rfl) okX11_readTwo inX11_readTwo seX11_readTwo lk11_227 rfl (by decide) (Nat.le_of_ble_eq_true rfl) rfl ⟨by decide, rfl⟩ (gpX11_readTwo_130 x S4 21 _ _ h28) (fun v h' hq hn => ?_)
          obtain ⟨rfl, rfl⟩ := hq
          refine Ev.steps tokX11_readOrder 1 (P := True) (pc' := 59) (lv' := [some (.ref 130)]) (st' := []) (h' := mkS x S31) rfl trivial ?_
          exact bpX11_readOrder_130_59 x S31 _ _ hm
theorem gpX11_readOrder_130 (x : XT) (S : ST)  (r : Unit) (S' : ST) (hm : gfX11_readOrder_130 x S  = some (r, S')) : Ct mX11_readOrder 124 0 0 [.ref 130] (mkS x S) (fun v h => v = none ∧ h = mkS x S') :=
  Ct.of (lv := [some (.ref 130)]) rfl rfl rfl (show (_ : Nat) ≤ _ from Nat.le_of_ble_eq_true rfl) (fun G => rfl) (bpX11_readOrder_130_0 x S  r S' hm)
end MIR
