section MIR
set_option maxHeartbeats 4000000 in
set_option maxRecDepth 20000 in
theorem bpX11_canBeKind_130_76 (x : XT)  (S : ST) (v2 : Int32) (r : Int32) (S' : ST) (hm : bfX11_canBeKind_130_76 x  S v2 = some (r, S')) : Ev mX11_canBeKind 127 0 0 76 [none, none, some (.int v2), none] [] (mkS x S) (fun v h => v = some (.int r) ∧ h = mkS x S') := by
    unfold bfX11_canBeKind_130_76 at hm
    refine Ev.steps tokX11_canBeKind 1 (P := True) (pc' := 77) (lv' := [none, none, some (.int v2), none]) (st' := [.int v2]) (h' := mkS x S) rfl trivial ?_
    obtain ⟨o1, hm⟩ := oblk hm
    cases hm
    exact Ev.retz tokX11_canBeKind rfl rfl (bbz_ok o1) ⟨rfl, rfl⟩
set_option maxHeartbeats 4000000 in
set_option maxRecDepth 20000 in
theorem bpX11_canBeKind_130_69 (x : XT) (k4 : ST → Int32 → Int32 → Int32 → Option (Int32 × ST)) (hk4 : ∀ (S : ST) (v1 : Int32) (v2 : Int32) (v3 : Int32) (r : Int32) (S' : ST), k4 S v1 v2 v3 = some (r, S') → Ev mX11_canBeKind 127 0 0 4 [some (.ref 130), some (.int v1), some (.int v2), some (.int v3)] [] (mkS x S) (fun v h => v = some (.int r) ∧ h = mkS x S')) (S : ST) (v1 : Int32) (v3 : Int32) (t0 : Int32) (r : Int32) (S' : ST) (hm : bfX11_canBeKind_130_69 x k4 S v1 v3 t0 = some (r, S')) : Ev mX11_canBeKind 127 0 0 69 [some (.ref 130), some (.int v1), none, some (.int v3)] [.int t0] (mkS x S) (fun v h => v = some (.int r) ∧ h = mkS x S') := by
    unfold bfX11_canBeKind_130_69 at hm
    refine Ev.steps tokX11_canBeKind 3 (P := True) (pc' := 4) (lv' := [some (.ref 130), some (.int v1), some (.int t0), some (.int (v3 + 1))]) (st' := []) (h' := mkS x S) rfl trivial ?_
    exact hk4 S v1 t0 (v3 + 1) _ _ hm
set_option maxHeartbeats 4000000 in
set_option maxRecDepth 20000 in
theorem bpX11_canBeKind_130_4 (x : XT) (k4 : ST → Int32 → Int32 → Int32 → Option (Int32 × ST)) (hk4 : ∀ (S : ST) (v1 : Int32) (v2 : Int32) (v3 : Int32) (r : Int32) (S' : ST), k4 S v1 v2 v3 = some (r, S') → Ev mX11_canBeKind 127 0 0 4 [some (.ref 130), some (.int v1), some (.int v2), some (.int v3)] [] (mkS x S) (fun v h => v = some (.int r) ∧ h = mkS x S')) (S : ST) (v1 : Int32) (v2 : Int32) (v3 : Int32) (r : Int32) (S' : ST) (hm : bfX11_canBeKind_130_4 x k4 S v1 v2 v3 = some (r, S')) : Ev mX11_canBeKind 127 0 0 4 [some (.ref 130), some (.int v1), some (.int v2), some (.int v3)] [] (mkS x S) (fun v h => v = some (.int r) ∧ h = mkS x S') := by
    unfold bfX11_canBeKind_130_4 at hm
    refine Ev.steps tokX11_canBeKind 6 (P := vp_in 93 5703 ∧ True) (pc' := if (S.2.1 132 93) ≤ v3 then 76 else 15) (lv' := [some (.ref 130), some (.int v1), some (.int v2), some (.int v3)]) (st' := []) (h' := mkS x S) rfl ⟨(by unfold vp_in; decide), trivial⟩ ?_
    refine Ev.ite (fun c1 => ?_) (fun c1 => ?_)
    · rw [if_pos c1] at hm
      refine Ev.fgt (lv' := [none, none, some (.int v2), none]) ⟨rfl, trivial⟩ ?_
      exact bpX11_canBeKind_130_76 x S v2 _ _ hm
    · rw [if_neg c1] at hm
      refine Ev.steps tokX11_canBeKind 2 (P := True) (pc' := if v2 = 0 then 76 else 19) (lv' := [some (.ref 130), some (.int v1), some (.int v2), some (.int v3)]) (st' := []) (h' := mkS x S) rfl trivial ?_
      refine Ev.ite (fun c2 => ?_) (fun c2 => ?_)
      · rw [if_pos c2] at hm
        refine Ev.fgt (lv' := [none, none, some (.int v2), none]) ⟨rfl, trivial⟩ ?_
        exact bpX11_canBeKind_130_76 x S v2 _ _ hm
      · rw [if_neg c2] at hm
        obtain ⟨o3, hm⟩ := oblk hm
        obtain ⟨o4, hm⟩ := oblk hm
        refine Ev.steps tokX11_canBeKind 20 (P := vp_in (71 + (3 * v3)) 5703 ∧ vp_in ((71 + (3 * v3)) + 1) 5703 ∧ True) (pc' := 45) (lv' := [some (.ref 130), some (.int v1), some (.int v2), some (.int v3)]) (st' := [.int (S.2.1 132 (((71 + (3 * v3)) + 1).toNatClampNeg)), .int (S.2.1 132 ((71 + (3 * v3)).toNatClampNeg)), .int v1, .ref 130]) (h' := mkS x S) rfl ⟨inb_ok o3, inb_ok o4, trivial⟩ ?_
        cases h5 : gfX11_outOf_130 x S v1 (S.2.1 132 ((71 + (3 * v3)).toNatClampNeg)) (S.2.1 132 (((71 + (3 * v3)) + 1).toNatClampNeg)) with
        | none => rw [h5] at hm; cases hm
        | some q6 =>
          obtain ⟨r7, S8⟩ := q6
          rw [h5] at hm
          dsimp only at hm
          refine ev_callV (N := mX11_outOf) (d' := 126) (bc := 0) (bs := 0) (bc' := 0) (bs' := 0) (as := [.int v1, .int (S.2.1 132 ((71 + (3 * v3)).toNatClampNeg)), .int (S.2.1 132 (((71 + (3 * v3)) + 1).toNatClampNeg))]) (rest := []) (a := 130) (ci := 11) (dcd tokX11_canBeKind rfl) okX11_outOf inX11_outOf seX11_outOf lk11_446 rfl (by decide) (Nat.le_of_ble_eq_true rfl) rfl ⟨by decide, rfl⟩ (gpX11_outOf_130 x S v1 (S.2.1 132 ((71 + (3 * v3)).toNatClampNeg)) (S.2.1 132 (((71 + (3 * v3)) + 1).toNatClampNeg)) _ _ h5) (fun v h' hq hn => ?_)
          obtain ⟨rfl, rfl⟩ := hq
          obtain ⟨o9, hm⟩ := oblk hm
          refine Ev.steps tokX11_canBeKind 11 (P := vp_in ((71 + (3 * v3)) + 2) 5703 ∧ True) (pc' := if ¬ r7 = (S8.2.1 132 (((71 + (3 * v3)) + 2).toNatClampNeg)) then 68 else 64) (lv' := [some (.ref 130), some (.int v1), some (.int v2), some (.int v3)]) (st' := []) (h' := mkS x S8) rfl ⟨inb_ok o9, trivial⟩ ?_
          refine Ev.ite (fun c10 => ?_) (fun c10 => ?_)
          · rw [if_pos c10] at hm
            refine Ev.steps tokX11_canBeKind 1 (P := True) (pc' := 69) (lv' := [some (.ref 130), some (.int v1), some (.int v2), some (.int v3)]) (st' := [.int 0]) (h' := mkS x S8) rfl trivial ?_
            refine Ev.fgt (lv' := [some (.ref 130), some (.int v1), none, some (.int v3)]) ⟨rfl, rfl, rfl, trivial⟩ ?_
            exact bpX11_canBeKind_130_69 x k4 hk4 S8 v1 v3 0 _ _ hm
          · rw [if_neg c10] at hm
            refine Ev.steps tokX11_canBeKind 2 (P := True) (pc' := 69) (lv' := [some (.ref 130), some (.int v1), some (.int v2), some (.int v3)]) (st' := [.int 1]) (h' := mkS x S8) rfl trivial ?_
            refine Ev.fgt (lv' := [some (.ref 130), some (.int v1), none, some (.int v3)]) ⟨rfl, rfl, rfl, trivial⟩ ?_
            exact bpX11_canBeKind_130_69 x k4 hk4 S8 v1 v3 1 _ _ hm
theorem lpX11_canBeKind_130_4 (x : XT)  : ∀ (n : Nat) (S : ST) (v1 : Int32) (v2 : Int32) (v3 : Int32) (r : Int32) (S' : ST), lfX11_canBeKind_130_4 x  n S v1 v2 v3 = some (r, S') → Ev mX11_canBeKind 127 0 0 4 [some (.ref 130), some (.int v1), some (.int v2), some (.int v3)] [] (mkS x S) (fun v h => v = some (.int r) ∧ h = mkS x S')
  | 0, _, _, _, _, _, _, hm => by cases hm
  | n + 1, S, v1, v2, v3, r, S', hm => bpX11_canBeKind_130_4 x (lfX11_canBeKind_130_4 x  n) (lpX11_canBeKind_130_4 x  n) S v1 v2 v3 r S' hm
set_option maxHeartbeats 4000000 in
set_option maxRecDepth 20000 in
theorem bpX11_canBeKind_130_0 (x : XT)  (S : ST) (p1 : Int32) (r : Int32) (S' : ST) (hm : bfX11_canBeKind_130_0 x  S p1 = some (r, S')) : Ev mX11_canBeKind 127 0 0 0 [some (.ref 130), some (.int p1), none, none] [] (mkS x S) (fun v h => v = some (.int r) ∧ h = mkS x S') := by
    unfold bfX11_canBeKind_130_0 at hm
    refine Ev.steps tokX11_canBeKind 4 (P := True) (pc' := 4) (lv' := [some (.ref 130), some (.int p1), some (.int 1), some (.int 0)]) (st' := []) (h' := mkS x S) rfl trivial ?_
    exact lpX11_canBeKind_130_4 x  20000 S p1 1 0 _ _ hm
theorem gpX11_canBeKind_130 (x : XT) (S : ST) (p1 : Int32) (r : Int32) (S' : ST) (hm : gfX11_canBeKind_130 x S p1 = some (r, S')) : Ct mX11_canBeKind 127 0 0 [.ref 130, .int p1] (mkS x S) (fun v h => v = some (.int r) ∧ h = mkS x S') :=
  Ct.of (lv := [some (.ref 130), some (.int p1), none, none]) rfl rfl rfl (show (_ : Nat) ≤ _ from Nat.le_of_ble_eq_true rfl) (fun G => rfl) (bpX11_canBeKind_130_0 x S p1 r S' hm)
set_option maxHeartbeats 4000000 in
set_option maxRecDepth 20000 in
theorem bpX11_kinds_130_26 (x : XT) (k4 : ST → Int32 → Int32 → Option (Int32 × ST)) (hk4 : ∀ (S : ST) (v1 : Int32) (v2 : Int32) (r : Int32) (S' : ST), k4 S v1 v2 = some (r, S') → Ev mX11_kinds 128 0 0 4 [some (.ref 130), some (.int v1), some (.int v2)] [] (mkS x S) (fun v h => v = some (.int r) ∧ h = mkS x S')) (S : ST) (v2 : Int32) (t0 : Int32) (t1 : Int32) (r : Int32) (S' : ST) (hm : bfX11_kinds_130_26 x k4 S v2 t0 t1 = some (r, S')) : Ev mX11_kinds 128 0 0 26 [some (.ref 130), none, some (.int v2)] [.int t1, .int t0] (mkS x S) (fun v h => v = some (.int r) ∧ h = mkS x S') := by
    unfold bfX11_kinds_130_26 at hm
    refine Ev.steps tokX11_kinds 4 (P := True) (pc' := 4) (lv' := [some (.ref 130), some (.int (t0 ||| t1)), some (.int (v2 + 1))]) (st' := []) (h' := mkS x S) rfl trivial ?_
    exact hk4 S (t0 ||| t1) (v2 + 1) _ _ hm
set_option maxHeartbeats 4000000 in
set_option maxRecDepth 20000 in
theorem bpX11_kinds_130_4 (x : XT) (k4 : ST → Int32 → Int32 → Option (Int32 × ST)) (hk4 : ∀ (S : ST) (v1 : Int32) (v2 : Int32) (r : Int32) (S' : ST), k4 S v1 v2 = some (r, S') → Ev mX11_kinds 128 0 0 4 [some (.ref 130), some (.int v1), some (.int v2)] [] (mkS x S) (fun v h => v = some (.int r) ∧ h = mkS x S')) (S : ST) (v1 : Int32) (v2 : Int32) (r : Int32) (S' : ST) (hm : bfX11_kinds_130_4 x k4 S v1 v2 = some (r, S')) : Ev mX11_kinds 128 0 0 4 [some (.ref 130), some (.int v1), some (.int v2)] [] (mkS x S) (fun v h => v = some (.int r) ∧ h = mkS x S') := by
    unfold bfX11_kinds_130_4 at hm
    refine Ev.steps tokX11_kinds 3 (P := True) (pc' := if 8 ≤ v2 then 34 else 10) (lv' := [some (.ref 130), some (.int v1), some (.int v2)]) (st' := []) (h' := mkS x S) rfl trivial ?_
    refine Ev.ite (fun c1 => ?_) (fun c1 => ?_)
    · rw [if_pos c1] at hm
      refine Ev.steps tokX11_kinds 1 (P := True) (pc' := 35) (lv' := [some (.ref 130), some (.int v1), some (.int v2)]) (st' := [.int v1]) (h' := mkS x S) rfl trivial ?_
      cases hm
      exact Ev.reti tokX11_kinds rfl rfl ⟨rfl, rfl⟩
    · rw [if_neg c1] at hm
      refine Ev.steps tokX11_kinds 3 (P := True) (pc' := 13) (lv' := [some (.ref 130), some (.int v1), some (.int v2)]) (st' := [.int v2, .ref 130, .int v1]) (h' := mkS x S) rfl trivial ?_
      cases h2 : gfX11_canBeKind_130 x S v2 with
      | none => rw [h2] at hm; cases hm
      | some q3 =>
        obtain ⟨r4, S5⟩ := q3
        rw [h2] at hm
        dsimp only at hm
        refine ev_callV (N := mX11_canBeKind) (d' := 127) (bc := 0) (bs := 0) (bc' := 0) (bs' := 0) (as := [.int v2]) (rest := [.int v1]) (a := 130) (ci := 11) (dcd tokX11_kinds rfl) okX11_canBeKind inX11_canBeKind seX11_canBeKind lk11_449 rfl (by decide) (Nat.le_of_ble_eq_true rfl) rfl ⟨by decide, rfl⟩ (gpX11_canBeKind_130 x S v2 _ _ h2) (fun v h' hq hn => ?_)
        obtain ⟨rfl, rfl⟩ := hq
        refine Ev.steps tokX11_kinds 1 (P := True) (pc' := if r4 = 0 then 25 else 19) (lv' := [some (.ref 130), some (.int v1), some (.int v2)]) (st' := [.int v1]) (h' := mkS x S5) rfl trivial ?_
        refine Ev.ite (fun c6 => ?_) (fun c6 => ?_)
        · rw [if_pos c6] at hm
          refine Ev.steps tokX11_kinds 1 (P := True) (pc' := 26) (lv' := [some (.ref 130), some (.int v1), some (.int v2)]) (st' := [.int 0, .int v1]) (h' := mkS x S5) rfl trivial ?_
          refine Ev.fgt (lv' := [some (.ref 130), none, some (.int v2)]) ⟨rfl, rfl, trivial⟩ ?_
          exact bpX11_kinds_130_26 x k4 hk4 S5 v2 v1 0 _ _ hm
        · rw [if_neg c6] at hm
          refine Ev.steps tokX11_kinds 4 (P := True) (pc' := 26) (lv' := [some (.ref 130), some (.int v1), some (.int v2)]) (st' := [.int (1 <<< (v2 &&& 31)), .int v1]) (h' := mkS x S5) rfl trivial ?_
          refine Ev.fgt (lv' := [some (.ref 130), none, some (.int v2)]) ⟨rfl, rfl, trivial⟩ ?_
          exact bpX11_kinds_130_26 x k4 hk4 S5 v2 v1 (1 <<< (v2 &&& 31)) _ _ hm
theorem lpX11_kinds_130_4 (x : XT)  : ∀ (n : Nat) (S : ST) (v1 : Int32) (v2 : Int32) (r : Int32) (S' : ST), lfX11_kinds_130_4 x  n S v1 v2 = some (r, S') → Ev mX11_kinds 128 0 0 4 [some (.ref 130), some (.int v1), some (.int v2)] [] (mkS x S) (fun v h => v = some (.int r) ∧ h = mkS x S')
  | 0, _, _, _, _, _, hm => by cases hm
  | n + 1, S, v1, v2, r, S', hm => bpX11_kinds_130_4 x (lfX11_kinds_130_4 x  n) (lpX11_kinds_130_4 x  n) S v1 v2 r S' hm
set_option maxHeartbeats 4000000 in
set_option maxRecDepth 20000 in
theorem bpX11_kinds_130_0 (x : XT)  (S : ST)  (r : Int32) (S' : ST) (hm : bfX11_kinds_130_0 x  S  = some (r, S')) : Ev mX11_kinds 128 0 0 0 [some (.ref 130), none, none] [] (mkS x S) (fun v h => v = some (.int r) ∧ h = mkS x S') := by
    unfold bfX11_kinds_130_0 at hm
    refine Ev.steps tokX11_kinds 4 (P := True) (pc' := 4) (lv' := [some (.ref 130), some (.int 0), some (.int 0)]) (st' := []) (h' := mkS x S) rfl trivial ?_
    exact lpX11_kinds_130_4 x  20000 S 0 0 _ _ hm
theorem gpX11_kinds_130 (x : XT) (S : ST)  (r : Int32) (S' : ST) (hm : gfX11_kinds_130 x S  = some (r, S')) : Ct mX11_kinds 128 0 0 [.ref 130] (mkS x S) (fun v h => v = some (.int r) ∧ h = mkS x S') :=
  Ct.of (lv := [some (.ref 130), none, none]) rfl rfl rfl (show (_ : Nat) ≤ _ from Nat.le_of_ble_eq_true rfl) (fun G => rfl) (bpX11_kinds_130_0 x S  r S' hm)
set_option maxHeartbeats 4000000 in
set_option maxRecDepth 20000 in
theorem bpX11_mostAlike_130_86 (x : XT) (k30 : ST → Int32 → Int32 → Int32 → Int32 → Int32 → Option (Int32 × ST)) (hk30 : ∀ (S : ST) (v1 : Int32) (v2 : Int32) (v3 : Int32) (v4 : Int32) (v5 : Int32) (r : Int32) (S' : ST), k30 S v1 v2 v3 v4 v5 = some (r, S') → Ev mX11_mostAlike 127 0 0 30 [some (.ref 130), some (.int v1), some (.int v2), some (.int v3), some (.int v4), some (.int v5), none] [] (mkS x S) (fun v h => v = some (.int r) ∧ h = mkS x S')) (S : ST) (v1 : Int32) (v2 : Int32) (v3 : Int32) (v4 : Int32) (v5 : Int32) (r : Int32) (S' : ST) (hm : bfX11_mostAlike_130_86 x k30 S v1 v2 v3 v4 v5 = some (r, S')) : Ev mX11_mostAlike 127 0 0 86 [some (.ref 130), some (.int v1), some (.int v2), some (.int v3), some (.int v4), some (.int v5), none] [] (mkS x S) (fun v h => v = some (.int r) ∧ h = mkS x S') := by
    unfold bfX11_mostAlike_130_86 at hm
    refine Ev.steps tokX11_mostAlike 2 (P := True) (pc' := 30) (lv' := [some (.ref 130), some (.int v1), some (.int v2), some (.int v3), some (.int v4), some (.int (v5 + 1)), none]) (st' := []) (h' := mkS x S) rfl trivial ?_
    exact hk30 S v1 v2 v3 v4 (v5 + 1) _ _ hm
set_option maxHeartbeats 4000000 in
set_option maxRecDepth 20000 in
theorem bpX11_mostAlike_130_30 (x : XT) (k30 : ST → Int32 → Int32 → Int32 → Int32 → Int32 → Option (Int32 × ST)) (hk30 : ∀ (S : ST) (v1 : Int32) (v2 : Int32) (v3 : Int32) (v4 : Int32) (v5 : Int32) (r : Int32) (S' : ST), k30 S v1 v2 v3 v4 v5 = some (r, S') → Ev mX11_mostAlike 127 0 0 30 [some (.ref 130), some (.int v1), some (.int v2), some (.int v3), some (.int v4), some (.int v5), none] [] (mkS x S) (fun v h => v = some (.int r) ∧ h = mkS x S')) (S : ST) (v1 : Int32) (v2 : Int32) (v3 : Int32) (v4 : Int32) (v5 : Int32) (r : Int32) (S' : ST) (hm : bfX11_mostAlike_130_30 x k30 S v1 v2 v3 v4 v5 = some (r, S')) : Ev mX11_mostAlike 127 0 0 30 [some (.ref 130), some (.int v1), some (.int v2), some (.int v3), some (.int v4), some (.int v5), none] [] (mkS x S) (fun v h => v = some (.int r) ∧ h = mkS x S') := by
    unfold bfX11_mostAlike_130_30 at hm
    refine Ev.steps tokX11_mostAlike 3 (P := True) (pc' := if 8 ≤ v5 then 92 else 37) (lv' := [some (.ref 130), some (.int v1), some (.int v2), some (.int v3), some (.int v4), some (.int v5), none]) (st' := []) (h' := mkS x S) rfl trivial ?_
    refine Ev.ite (fun c1 => ?_) (fun c1 => ?_)
    · rw [if_pos c1] at hm
      refine Ev.steps tokX11_mostAlike 1 (P := True) (pc' := 94) (lv' := [some (.ref 130), some (.int v1), some (.int v2), some (.int v3), some (.int v4), some (.int v5), none]) (st' := [.int v4]) (h' := mkS x S) rfl trivial ?_
      cases hm
      exact Ev.reti tokX11_mostAlike rfl rfl ⟨rfl, rfl⟩
    · rw [if_neg c1] at hm
      refine Ev.steps tokX11_mostAlike 2 (P := True) (pc' := 40) (lv' := [some (.ref 130), some (.int v1), some (.int v2), some (.int v3), some (.int v4), some (.int v5), none]) (st' := [.int v5, .int v1]) (h' := mkS x S) rfl trivial ?_
      cases h2 : gfX11_isIn x S v1 v5 with
      | none => rw [h2] at hm; cases hm
      | some q3 =>
        obtain ⟨r4, S5⟩ := q3
        rw [h2] at hm
        dsimp only at hm
        refine ev_callS (N := mX11_isIn) (d' := 1) (bc := 0) (bs := 0) (bc' := 0) (bs' := 0) (as := [.int v1, .int v5]) (rest := []) (dcd tokX11_mostAlike rfl) okX11_isIn inX11_isIn lk11_409 rfl (by decide) (Nat.le_of_ble_eq_true rfl) (gpX11_isIn x S v1 v5 _ _ h2) (fun v h' hq hn => ?_)
        obtain ⟨rfl, rfl⟩ := hq
        refine Ev.steps tokX11_mostAlike 1 (P := True) (pc' := if ¬ r4 = 0 then 49 else 46) (lv' := [some (.ref 130), some (.int v1), some (.int v2), some (.int v3), some (.int v4), some (.int v5), none]) (st' := []) (h' := mkS x S5) rfl trivial ?_
        refine Ev.ite (fun c6 => ?_) (fun c6 => ?_)
        · rw [if_pos c6] at hm
          refine Ev.steps tokX11_mostAlike 4 (P := True) (pc' := 54) (lv' := [some (.ref 130), some (.int v1), some (.int v2), some (.int v3), some (.int v4), some (.int v5), none]) (st' := [.int v3, .int v2, .int v5, .ref 130]) (h' := mkS x S5) rfl trivial ?_
          cases h7 : gfX11_outOf_130 x S5 v5 v2 v3 with
          | none => rw [h7] at hm; cases hm
          | some q8 =>
            obtain ⟨r9, S10⟩ := q8
            rw [h7] at hm
            dsimp only at hm
            refine ev_callV (N := mX11_outOf) (d' := 126) (bc := 0) (bs := 0) (bc' := 0) (bs' := 0) (as := [.int v5, .int v2, .int v3]) (rest := []) (a := 130) (ci := 11) (dcd tokX11_mostAlike rfl) okX11_outOf inX11_outOf seX11_outOf lk11_446 rfl (by decide) (Nat.le_of_ble_eq_true rfl) rfl ⟨by decide, rfl⟩ (gpX11_outOf_130 x S5 v5 v2 v3 _ _ h7) (fun v h' hq hn => ?_)
            obtain ⟨rfl, rfl⟩ := hq
            obtain ⟨o11, hm⟩ := oblk hm
            obtain ⟨o12, hm⟩ := oblk hm
            obtain ⟨o13, hm⟩ := oblk hm
            refine Ev.steps tokX11_mostAlike 16 (P := vp_in (r9 + 1) 21 ∧ vp_in (r9 + 1) 21 ∧ vp_in (r9 + 1) 21 ∧ True) (pc' := 81) (lv' := [some (.ref 130), some (.int v1), some (.int v2), some (.int v3), some (.int v4), some (.int v5), some (.int (r9 + 1))]) (st' := [.int ((u2 S10.2.1 154 ((r9 + 1).toNatClampNeg) ((S10.2.1 154 ((r9 + 1).toNatClampNeg)) + 1)) 154 ((r9 + 1).toNatClampNeg)), .int v4]) (h' := mkS x (S10.1, (u2 S10.2.1 154 ((r9 + 1).toNatClampNeg) ((S10.2.1 154 ((r9 + 1).toNatClampNeg)) + 1)), S10.2.2.1, S10.2.2.2)) rfl ⟨inb_ok o11, inb_ok o12, inb_ok o13, trivial⟩ ?_
            cases h14 : gfX11_greater x (S10.1, (u2 S10.2.1 154 ((r9 + 1).toNatClampNeg) ((S10.2.1 154 ((r9 + 1).toNatClampNeg)) + 1)), S10.2.2.1, S10.2.2.2) v4 ((u2 S10.2.1 154 ((r9 + 1).toNatClampNeg) ((S10.2.1 154 ((r9 + 1).toNatClampNeg)) + 1)) 154 ((r9 + 1).toNatClampNeg)) with
            | none => rw [h14] at hm; cases hm
            | some q15 =>
              obtain ⟨r16, S17⟩ := q15
              rw [h14] at hm
              dsimp only at hm
              refine ev_callS (N := mX11_greater) (d' := 1) (bc := 0) (bs := 0) (bc' := 0) (bs' := 0) (as := [.int v4, .int ((u2 S10.2.1 154 ((r9 + 1).toNatClampNeg) ((S10.2.1 154 ((r9 + 1).toNatClampNeg)) + 1)) 154 ((r9 + 1).toNatClampNeg))]) (rest := []) (dcd tokX11_mostAlike rfl) okX11_greater inX11_greater lk11_352 rfl (by decide) (Nat.le_of_ble_eq_true rfl) (gpX11_greater x (S10.1, (u2 S10.2.1 154 ((r9 + 1).toNatClampNeg) ((S10.2.1 154 ((r9 + 1).toNatClampNeg)) + 1)), S10.2.2.1, S10.2.2.2) v4 ((u2 S10.2.1 154 ((r9 + 1).toNatClampNeg) ((S10.2.1 154 ((r9 + 1).toNatClampNeg)) + 1)) 154 ((r9 + 1).toNatClampNeg)) _ _ h14) (fun v h' hq hn => ?_)
              obtain ⟨rfl, rfl⟩ := hq
              refine Ev.steps tokX11_mostAlike 1 (P := True) (pc' := 86) (lv' := [some (.ref 130), some (.int v1), some (.int v2), some (.int v3), some (.int r16), some (.int v5), some (.int (r9 + 1))]) (st' := []) (h' := mkS x S17) rfl trivial ?_
              refine Ev.fgt (lv' := [some (.ref 130), some (.int v1), some (.int v2), some (.int v3), some (.int r16), some (.int v5), none]) ⟨rfl, rfl, rfl, rfl, rfl, rfl, trivial⟩ ?_
              exact bpX11_mostAlike_130_86 x k30 hk30 S17 v1 v2 v3 r16 v5 _ _ hm
        · rw [if_neg c6] at hm
          refine Ev.steps tokX11_mostAlike 1 (P := True) (pc' := 86) (lv' := [some (.ref 130), some (.int v1), some (.int v2), some (.int v3), some (.int v4), some (.int v5), none]) (st' := []) (h' := mkS x S5) rfl trivial ?_
          exact bpX11_mostAlike_130_86 x k30 hk30 S5 v1 v2 v3 v4 v5 _ _ hm
theorem lpX11_mostAlike_130_30 (x : XT)  : ∀ (n : Nat) (S : ST) (v1 : Int32) (v2 : Int32) (v3 : Int32) (v4 : Int32) (v5 : Int32) (r : Int32) (S' : ST), lfX11_mostAlike_130_30 x  n S v1 v2 v3 v4 v5 = some (r, S') → Ev mX11_mostAlike 127 0 0 30 [some (.ref 130), some (.int v1), some (.int v2), some (.int v3), some (.int v4), some (.int v5), none] [] (mkS x S) (fun v h => v = some (.int r) ∧ h = mkS x S')
  | 0, _, _, _, _, _, _, _, _, hm => by cases hm
  | n + 1, S, v1, v2, v3, v4, v5, r, S', hm => bpX11_mostAlike_130_30 x (lfX11_mostAlike_130_30 x  n) (lpX11_mostAlike_130_30 x  n) S v1 v2 v3 v4 v5 r S' hm
set_option maxHeartbeats 4000000 in
set_option maxRecDepth 20000 in
theorem bpX11_mostAlike_130_3 (x : XT) (k3 : ST → Int32 → Int32 → Int32 → Int32 → Option (Int32 × ST)) (hk3 : ∀ (S : ST) (v1 : Int32) (v2 : Int32) (v3 : Int32) (v4 : Int32) (r : Int32) (S' : ST), k3 S v1 v2 v3 v4 = some (r, S') → Ev mX11_mostAlike 127 0 0 3 [some (.ref 130), some (.int v1), some (.int v2), some (.int v3), some (.int v4), none, none] [] (mkS x S) (fun v h => v = some (.int r) ∧ h = mkS x S')) (S : ST) (v1 : Int32) (v2 : Int32) (v3 : Int32) (v4 : Int32) (r : Int32) (S' : ST) (hm : bfX11_mostAlike_130_3 x k3 S v1 v2 v3 v4 = some (r, S')) : Ev mX11_mostAlike 127 0 0 3 [some (.ref 130), some (.int v1), some (.int v2), some (.int v3), some (.int v4), none, none] [] (mkS x S) (fun v h => v = some (.int r) ∧ h = mkS x S') := by
    unfold bfX11_mostAlike_130_3 at hm
    refine Ev.steps tokX11_mostAlike 3 (P := True) (pc' := if 20 < v4 then 24 else 10) (lv' := [some (.ref 130), some (.int v1), some (.int v2), some (.int v3), some (.int v4), none, none]) (st' := []) (h' := mkS x S) rfl trivial ?_
    refine Ev.ite (fun c1 => ?_) (fun c1 => ?_)
    · rw [if_pos c1] at hm
      refine Ev.steps tokX11_mostAlike 4 (P := True) (pc' := 30) (lv' := [some (.ref 130), some (.int v1), some (.int v2), some (.int v3), some (.int 0), some (.int 0), none]) (st' := []) (h' := mkS x S) rfl trivial ?_
      exact lpX11_mostAlike_130_30 x  20000 S v1 v2 v3 0 0 _ _ hm
    · rw [if_neg c1] at hm
      obtain ⟨o2, hm⟩ := oblk hm
      refine Ev.steps tokX11_mostAlike 7 (P := vp_in v4 21 ∧ True) (pc' := 3) (lv' := [some (.ref 130), some (.int v1), some (.int v2), some (.int v3), some (.int (v4 + 1)), none, none]) (st' := []) (h' := mkS x (S.1, (u2 S.2.1 154 v4.toNatClampNeg 0), S.2.2.1, S.2.2.2)) rfl ⟨inb_ok o2, trivial⟩ ?_
      exact hk3 (S.1, (u2 S.2.1 154 v4.toNatClampNeg 0), S.2.2.1, S.2.2.2) v1 v2 v3 (v4 + 1) _ _ hm
theorem lpX11_mostAlike_130_3 (x : XT)  : ∀ (n : Nat) (S : ST) (v1 : Int32) (v2 : Int32) (v3 : Int32) (v4 : Int32) (r : Int32) (S' : ST), lfX11_mostAlike_130_3 x  n S v1 v2 v3 v4 = some (r, S') → Ev mX11_mostAlike 127 0 0 3 [some (.ref 130), some (.int v1), some (.int v2), some (.int v3), some (.int v4), none, none] [] (mkS x S) (fun v h => v = some (.int r) ∧ h = mkS x S')
  | 0, _, _, _, _, _, _, _, hm => by cases hm
  | n + 1, S, v1, v2, v3, v4, r, S', hm => bpX11_mostAlike_130_3 x (lfX11_mostAlike_130_3 x  n) (lpX11_mostAlike_130_3 x  n) S v1 v2 v3 v4 r S' hm
set_option maxHeartbeats 4000000 in
set_option maxRecDepth 20000 in
theorem bpX11_mostAlike_130_0 (x : XT)  (S : ST) (p1 : Int32) (p2 : Int32) (p3 : Int32) (r : Int32) (S' : ST) (hm : bfX11_mostAlike_130_0 x  S p1 p2 p3 = some (r, S')) : Ev mX11_mostAlike 127 0 0 0 [some (.ref 130), some (.int p1), some (.int p2), some (.int p3), none, none, none] [] (mkS x S) (fun v h => v = some (.int r) ∧ h = mkS x S') := by
    unfold bfX11_mostAlike_130_0 at hm
    refine Ev.steps tokX11_mostAlike 2 (P := True) (pc' := 3) (lv' := [some (.ref 130), some (.int p1), some (.int p2), some (.int p3), some (.int 0), none, none]) (st' := []) (h' := mkS x S) rfl trivial ?_
    exact lpX11_mostAlike_130_3 x  20000 S p1 p2 p3 0 _ _ hm
theorem gpX11_mostAlike_130 (x : XT) (S : ST) (p1 : Int32) (p2 : Int32) (p3 : Int32) (r : Int32) (S' : ST) (hm : gfX11_mostAlike_130 x S p1 p2 p3 = some (r, S')) : Ct mX11_mostAlike 127 0 0 [.ref 130, .int p1, .int p2, .int p3] (mkS x S) (fun v h => v = some (.int r) ∧ h = mkS x S') :=
  Ct.of (lv := [some (.ref 130), some (.int p1), some (.int p2), some (.int p3), none, none, none]) rfl rfl rfl (show (_ : Nat) ≤ _ from Nat.le_of_ble_eq_true rfl) (fun G => rfl) (bpX11_mostAlike_130_0 x S p1 p2 p3 r S' hm)
set_option maxHeartbeats 4000000 in
set_option maxRecDepth 20000 in
theorem bpX11_ask_130_16 (x : XT)  (S : ST)  (r : Int32) (S' : ST) (hm : bfX11_ask_130_16 x  S  = some (r, S')) : Ev mX11_ask 129 0 0 16 [none, none, none, none, none, none, none, none] [] (mkS x S) (fun v h => v = some (.int r) ∧ h = mkS x S') := by
    unfold bfX11_ask_130_16 at hm
    refine Ev.steps tokX11_ask 1 (P := True) (pc' := 17) (lv' := [none, none, none, none, none, none, none, none]) (st' := [.int (-1)]) (h' := mkS x S) rfl trivial ?_
    cases hm
    exact Ev.reti tokX11_ask rfl rfl ⟨rfl, rfl⟩
set_option maxHeartbeats 4000000 in
set_option maxRecDepth 20000 in
theorem bpX11_ask_130_95 (x : XT)  (S : ST) (t0 : Int32) (r : Int32) (S' : ST) (hm : bfX11_ask_130_95 x  S t0 = some (r, S')) : Ev mX11_ask 129 0 0 95 [none, none, none, none, none, none, none, none] [.int t0] (mkS x S) (fun v h => v = some (.int r) ∧ h = mkS x S') := by
    unfold bfX11_ask_130_95 at hm
    cases hm
    exact Ev.reti tokX11_ask rfl rfl ⟨rfl, rfl⟩
set_option maxHeartbeats 4000000 in
set_option maxRecDepth 20000 in
theorem bpX11_ask_130_88 (x : XT)  (S : ST) (v4 : Int32) (r : Int32) (S' : ST) (hm : bfX11_ask_130_88 x  S v4 = some (r, S')) : Ev mX11_ask 129 0 0 88 [none, none, none, none, some (.int v4), none, none, none] [] (mkS x S) (fun v h => v = some (.int r) ∧ h = mkS x S') := by
    unfold bfX11_ask_130_88 at hm
    refine Ev.steps tokX11_ask 2 (P := True) (pc' := 95) (lv' := [none, none, none, none, some (.int v4), none, none, none]) (st' := [.int v4]) (h' := mkS x S) rfl trivial ?_
    refine Ev.fgt (lv' := [none, none, none, none, none, none, none, none]) trivial ?_
    exact bpX11_ask_130_95 x S v4 _ _ hm
set_option maxHeartbeats 4000000 in
set_option maxRecDepth 20000 in
theorem bpX11_ask_130_78 (x : XT)  (S : ST) (v2 : Int32) (v4 : Int32) (v5 : Int32) (r : Int32) (S' : ST) (hm : bfX11_ask_130_78 x  S v2 v4 v5 = some (r, S')) : Ev mX11_ask 129 0 0 78 [none, none, some (.int v2), none, some (.int v4), some (.int v5), none, none] [] (mkS x S) (fun v h => v = some (.int r) ∧ h = mkS x S') := by
    unfold bfX11_ask_130_78 at hm
    refine Ev.steps tokX11_ask 3 (P := True) (pc' := if v4 = (-1) then 88 else 84) (lv' := [none, none, some (.int v2), none, some (.int v4), some (.int v5), none, none]) (st' := []) (h' := mkS x S) rfl trivial ?_
    refine Ev.ite (fun c1 => ?_) (fun c1 => ?_)
    · rw [if_pos c1] at hm
      refine Ev.fgt (lv' := [none, none, none, none, some (.int v4), none, none, none]) ⟨rfl, trivial⟩ ?_
      exact bpX11_ask_130_88 x S v4 _ _ hm
    · rw [if_neg c1] at hm
      refine Ev.steps tokX11_ask 2 (P := True) (pc' := if ¬ v2 = 0 then 93 else 88) (lv' := [none, none, some (.int v2), none, some (.int v4), some (.int v5), none, none]) (st' := []) (h' := mkS x S) rfl trivial ?_
      refine Ev.ite (fun c2 => ?_) (fun c2 => ?_)
      · rw [if_pos c2] at hm
        refine Ev.steps tokX11_ask 1 (P := True) (pc' := 95) (lv' := [none, none, some (.int v2), none, some (.int v4), some (.int v5), none, none]) (st' := [.int v5]) (h' := mkS x S) rfl trivial ?_
        refine Ev.fgt (lv' := [none, none, none, none, none, none, none, none]) trivial ?_
        exact bpX11_ask_130_95 x S v5 _ _ hm
      · rw [if_neg c2] at hm
        refine Ev.fgt (lv' := [none, none, none, none, some (.int v4), none, none, none]) ⟨rfl, trivial⟩ ?_
        exact bpX11_ask_130_88 x S v4 _ _ hm
set_option maxHeartbeats 4000000 in
set_option maxRecDepth 20000 in
theorem bpX11_ask_130_72 (x : XT) (k33 : ST → Int32 → Int32 → Int32 → Int32 → Int32 → Int32 → Option (Int32 × ST)) (hk33 : ∀ (S : ST) (v1 : Int32) (v2 : Int32) (v3 : Int32) (v4 : Int32) (v5 : Int32) (v6 : Int32) (r : Int32) (S' : ST), k33 S v1 v2 v3 v4 v5 v6 = some (r, S') → Ev mX11_ask 129 0 0 33 [some (.ref 130), some (.int v1), some (.int v2), some (.int v3), some (.int v4), some (.int v5), some (.int v6), none] [] (mkS x S) (fun v h => v = some (.int r) ∧ h = mkS x S')) (S : ST) (v1 : Int32) (v2 : Int32) (v3 : Int32) (v4 : Int32) (v5 : Int32) (v6 : Int32) (r : Int32) (S' : ST) (hm : bfX11_ask_130_72 x k33 S v1 v2 v3 v4 v5 v6 = some (r, S')) : Ev mX11_ask 129 0 0 72 [some (.ref 130), some (.int v1), some (.int v2), some (.int v3), some (.int v4), some (.int v5), some (.int v6), none] [] (mkS x S) (fun v h => v = some (.int r) ∧ h = mkS x S') := by
    unfold bfX11_ask_130_72 at hm
    refine Ev.steps tokX11_ask 2 (P := True) (pc' := 33) (lv' := [some (.ref 130), some (.int v1), some (.int v2), some (.int v3), some (.int v4), some (.int v5), some (.int (v6 + 1)), none]) (st' := []) (h' := mkS x S) rfl trivial ?_
    exact hk33 S v1 v2 v3 v4 v5 (v6 + 1) _ _ hm
set_option maxHeartbeats 4000000 in
set_option maxRecDepth 20000 in
theorem bpX11_ask_130_33 (x : XT) (k33 : ST → Int32 → Int32 → Int32 → Int32 → Int32 → Int32 → Option (Int32 × ST)) (hk33 : ∀ (S : ST) (v1 : Int32) (v2 : Int32) (v3 : Int32) (v4 : Int32) (v5 : Int32) (v6 : Int32) (r : Int32) (S' : ST), k33 S v1 v2 v3 v4 v5 v6 = some (r, S') → Ev mX11_ask 129 0 0 33 [some (.ref 130), some (.int v1), some (.int v2), some (.int v3), some (.int v4), some (.int v5), some (.int v6), none] [] (mkS x S) (fun v h => v = some (.int r) ∧ h = mkS x S')) (S : ST) (v1 : Int32) (v2 : Int32) (v3 : Int32) (v4 : Int32) (v5 : Int32) (v6 : Int32) (r : Int32) (S' : ST) (hm : bfX11_ask_130_33 x k33 S v1 v2 v3 v4 v5 v6 = some (r, S')) : Ev mX11_ask 129 0 0 33 [some (.ref 130), some (.int v1), some (.int v2), some (.int v3), some (.int v4), some (.int v5), some (.int v6), none] [] (mkS x S) (fun v h => v = some (.int r) ∧ h = mkS x S') := by
    unfold bfX11_ask_130_33 at hm
    refine Ev.steps tokX11_ask 3 (P := True) (pc' := if 20 ≤ v6 then 78 else 40) (lv' := [some (.ref 130), some (.int v1), some (.int v2), some (.int v3), some (.int v4), some (.int v5), some (.int v6), none]) (st' := []) (h' := mkS x S) rfl trivial ?_
    refine Ev.ite (fun c1 => ?_) (fun c1 => ?_)
    · rw [if_pos c1] at hm
      refine Ev.fgt (lv' := [none, none, some (.int v2), none, some (.int v4), some (.int v5), none, none]) ⟨rfl, rfl, rfl, trivial⟩ ?_
      exact bpX11_ask_130_78 x S v2 v4 v5 _ _ hm
    · rw [if_neg c1] at hm
      refine Ev.steps tokX11_ask 2 (P := True) (pc' := if v3 = 0 then 78 else 44) (lv' := [some (.ref 130), some (.int v1), some (.int v2), some (.int v3), some (.int v4), some (.int v5), some (.int v6), none]) (st' := []) (h' := mkS x S) rfl trivial ?_
      refine Ev.ite (fun c2 => ?_) (fun c2 => ?_)
      · rw [if_pos c2] at hm
        refine Ev.fgt (lv' := [none, none, some (.int v2), none, some (.int v4), some (.int v5), none, none]) ⟨rfl, rfl, rfl, trivial⟩ ?_
        exact bpX11_ask_130_78 x S v2 v4 v5 _ _ hm
      · rw [if_neg c2] at hm
        refine Ev.steps tokX11_ask 4 (P := True) (pc' := 49) (lv' := [some (.ref 130), some (.int v1), some (.int v2), some (.int v3), some (.int v4), some (.int v5), some (.int v6), none]) (st' := [.int v6, .int v1, .int v3, .ref 130]) (h' := mkS x S) rfl trivial ?_
        cases h3 : gfX11_mostAlike_130 x S v3 v1 v6 with
        | none => rw [h3] at hm; cases hm
        | some q4 =>
          obtain ⟨r5, S6⟩ := q4
          rw [h3] at hm
          dsimp only at hm
          refine ev_callV (N := mX11_mostAlike) (d' := 127) (bc := 0) (bs := 0) (bc' := 0) (bs' := 0) (as := [.int v3, .int v1, .int v6]) (rest := []) (a := 130) (ci := 11) (dcd tokX11_ask rfl) okX11_mostAlike inX11_mostAlike seX11_mostAlike lk11_455 rfl (by decide) (Nat.le_of_ble_eq_true rfl) rfl ⟨by decide, rfl⟩ (gpX11_mostAlike_130 x S v3 v1 v6 _ _ h3) (fun v h' hq hn => ?_)
          obtain ⟨rfl, rfl⟩ := hq
          refine Ev.steps tokX11_ask 4 (P := True) (pc' := if r5 < v5 then 64 else 61) (lv' := [some (.ref 130), some (.int v1), some (.int v2), some (.int v3), some (.int v4), some (.int v5), some (.int v6), some (.int r5)]) (st' := []) (h' := mkS x S6) rfl trivial ?_
          refine Ev.ite (fun c7 => ?_) (fun c7 => ?_)
          · rw [if_pos c7] at hm
            refine Ev.steps tokX11_ask 4 (P := True) (pc' := 72) (lv' := [some (.ref 130), some (.int v1), some (.int v2), some (.int v3), some (.int v6), some (.int r5), some (.int v6), some (.int r5)]) (st' := []) (h' := mkS x S6) rfl trivial ?_
            refine Ev.fgt (lv' := [some (.ref 130), some (.int v1), some (.int v2), some (.int v3), some (.int v6), some (.int r5), some (.int v6), none]) ⟨rfl, rfl, rfl, rfl, rfl, rfl, rfl, trivial⟩ ?_
            exact bpX11_ask_130_72 x k33 hk33 S6 v1 v2 v3 v6 r5 v6 _ _ hm
          · rw [if_neg c7] at hm
            refine Ev.steps tokX11_ask 1 (P := True) (pc' := 72) (lv' := [some (.ref 130), some (.int v1), some (.int v2), some (.int v3), some (.int v4), some (.int v5), some (.int v6), some (.int r5)]) (st' := []) (h' := mkS x S6) rfl trivial ?_
            refine Ev.fgt (lv' := [some (.ref 130), some (.int v1), some (.int v2), some (.int v3), some (.int v4), some (.int v5), some (.int v6), none]) ⟨rfl, rfl, rfl, rfl, rfl, rfl, rfl, trivial⟩ ?_
            exact bpX11_ask_130_72 x k33 hk33 S6 v1 v2 v3 v4 v5 v6 _ _ hm
theorem lpX11_ask_130_33 (x : XT)  : ∀ (n : Nat) (S : ST) (v1 : Int32) (v2 : Int32) (v3 : Int32) (v4 : Int32) (v5 : Int32) (v6 : Int32) (r : Int32) (S' : ST), lfX11_ask_130_33 x  n S v1 v2 v3 v4 v5 v6 = some (r, S') → Ev mX11_ask 129 0 0 33 [some (.ref 130), some (.int v1), some (.int v2), some (.int v3), some (.int v4), some (.int v5), some (.int v6), none] [] (mkS x S) (fun v h => v = some (.int r) ∧ h = mkS x S')
  | 0, _, _, _, _, _, _, _, _, _, hm => by cases hm
  | n + 1, S, v1, v2, v3, v4, v5, v6, r, S', hm => bpX11_ask_130_33 x (lfX11_ask_130_33 x  n) (lpX11_ask_130_33 x  n) S v1 v2 v3 v4 v5 v6 r S' hm
set_option maxHeartbeats 4000000 in
set_option maxRecDepth 20000 in
theorem bpX11_ask_130_0 (x : XT)  (S : ST) (p1 : Int32) (p2 : Int32) (r : Int32) (S' : ST) (hm : bfX11_ask_130_0 x  S p1 p2 = some (r, S')) : Ev mX11_ask 129 0 0 0 [some (.ref 130), some (.int p1), some (.int p2), none, none, none, none, none] [] (mkS x S) (fun v h => v = some (.int r) ∧ h = mkS x S') := by
    unfold bfX11_ask_130_0 at hm
    refine Ev.steps tokX11_ask 1 (P := True) (pc' := 1) (lv' := [some (.ref 130), some (.int p1), some (.int p2), none, none, none, none, none]) (st' := [.int p1]) (h' := mkS x S) rfl trivial ?_
    cases h1 : gfX11_isArm x S p1 with
    | none => rw [h1] at hm; cases hm
    | some q2 =>
      obtain ⟨r3, S4⟩ := q2
      rw [h1] at hm
      dsimp only at hm
      refine ev_callS (N := mX11_isArm) (d' := 2) (bc := 0) (bs := 0) (bc' := 0) (bs' := 0) (as := [.int p1]) (rest := []) (dcd tokX11_ask rfl) okX11_isArm inX11_isArm lk11_132 rfl (by decide) (Nat.le_of_ble_eq_true rfl) (gpX11_isArm x S p1 _ _ h1) (fun v h' hq hn => ?_)
      obtain ⟨rfl, rfl⟩ := hq
      refine Ev.steps tokX11_ask 1 (P := True) (pc' := if r3 = 0 then 16 else 7) (lv' := [some (.ref 130), some (.int p1), some (.int p2), none, none, none, none, none]) (st' := []) (h' := mkS x S4) rfl trivial ?_
      refine Ev.ite (fun c5 => ?_) (fun c5 => ?_)
      · rw [if_pos c5] at hm
        refine Ev.fgt (lv' := [none, none, none, none, none, none, none, none]) trivial ?_
        exact bpX11_ask_130_16 x S4 _ _ hm
      · rw [if_neg c5] at hm
        refine Ev.steps tokX11_ask 3 (P := True) (pc' := 10) (lv' := [some (.ref 130), some (.int p1), some (.int p2), none, none, none, none, none]) (st' := [.int 1, .int 0, .int p2]) (h' := mkS x S4) rfl trivial ?_
        cases h6 : gfX11_lies x S4 p2 0 1 with
        | none => rw [h6] at hm; cases hm
        | some q7 =>
          obtain ⟨r8, S9⟩ := q7
          rw [h6] at hm
          dsimp only at hm
          refine ev_callS (N := mX11_lies) (d' := 1) (bc := 0) (bs := 0) (bc' := 0) (bs' := 0) (as := [.int p2, .int 0, .int 1]) (rest := []) (dcd tokX11_ask rfl) okX11_lies inX11_lies lk11_18 rfl (by decide) (Nat.le_of_ble_eq_true rfl) (gpX11_lies x S4 p2 0 1 _ _ h6) (fun v h' hq hn => ?_)
          obtain ⟨rfl, rfl⟩ := hq
          refine Ev.steps tokX11_ask 1 (P := True) (pc' := if ¬ r8 = 0 then 18 else 16) (lv' := [some (.ref 130), some (.int p1), some (.int p2), none, none, none, none, none]) (st' := []) (h' := mkS x S9) rfl trivial ?_
          refine Ev.ite (fun c10 => ?_) (fun c10 => ?_)
          · rw [if_pos c10] at hm
            refine Ev.steps tokX11_ask 1 (P := True) (pc' := 19) (lv' := [some (.ref 130), some (.int p1), some (.int p2), none, none, none, none, none]) (st' := [.ref 130]) (h' := mkS x S9) rfl trivial ?_
            cases h11 : gfX11_kinds_130 x S9 with
            | none => rw [h11] at hm; cases hm
            | some q12 =>
              obtain ⟨r13, S14⟩ := q12
              rw [h11] at hm
              dsimp only at hm
              refine ev_callV (N := mX11_kinds) (d' := 128) (bc := 0) (bs := 0) (bc' := 0) (bs' := 0) (as := []) (rest := []) (a := 130) (ci := 11) (dcd tokX11_ask rfl) okX11_kinds inX11_kinds seX11_kinds lk11_452 rfl (by decide) (Nat.le_of_ble_eq_true rfl) rfl ⟨by decide, rfl⟩ (gpX11_kinds_130 x S9 _ _ h11) (fun v h' hq hn => ?_)
              obtain ⟨rfl, rfl⟩ := hq
              refine Ev.steps tokX11_ask 7 (P := True) (pc' := 33) (lv' := [some (.ref 130), some (.int p1), some (.int p2), some (.int r13), some (.int (-1)), some (.int 1000000), some (.int 0), none]) (st' := []) (h' := mkS x S14) rfl trivial ?_
              exact lpX11_ask_130_33 x  20000 S14 p1 p2 r13 (-1) 1000000 0 _ _ hm
          · rw [if_neg c10] at hm
            refine Ev.fgt (lv' := [none, none, none, none, none, none, none, none]) trivial ?_
            exact bpX11_ask_130_16 x S9 _ _ hm
theorem gpX11_ask_130 (x : XT) (S : ST) (p1 : Int32) (p2 : Int32) (r : Int32) (S' : ST) (hm : gfX11_ask_130 x S p1 p2 = some (r, S')) : Ct mX11_ask 129 0 0 [.ref 130, .int p1, .int p2] (mkS x S) (fun v h => v = some (.int r) ∧ h = mkS x S') :=
  Ct.of (lv := [some (.ref 130), some (.int p1), some (.int p2), none, none, none, none, none]) rfl rfl rfl (show (_ : Nat) ≤ _ from Nat.le_of_ble_eq_true rfl) (fun G => rfl) (bpX11_ask_130_0 x S p1 p2 r S' hm)
set_option maxHeartbeats 4000000 in
set_option maxRecDepth 20000 in
theorem bpX11_few_130_20 (x : XT)  (S : ST)  (r : Int64) (S' : ST) (hm : bfX11_few_130_20 x  S  = some (r, S')) : Ev mX11_few 2 0 0 20 [none, none, none, none, none, none] [] (mkS x S) (fun v h => v = some (.long r) ∧ h = mkS x S') := by
    unfold bfX11_few_130_20 at hm
    refine Ev.steps tokX11_few 1 (P := True) (pc' := 23) (lv' := [none, none, none, none, none, none]) (st' := [.long (-1)]) (h' := mkS x S) rfl trivial ?_
    cases hm
    exact Ev.retl tokX11_few rfl rfl ⟨rfl, rfl⟩
set_option maxHeartbeats 4000000 in
set_option maxRecDepth 20000 in
theorem bpX11_few_130_151 (x : XT) (k151 : ST → Int32 → Int64 → Int32 → Option (Int64 × ST)) (hk151 : ∀ (S : ST) (v1 : Int32) (v3 : Int64) (v5 : Int32) (r : Int64) (S' : ST), k151 S v1 v3 v5 = some (r, S') → Ev mX11_few 2 0 0 151 [some (.ref 130), some (.int v1), none, some (.long v3), none, some (.int v5)] [] (mkS x S) (fun v h => v = some (.long r) ∧ h = mkS x S')) (S : ST) (v1 : Int32) (v3 : Int64) (v5 : Int32) (r : Int64) (S' : ST) (hm : bfX11_few_130_151 x k151 S v1 v3 v5 = some (r, S')) : Ev mX11_few 2 0 0 151 [some (.ref 130), some (.int v1), none, some (.long v3), none, some (.int v5)] [] (mkS x S) (fun v h => v = some (.long r) ∧ h = mkS x S') := by
    unfold bfX11_few_130_151 at hm
    refine Ev.steps tokX11_few 3 (P := True) (pc' := if v1 ≤ v5 then 173 else 157) (lv' := [some (.ref 130), some (.int v1), none, some (.long v3), none, some (.int v5)]) (st' := []) (h' := mkS x S) rfl trivial ?_
    refine Ev.ite (fun c1 => ?_) (fun c1 => ?_)
    · rw [if_pos c1] at hm
      refine Ev.steps tokX11_few 1 (P := True) (pc' := 174) (lv' := [some (.ref 130), some (.int v1), none, some (.long v3), none, some (.int v5)]) (st' := [.long v3]) (h' := mkS x S) rfl trivial ?_
      cases hm
      exact Ev.retl tokX11_few rfl rfl ⟨rfl, rfl⟩
    · rw [if_neg c1] at hm
      obtain ⟨o2, hm⟩ := oblk hm
      refine Ev.steps tokX11_few 9 (P := vp_in v5 21 ∧ True) (pc' := 151) (lv' := [some (.ref 130), some (.int v1), none, some (.long (v3 + (S.2.2.1 155 v5.toNatClampNeg))), none, some (.int (v5 + 1))]) (st' := []) (h' := mkS x S) rfl ⟨inb_ok o2, trivial⟩ ?_
      exact hk151 S v1 (v3 + (S.2.2.1 155 v5.toNatClampNeg)) (v5 + 1) _ _ hm
theorem lpX11_few_130_151 (x : XT)  : ∀ (n : Nat) (S : ST) (v1 : Int32) (v3 : Int64) (v5 : Int32) (r : Int64) (S' : ST), lfX11_few_130_151 x  n S v1 v3 v5 = some (r, S') → Ev mX11_few 2 0 0 151 [some (.ref 130), some (.int v1), none, some (.long v3), none, some (.int v5)] [] (mkS x S) (fun v h => v = some (.long r) ∧ h = mkS x S')
  | 0, _, _, _, _, _, _, hm => by cases hm
  | n + 1, S, v1, v3, v5, r, S', hm => bpX11_few_130_151 x (lfX11_few_130_151 x  n) (lpX11_few_130_151 x  n) S v1 v3 v5 r S' hm
set_option maxHeartbeats 4000000 in
set_option maxRecDepth 20000 in
theorem bpX11_few_130_67 (x : XT) (k57 : ST → Int32 → Int32 → Int32 → Option (Int64 × ST)) (hk57 : ∀ (S : ST) (v1 : Int32) (v2 : Int32) (v3 : Int32) (r : Int64) (S' : ST), k57 S v1 v2 v3 = some (r, S') → Ev mX11_few 2 0 0 57 [some (.ref 130), some (.int v1), some (.int v2), some (.int v3), none, none] [] (mkS x S) (fun v h => v = some (.long r) ∧ h = mkS x S')) (k67 : ST → Int32 → Int32 → Int32 → Int32 → Option (Int64 × ST)) (hk67 : ∀ (S : ST) (v1 : Int32) (v2 : Int32) (v3 : Int32) (v4 : Int32) (r : Int64) (S' : ST), k67 S v1 v2 v3 v4 = some (r, S') → Ev mX11_few 2 0 0 67 [some (.ref 130), some (.int v1), some (.int v2), some (.int v3), some (.int v4), none] [] (mkS x S) (fun v h => v = some (.long r) ∧ h = mkS x S')) (S : ST) (v1 : Int32) (v2 : Int32) (v3 : Int32) (v4 : Int32) (r : Int64) (S' : ST) (hm : bfX11_few_130_67 x k57 k67 S v1 v2 v3 v4 = some (r, S')) : Ev mX11_few 2 0 0 67 [some (.ref 130), some (.int v1), some (.int v2), some (.int v3), some (.int v4), none] [] (mkS x S) (fun v h => v = some (.long r) ∧ h = mkS x S') := by
    unfold bfX11_few_130_67 at hm
    refine Ev.steps tokX11_few 2 (P := True) (pc' := if v4 < 0 then 140 else 72) (lv' := [some (.ref 130), some (.int v1), some (.int v2), some (.int v3), some (.int v4), none]) (st' := []) (h' := mkS x S) rfl trivial ?_
    refine Ev.ite (fun c1 => ?_) (fun c1 => ?_)
    · rw [if_pos c1] at hm
      refine Ev.steps tokX11_few 2 (P := True) (pc' := 57) (lv' := [some (.ref 130), some (.int v1), some (.int v2), some (.int (v3 + 1)), some (.int v4), none]) (st' := []) (h' := mkS x S) rfl trivial ?_
      refine Ev.fgt (lv' := [some (.ref 130), some (.int v1), some (.int v2), some (.int (v3 + 1)), none, none]) ⟨rfl, rfl, rfl, rfl, trivial⟩ ?_
      exact hk57 S v1 v2 (v3 + 1) _ _ hm
    · rw [if_neg c1] at hm
      obtain ⟨o2, hm⟩ := oblk hm
      obtain ⟨o3, hm⟩ := oblk hm
      obtain ⟨o4, hm⟩ := oblk hm
      obtain ⟨o5, hm⟩ := oblk hm
      obtain ⟨o6, hm⟩ := oblk hm
      refine Ev.steps tokX11_few 41 (P := vp_in (v4 + 1) 21 ∧ vp_in v4 21 ∧ vp_in 89 5703 ∧ ¬ 10 = 0 ∧ vp_in (v4 + 1) 21 ∧ vp_in v4 21 ∧ vp_in 89 5703 ∧ ¬ 10 = 0 ∧ vp_in v4 21 ∧ True) (pc' := 67) (lv' := [some (.ref 130), some (.int v1), some (.int v2), some (.int v3), some (.int (v4 + (-1))), none]) (st' := []) (h' := mkS x (S.1, S.2.1, (u2 (u2 S.2.2.1 155 ((v4 + 1).toNatClampNeg) ((S.2.2.1 155 ((v4 + 1).toNatClampNeg)) + (((S.2.2.1 155 v4.toNatClampNeg) * ((S.2.1 132 89).toInt64)) / 10))) 155 v4.toNatClampNeg ((((u2 S.2.2.1 155 ((v4 + 1).toNatClampNeg) ((S.2.2.1 155 ((v4 + 1).toNatClampNeg)) + (((S.2.2.1 155 v4.toNatClampNeg) * ((S.2.1 132 89).toInt64)) / 10))) 155 v4.toNatClampNeg) * ((10 - (S.2.1 132 89)).toInt64)) / 10)), S.2.2.2)) rfl ⟨inb_ok o2, inb_ok o3, (by unfold vp_in; decide), (by decide), inb_ok o4, inb_ok o5, (by unfold vp_in; decide), (by decide), inb_ok o6, trivial⟩ ?_
      exact hk67 (S.1, S.2.1, (u2 (u2 S.2.2.1 155 ((v4 + 1).toNatClampNeg) ((S.2.2.1 155 ((v4 + 1).toNatClampNeg)) + (((S.2.2.1 155 v4.toNatClampNeg) * ((S.2.1 132 89).toInt64)) / 10))) 155 v4.toNatClampNeg ((((u2 S.2.2.1 155 ((v4 + 1).toNatClampNeg) ((S.2.2.1 155 ((v4 + 1).toNatClampNeg)) + (((S.2.2.1 155 v4.toNatClampNeg) * ((S.2.1 132 89).toInt64)) / 10))) 155 v4.toNatClampNeg) * ((10 - (S.2.1 132 89)).toInt64)) / 10)), S.2.2.2) v1 v2 v3 (v4 + (-1)) _ _ hm
theorem lpX11_few_130_67 (x : XT) (k57 : ST → Int32 → Int32 → Int32 → Option (Int64 × ST)) (hk57 : ∀ (S : ST) (v1 : Int32) (v2 : Int32) (v3 : Int32) (r : Int64) (S' : ST), k57 S v1 v2 v3 = some (r, S') → Ev mX11_few 2 0 0 57 [some (.ref 130), some (.int v1), some (.int v2), some (.int v3), none, none] [] (mkS x S) (fun v h => v = some (.long r) ∧ h = mkS x S')) : ∀ (n : Nat) (S : ST) (v1 : Int32) (v2 : Int32) (v3 : Int32) (v4 : Int32) (r : Int64) (S' : ST), lfX11_few_130_67 x k57 n S v1 v2 v3 v4 = some (r, S') → Ev mX11_few 2 0 0 67 [some (.ref 130), some (.int v1), some (.int v2), some (.int v3), some (.int v4), none] [] (mkS x S) (fun v h => v = some (.long r) ∧ h = mkS x S')
  | 0, _, _, _, _, _, _, _, hm => by cases hm
  | n + 1, S, v1, v2, v3, v4, r, S', hm => bpX11_few_130_67 x k57 hk57 (lfX11_few_130_67 x k57 n) (lpX11_few_130_67 x k57 hk57 n) S v1 v2 v3 v4 r S' hm
set_option maxHeartbeats 4000000 in
set_option maxRecDepth 20000 in
theorem bpX11_few_130_57 (x : XT) (k57 : ST → Int32 → Int32 → Int32 → Option (Int64 × ST)) (hk57 : ∀ (S : ST) (v1 : Int32) (v2 : Int32) (v3 : Int32) (r : Int64) (S' : ST), k57 S v1 v2 v3 = some (r, S') → Ev mX11_few 2 0 0 57 [some (.ref 130), some (.int v1), some (.int v2), some (.int v3), none, none] [] (mkS x S) (fun v h => v = some (.long r) ∧ h = mkS x S')) (S : ST) (v1 : Int32) (v2 : Int32) (v3 : Int32) (r : Int64) (S' : ST) (hm : bfX11_few_130_57 x k57 S v1 v2 v3 = some (r, S')) : Ev mX11_few 2 0 0 57 [some (.ref 130), some (.int v1), some (.int v2), some (.int v3), none, none] [] (mkS x S) (fun v h => v = some (.long r) ∧ h = mkS x S') := by
    unfold bfX11_few_130_57 at hm
    refine Ev.steps tokX11_few 3 (P := True) (pc' := if v2 ≤ v3 then 146 else 62) (lv' := [some (.ref 130), some (.int v1), some (.int v2), some (.int v3), none, none]) (st' := []) (h' := mkS x S) rfl trivial ?_
    refine Ev.ite (fun c1 => ?_) (fun c1 => ?_)
    · rw [if_pos c1] at hm
      refine Ev.steps tokX11_few 4 (P := True) (pc' := 151) (lv' := [some (.ref 130), some (.int v1), some (.int v2), some (.long 0), none, some (.int 0)]) (st' := []) (h' := mkS x S) rfl trivial ?_
      refine Ev.fgt (lv' := [some (.ref 130), some (.int v1), none, some (.long 0), none, some (.int 0)]) ⟨rfl, rfl, rfl, rfl, trivial⟩ ?_
      exact lpX11_few_130_151 x  20000 S v1 0 0 _ _ hm
    · rw [if_neg c1] at hm
      refine Ev.steps tokX11_few 4 (P := True) (pc' := 67) (lv' := [some (.ref 130), some (.int v1), some (.int v2), some (.int v3), some (.int (v1 - 1)), none]) (st' := []) (h' := mkS x S) rfl trivial ?_
      exact lpX11_few_130_67 x k57 hk57 20000 S v1 v2 v3 (v1 - 1) _ _ hm
theorem lpX11_few_130_57 (x : XT)  : ∀ (n : Nat) (S : ST) (v1 : Int32) (v2 : Int32) (v3 : Int32) (r : Int64) (S' : ST), lfX11_few_130_57 x  n S v1 v2 v3 = some (r, S') → Ev mX11_few 2 0 0 57 [some (.ref 130), some (.int v1), some (.int v2), some (.int v3), none, none] [] (mkS x S) (fun v h => v = some (.long r) ∧ h = mkS x S')
  | 0, _, _, _, _, _, _, hm => by cases hm
  | n + 1, S, v1, v2, v3, r, S', hm => bpX11_few_130_57 x (lfX11_few_130_57 x  n) (lpX11_few_130_57 x  n) S v1 v2 v3 r S' hm
set_option maxHeartbeats 4000000 in
set_option maxRecDepth 20000 in
theorem bpX11_few_130_48 (x : XT) (k26 : ST → Int32 → Int32 → Int32 → Option (Int64 × ST)) (hk26 : ∀ (S : ST) (v1 : Int32) (v2 : Int32) (v3 : Int32) (r : Int64) (S' : ST), k26 S v1 v2 v3 = some (r, S') → Ev mX11_few 2 0 0 26 [some (.ref 130), some (.int v1), some (.int v2), some (.int v3), none, none] [] (mkS x S) (fun v h => v = some (.long r) ∧ h = mkS x S')) (S : ST) (v1 : Int32) (v2 : Int32) (v3 : Int32) (t1 : Int32) (t2 : Int64) (r : Int64) (S' : ST) (hm : bfX11_few_130_48 x k26 S v1 v2 v3 t1 t2 = some (r, S')) : Ev mX11_few 2 0 0 48 [some (.ref 130), some (.int v1), some (.int v2), some (.int v3), none, none] [.long t2, .int t1, .ref 155] (mkS x S) (fun v h => v = some (.long r) ∧ h = mkS x S') := by
    unfold bfX11_few_130_48 at hm
    obtain ⟨o1, hm⟩ := oblk hm
    refine Ev.steps tokX11_few 3 (P := vp_in t1 21 ∧ True) (pc' := 26) (lv' := [some (.ref 130), some (.int v1), some (.int v2), some (.int (v3 + 1)), none, none]) (st' := []) (h' := mkS x (S.1, S.2.1, (u2 S.2.2.1 155 t1.toNatClampNeg t2), S.2.2.2)) rfl ⟨inb_ok o1, trivial⟩ ?_
    exact hk26 (S.1, S.2.1, (u2 S.2.2.1 155 t1.toNatClampNeg t2), S.2.2.2) v1 v2 (v3 + 1) _ _ hm
set_option maxHeartbeats 4000000 in
set_option maxRecDepth 20000 in
theorem bpX11_few_130_26 (x : XT) (k26 : ST → Int32 → Int32 → Int32 → Option (Int64 × ST)) (hk26 : ∀ (S : ST) (v1 : Int32) (v2 : Int32) (v3 : Int32) (r : Int64) (S' : ST), k26 S v1 v2 v3 = some (r, S') → Ev mX11_few 2 0 0 26 [some (.ref 130), some (.int v1), some (.int v2), some (.int v3), none, none] [] (mkS x S) (fun v h => v = some (.long r) ∧ h = mkS x S')) (S : ST) (v1 : Int32) (v2 : Int32) (v3 : Int32) (r : Int64) (S' : ST) (hm : bfX11_few_130_26 x k26 S v1 v2 v3 = some (r, S')) : Ev mX11_few 2 0 0 26 [some (.ref 130), some (.int v1), some (.int v2), some (.int v3), none, none] [] (mkS x S) (fun v h => v = some (.long r) ∧ h = mkS x S') := by
    unfold bfX11_few_130_26 at hm
    refine Ev.steps tokX11_few 3 (P := True) (pc' := if 20 < v3 then 55 else 32) (lv' := [some (.ref 130), some (.int v1), some (.int v2), some (.int v3), none, none]) (st' := []) (h' := mkS x S) rfl trivial ?_
    refine Ev.ite (fun c1 => ?_) (fun c1 => ?_)
    · rw [if_pos c1] at hm
      refine Ev.steps tokX11_few 2 (P := True) (pc' := 57) (lv' := [some (.ref 130), some (.int v1), some (.int v2), some (.int 0), none, none]) (st' := []) (h' := mkS x S) rfl trivial ?_
      exact lpX11_few_130_57 x  20000 S v1 v2 0 _ _ hm
    · rw [if_neg c1] at hm
      refine Ev.steps tokX11_few 5 (P := True) (pc' := if ¬ v3 = 0 then 47 else 41) (lv' := [some (.ref 130), some (.int v1), some (.int v2), some (.int v3), none, none]) (st' := [.int v3, .ref 155]) (h' := mkS x S) rfl trivial ?_
      refine Ev.ite (fun c2 => ?_) (fun c2 => ?_)
      · rw [if_pos c2] at hm
        refine Ev.steps tokX11_few 1 (P := True) (pc' := 48) (lv' := [some (.ref 130), some (.int v1), some (.int v2), some (.int v3), none, none]) (st' := [.long 0, .int v3, .ref 155]) (h' := mkS x S) rfl trivial ?_
        exact bpX11_few_130_48 x k26 hk26 S v1 v2 v3 v3 0 _ _ hm
      · rw [if_neg c2] at hm
        refine Ev.steps tokX11_few 2 (P := True) (pc' := 48) (lv' := [some (.ref 130), some (.int v1), some (.int v2), some (.int v3), none, none]) (st' := [.long 1000000000000, .int v3, .ref 155]) (h' := mkS x S) rfl trivial ?_
        exact bpX11_few_130_48 x k26 hk26 S v1 v2 v3 v3 1000000000000 _ _ hm
theorem lpX11_few_130_26 (x : XT)  : ∀ (n : Nat) (S : ST) (v1 : Int32) (v2 : Int32) (v3 : Int32) (r : Int64) (S' : ST), lfX11_few_130_26 x  n S v1 v2 v3 = some (r, S') → Ev mX11_few 2 0 0 26 [some (.ref 130), some (.int v1), some (.int v2), some (.int v3), none, none] [] (mkS x S) (fun v h => v = some (.long r) ∧ h = mkS x S')
  | 0, _, _, _, _, _, _, hm => by cases hm
  | n + 1, S, v1, v2, v3, r, S', hm => bpX11_few_130_26 x (lfX11_few_130_26 x  n) (lpX11_few_130_26 x  n) S v1 v2 v3 r S' hm
set_option maxHeartbeats 4000000 in
set_option maxRecDepth 20000 in
theorem bpX11_few_130_0 (x : XT)  (S : ST) (p1 : Int32) (p2 : Int32) (r : Int64) (S' : ST) (hm : bfX11_few_130_0 x  S p1 p2 = some (r, S')) : Ev mX11_few 2 0 0 0 [some (.ref 130), some (.int p1), some (.int p2), none, none, none] [] (mkS x S) (fun v h => v = some (.long r) ∧ h = mkS x S') := by
    unfold bfX11_few_130_0 at hm
    refine Ev.steps tokX11_few 3 (P := True) (pc' := 4) (lv' := [some (.ref 130), some (.int p1), some (.int p2), none, none, none]) (st' := [.int 20, .int 1, .int p1]) (h' := mkS x S) rfl trivial ?_
    cases h1 : gfX11_lies x S p1 1 20 with
    | none => rw [h1] at hm; cases hm
    | some q2 =>
      obtain ⟨r3, S4⟩ := q2
      rw [h1] at hm
      dsimp only at hm
      refine ev_callS (N := mX11_lies) (d' := 1) (bc := 0) (bs := 0) (bc' := 0) (bs' := 0) (as := [.int p1, .int 1, .int 20]) (rest := []) (dcd tokX11_few rfl) okX11_lies inX11_lies lk11_18 rfl (by decide) (Nat.le_of_ble_eq_true rfl) (gpX11_lies x S p1 1 20 _ _ h1) (fun v h' hq hn => ?_)
      obtain ⟨rfl, rfl⟩ := hq
      refine Ev.steps tokX11_few 1 (P := True) (pc' := if r3 = 0 then 20 else 10) (lv' := [some (.ref 130), some (.int p1), some (.int p2), none, none, none]) (st' := []) (h' := mkS x S4) rfl trivial ?_
      refine Ev.ite (fun c5 => ?_) (fun c5 => ?_)
      · rw [if_pos c5] at hm
        refine Ev.fgt (lv' := [none, none, none, none, none, none]) trivial ?_
        exact bpX11_few_130_20 x S4 _ _ hm
      · rw [if_neg c5] at hm
        refine Ev.steps tokX11_few 3 (P := True) (pc' := 14) (lv' := [some (.ref 130), some (.int p1), some (.int p2), none, none, none]) (st' := [.int 99, .int 0, .int p2]) (h' := mkS x S4) rfl trivial ?_
        cases h6 : gfX11_lies x S4 p2 0 99 with
        | none => rw [h6] at hm; cases hm
        | some q7 =>
          obtain ⟨r8, S9⟩ := q7
          rw [h6] at hm
          dsimp only at hm
          refine ev_callS (N := mX11_lies) (d' := 1) (bc := 0) (bs := 0) (bc' := 0) (bs' := 0) (as := [.int p2, .int 0, .int 99]) (rest := []) (dcd tokX11_few rfl) okX11_lies inX11_lies lk11_18 rfl (by decide) (Nat.le_of_ble_eq_true rfl) (gpX11_lies x S4 p2 0 99 _ _ h6) (fun v h' hq hn => ?_)
          obtain ⟨rfl, rfl⟩ := hq
          refine Ev.steps tokX11_few 1 (P := True) (pc' := if ¬ r8 = 0 then 24 else 20) (lv' := [some (.ref 130), some (.int p1), some (.int p2), none, none, none]) (st' := []) (h' := mkS x S9) rfl trivial ?_
          refine Ev.ite (fun c10 => ?_) (fun c10 => ?_)
          · rw [if_pos c10] at hm
            refine Ev.steps tokX11_few 2 (P := True) (pc' := 26) (lv' := [some (.ref 130), some (.int p1), some (.int p2), some (.int 0), none, none]) (st' := []) (h' := mkS x S9) rfl trivial ?_
            exact lpX11_few_130_26 x  20000 S9 p1 p2 0 _ _ hm
          · rw [if_neg c10] at hm
            refine Ev.fgt (lv' := [none, none, none, none, none, none]) trivial ?_
            exact bpX11_few_130_20 x S9 _ _ hm
theorem gpX11_few_130 (x : XT) (S : ST) (p1 : Int32) (p2 : Int32) (r : Int64) (S' : ST) (hm : gfX11_few_130 x S p1 p2 = some (r, S')) : Ct mX11_few 2 0 0 [.ref 130, .int p1, .int p2] (mkS x S) (fun v h => v = some (.long r) ∧ h = mkS x S') :=
  Ct.of (lv := [some (.ref 130), some (.int p1), some (.int p2), none, none, none]) rfl rfl rfl (show (_ : Nat) ≤ _ from Nat.le_of_ble_eq_true rfl) (fun G => rfl) (bpX11_few_130_0 x S p1 p2 r S' hm)
set_option maxHeartbeats 4000000 in
set_option maxRecDepth 20000 in
theorem bpX11_stopped_130_0 (x : XT)  (S : ST)  (r : Int32) (S' : ST) (hm : bfX11_stopped_130_0 x  S  = some (r, S')) : Ev mX11_stopped 1 0 0 0 [some (.ref 130)] [] (mkS x S) (fun v h => v = some (.int r) ∧ h = mkS x S') := by
    unfold bfX11_stopped_130_0 at hm
    refine Ev.steps tokX11_stopped 2 (P := True) (pc' := 4) (lv' := [some (.ref 130)]) (st' := [.int (S.1 130 43)]) (h' := mkS x S) rfl trivial ?_
    cases hm
    exact Ev.reti tokX11_stopped rfl rfl ⟨rfl, rfl⟩
theorem gpX11_stopped_130 (x : XT) (S : ST)  (r : Int32) (S' : ST) (hm : gfX11_stopped_130 x S  = some (r, S')) : Ct mX11_stopped 1 0 0 [.ref 130] (mkS x S) (fun v h => v = some (.int r) ∧ h = mkS x S') :=
  Ct.of (lv := [some (.ref 130)]) rfl rfl rfl (show (_ : Nat) ≤ _ from Nat.le_of_ble_eq_true rfl) (fun G => rfl) (bpX11_stopped_130_0 x S  r S' hm)
set_option maxHeartbeats 4000000 in
set_option maxRecDepth 20000 in
theorem bpX11_goesAlong_130_234 (x : XT)  (S : ST) (t1 : Int32) (r : Unit) (S' : ST) (hm : bfX11_goesAlong_130_234 x  S t1 = some (r, S')) : Ev mX11_goesAlong 124 0 0 234 [some (.ref 130), none, none, none, none] [.int t1, .ref 130] (mkS x S) (fun v h => v = none ∧ h = mkS x S') := by
    unfold bfX11_goesAlong_130_234 at hm
    obtain ⟨o1, hm⟩ := oblk hm
    refine Ev.steps tokX11_goesAlong 7 (P := (t1 = 0 ∨ t1 = 1) ∧ True) (pc' := 247) (lv' := [some (.ref 130), none, none, none, none]) (st' := []) (h' := mkS x ((u2 (u2 S.1 130 48 t1) 130 22 ((S.1 130 22) + 1)), S.2.1, S.2.2.1, S.2.2.2)) rfl ⟨bbz_ok o1, trivial⟩ ?_
    cases hm
    exact Ev.retv tokX11_goesAlong rfl rfl ⟨rfl, rfl⟩
set_option maxHeartbeats 4000000 in
set_option maxRecDepth 20000 in
theorem bpX11_goesAlong_130_233 (x : XT)  (S : ST)  (r : Unit) (S' : ST) (hm : bfX11_goesAlong_130_233 x  S  = some (r, S')) : Ev mX11_goesAlong 124 0 0 233 [some (.ref 130), none, none, none, none] [.ref 130] (mkS x S) (fun v h => v = none ∧ h = mkS x S') := by
    unfold bfX11_goesAlong_130_233 at hm
    refine Ev.steps tokX11_goesAlong 1 (P := True) (pc' := 234) (lv' := [some (.ref 130), none, none, none, none]) (st' := [.int 0, .ref 130]) (h' := mkS x S) rfl trivial ?_
    exact bpX11_goesAlong_130_234 x S 0 _ _ hm
set_option maxHeartbeats 4000000 in
set_option maxRecDepth 20000 in
theorem bpX11_goesAlong_130_211 (x : XT)  (S : ST) (t1 : Int32) (r : Unit) (S' : ST) (hm : bfX11_goesAlong_130_211 x  S t1 = some (r, S')) : Ev mX11_goesAlong 124 0 0 211 [some (.ref 130), none, none, none, none] [.int t1, .ref 130] (mkS x S) (fun v h => v = none ∧ h = mkS x S') := by
    unfold bfX11_goesAlong_130_211 at hm
    obtain ⟨o1, hm⟩ := oblk hm
    refine Ev.steps tokX11_goesAlong 5 (P := (t1 = 0 ∨ t1 = 1) ∧ True) (pc' := if t1 = 0 then 233 else 222) (lv' := [some (.ref 130), none, none, none, none]) (st' := [.ref 130]) (h' := mkS x ((u2 S.1 130 48 t1), S.2.1, S.2.2.1, S.2.2.2)) rfl ⟨bbz_ok o1, trivial⟩ ?_
    refine Ev.ite (fun c2 => ?_) (fun c2 => ?_)
    · rw [if_pos c2] at hm
      exact bpX11_goesAlong_130_233 x ((u2 S.1 130 48 t1), S.2.1, S.2.2.1, S.2.2.2) _ _ hm
    · rw [if_neg c2] at hm
      refine Ev.steps tokX11_goesAlong 3 (P := True) (pc' := if ¬ (S.1 130 24) = 0 then 233 else 229) (lv' := [some (.ref 130), none, none, none, none]) (st' := [.ref 130]) (h' := mkS x ((u2 S.1 130 48 t1), S.2.1, S.2.2.1, S.2.2.2)) rfl trivial ?_
      refine Ev.ite (fun c3 => ?_) (fun c3 => ?_)
      · rw [if_pos c3] at hm
        exact bpX11_goesAlong_130_233 x ((u2 S.1 130 48 t1), S.2.1, S.2.2.1, S.2.2.2) _ _ hm
      · rw [if_neg c3] at hm
        refine Ev.steps tokX11_goesAlong 2 (P := True) (pc' := 234) (lv' := [some (.ref 130), none, none, none, none]) (st' := [.int 1, .ref 130]) (h' := mkS x ((u2 S.1 130 48 t1), S.2.1, S.2.2.1, S.2.2.2)) rfl trivial ?_
        exact bpX11_goesAlong_130_234 x ((u2 S.1 130 48 t1), S.2.1, S.2.2.1, S.2.2.2) 1 _ _ hm
set_option maxHeartbeats 4000000 in
set_option maxRecDepth 20000 in
theorem bpX11_goesAlong_130_206 (x : XT)  (S : ST)  (r : Unit) (S' : ST) (hm : bfX11_goesAlong_130_206 x  S  = some (r, S')) : Ev mX11_goesAlong 124 0 0 206 [some (.ref 130), none, none, none, none] [.ref 130] (mkS x S) (fun v h => v = none ∧ h = mkS x S') := by
    unfold bfX11_goesAlong_130_206 at hm
    refine Ev.steps tokX11_goesAlong 2 (P := True) (pc' := 211) (lv' := [some (.ref 130), none, none, none, none]) (st' := [.int 1, .ref 130]) (h' := mkS x S) rfl trivial ?_
    exact bpX11_goesAlong_130_211 x S 1 _ _ hm
set_option maxHeartbeats 4000000 in
set_option maxRecDepth 20000 in
theorem bpX11_goesAlong_130_184 (x : XT)  (S : ST) (v2 : Int32) (r : Unit) (S' : ST) (hm : bfX11_goesAlong_130_184 x  S v2 = some (r, S')) : Ev mX11_goesAlong 124 0 0 184 [some (.ref 130), none, some (.int v2), none, none] [] (mkS x S) (fun v h => v = none ∧ h = mkS x S') := by
    unfold bfX11_goesAlong_130_184 at hm
    refine Ev.steps tokX11_goesAlong 6 (P := (0 = 0 ∨ 0 = 1) ∧ True) (pc' := 192) (lv' := [some (.ref 130), none, some (.int v2), none, none]) (st' := [.int 4, .ref 130, .ref 130]) (h' := mkS x ((u2 S.1 130 24 0), S.2.1, S.2.2.1, S.2.2.2)) rfl ⟨Or.inl rfl, trivial⟩ ?_
    cases h1 : gfX11_passes0_130 x ((u2 S.1 130 24 0), S.2.1, S.2.2.1, S.2.2.2) 4 with
    | none => rw [h1] at hm; cases hm
    | some q2 =>
      obtain ⟨r3, S4⟩ := q2
      rw [h1] at hm
      dsimp only at hm
      refine ev_callV (N := mX11_passes0) (d' := 2) (bc := 0) (bs := 0) (bc' := 0) (bs' := 0) (as := [.int 4]) (rest := [.ref 130]) (a := 130) (ci := 11) (dcd tokX11_goesAlong rfl) okX11_passes0 inX11_passes0 seX11_passes0 lk11_315 rfl (by decide) (Nat.le_of_ble_eq_true rfl) rfl ⟨by decide, rfl⟩ (gpX11_passes0_130 x ((u2 S.1 130 24 0), S.2.1, S.2.2.1, S.2.2.2) 4 _ _ h1) (fun v h' hq hn => ?_)
      obtain ⟨rfl, rfl⟩ := hq
      refine Ev.steps tokX11_goesAlong 1 (P := True) (pc' := if r3 = 0 then 206 else 198) (lv' := [some (.ref 130), none, some (.int v2), none, none]) (st' := [.ref 130]) (h' := mkS x S4) rfl trivial ?_
      refine Ev.ite (fun c5 => ?_) (fun c5 => ?_)
      · rw [if_pos c5] at hm
        refine Ev.fgt (lv' := [some (.ref 130), none, none, none, none]) ⟨rfl, trivial⟩ ?_
        exact bpX11_goesAlong_130_206 x S4 _ _ hm
      · rw [if_neg c5] at hm
        refine Ev.steps tokX11_goesAlong 2 (P := True) (pc' := 200) (lv' := [some (.ref 130), none, some (.int v2), none, none]) (st' := [.int v2, .ref 130, .ref 130]) (h' := mkS x S4) rfl trivial ?_
        cases h6 : gfX11_testOf_130 x S4 v2 with
        | none => rw [h6] at hm; cases hm
        | some q7 =>
          obtain ⟨r8, S9⟩ := q7
          rw [h6] at hm
          dsimp only at hm
          refine ev_callV (N := mX11_testOf) (d' := 123) (bc := 0) (bs := 0) (bc' := 0) (bs' := 0) (as := [.int v2]) (rest := [.ref 130]) (a := 130) (ci := 11) (dcd tokX11_goesAlong rfl) okX11_testOf inX11_testOf seX11_testOf lk11_345 rfl (by decide) (Nat.le_of_ble_eq_true rfl) rfl ⟨by decide, rfl⟩ (gpX11_testOf_130 x S4 v2 _ _ h6) (fun v h' hq hn => ?_)
          obtain ⟨rfl, rfl⟩ := hq
          refine Ev.steps tokX11_goesAlong 1 (P := True) (pc' := if r8 = 0 then 210 else 206) (lv' := [some (.ref 130), none, some (.int v2), none, none]) (st' := [.ref 130]) (h' := mkS x S9) rfl trivial ?_
          refine Ev.ite (fun c10 => ?_) (fun c10 => ?_)
          · rw [if_pos c10] at hm
            refine Ev.steps tokX11_goesAlong 1 (P := True) (pc' := 211) (lv' := [some (.ref 130), none, some (.int v2), none, none]) (st' := [.int 0, .ref 130]) (h' := mkS x S9) rfl trivial ?_
            refine Ev.fgt (lv' := [some (.ref 130), none, none, none, none]) ⟨rfl, trivial⟩ ?_
            exact bpX11_goesAlong_130_211 x S9 0 _ _ hm
          · rw [if_neg c10] at hm
            refine Ev.fgt (lv' := [some (.ref 130), none, none, none, none]) ⟨rfl, trivial⟩ ?_
            exact bpX11_goesAlong_130_206 x S9 _ _ hm
set_option maxHeartbeats 4000000 in
set_option maxRecDepth 20000 in
theorem bpX11_goesAlong_130_134 (x : XT) (k76 : ST → Int32 → Int32 → Int32 → Option (Unit × ST)) (hk76 : ∀ (S : ST) (v2 : Int32) (v3 : Int32) (v4 : Int32) (r : Unit) (S' : ST), k76 S v2 v3 v4 = some (r, S') → Ev mX11_goesAlong 124 0 0 76 [some (.ref 130), none, some (.int v2), some (.int v3), some (.int v4)] [] (mkS x S) (fun v h => v = none ∧ h = mkS x S')) (S : ST) (v2 : Int32) (v3 : Int32) (v4 : Int32) (t1 : Int32) (r : Unit) (S' : ST) (hm : bfX11_goesAlong_130_134 x k76 S v2 v3 v4 t1 = some (r, S')) : Ev mX11_goesAlong 124 0 0 134 [some (.ref 130), none, some (.int v2), some (.int v3), some (.int v4)] [.int t1, .ref 130] (mkS x S) (fun v h => v = none ∧ h = mkS x S') := by
    unfold bfX11_goesAlong_130_134 at hm
    obtain ⟨o1, hm⟩ := oblk hm
    refine Ev.steps tokX11_goesAlong 3 (P := (t1 = 0 ∨ t1 = 1) ∧ True) (pc' := 76) (lv' := [some (.ref 130), none, some (.int v2), some (.int v3), some (.int (v4 + 1))]) (st' := []) (h' := mkS x ((u2 S.1 130 47 t1), S.2.1, S.2.2.1, S.2.2.2)) rfl ⟨bbz_ok o1, trivial⟩ ?_
    exact hk76 ((u2 S.1 130 47 t1), S.2.1, S.2.2.1, S.2.2.2) v2 v3 (v4 + 1) _ _ hm
set_option maxHeartbeats 4000000 in
set_option maxRecDepth 20000 in
theorem bpX11_goesAlong_130_133 (x : XT) (k76 : ST → Int32 → Int32 → Int32 → Option (Unit × ST)) (hk76 : ∀ (S : ST) (v2 : Int32) (v3 : Int32) (v4 : Int32) (r : Unit) (S' : ST), k76 S v2 v3 v4 = some (r, S') → Ev mX11_goesAlong 124 0 0 76 [some (.ref 130), none, some (.int v2), some (.int v3), some (.int v4)] [] (mkS x S) (fun v h => v = none ∧ h = mkS x S')) (S : ST) (v2 : Int32) (v3 : Int32) (v4 : Int32) (r : Unit) (S' : ST) (hm : bfX11_goesAlong_130_133 x k76 S v2 v3 v4 = some (r, S')) : Ev mX11_goesAlong 124 0 0 133 [some (.ref 130), none, some (.int v2), some (.int v3), some (.int v4)] [.ref 130] (mkS x S) (fun v h => v = none ∧ h = mkS x S') := by
    unfold bfX11_goesAlong_130_133 at hm
    refine Ev.steps tokX11_goesAlong 1 (P := True) (pc' := 134) (lv' := [some (.ref 130), none, some (.int v2), some (.int v3), some (.int v4)]) (st' := [.int 0, .ref 130]) (h' := mkS x S) rfl trivial ?_
    exact bpX11_goesAlong_130_134 x k76 hk76 S v2 v3 v4 0 _ _ hm
set_option maxHeartbeats 4000000 in
set_option maxRecDepth 20000 in
theorem bpX11_goesAlong_130_97 (x : XT) (k76 : ST → Int32 → Int32 → Int32 → Option (Unit × ST)) (hk76 : ∀ (S : ST) (v2 : Int32) (v3 : Int32) (v4 : Int32) (r : Unit) (S' : ST), k76 S v2 v3 v4 = some (r, S') → Ev mX11_goesAlong 124 0 0 76 [some (.ref 130), none, some (.int v2), some (.int v3), some (.int v4)] [] (mkS x S) (fun v h => v = none ∧ h = mkS x S')) (S : ST) (v2 : Int32) (v3 : Int32) (v4 : Int32) (r : Unit) (S' : ST) (hm : bfX11_goesAlong_130_97 x k76 S v2 v3 v4 = some (r, S')) : Ev mX11_goesAlong 124 0 0 97 [some (.ref 130), none, some (.int v2), some (.int v3), some (.int v4)] [] (mkS x S) (fun v h => v = none ∧ h = mkS x S') := by
    unfold bfX11_goesAlong_130_97 at hm
    refine Ev.steps tokX11_goesAlong 8 (P := (0 = 0 ∨ 0 = 1) ∧ True) (pc' := 110) (lv' := [some (.ref 130), none, some (.int v2), some (.int v3), some (.int v4)]) (st' := [.int v2, .ref 130, .int v4, .ref 156]) (h' := mkS x ((u2 S.1 130 24 0), S.2.1, S.2.2.1, S.2.2.2)) rfl ⟨Or.inl rfl, trivial⟩ ?_
    cases h1 : gfX11_sumOf_130 x ((u2 S.1 130 24 0), S.2.1, S.2.2.1, S.2.2.2) v2 with
    | none => rw [h1] at hm; cases hm
    | some q2 =>
      obtain ⟨r3, S4⟩ := q2
      rw [h1] at hm
      dsimp only at hm
      refine ev_callV (N := mX11_sumOf) (d' := 63) (bc := 0) (bs := 0) (bc' := 0) (bs' := 0) (as := [.int v2]) (rest := [.int v4, .ref 156]) (a := 130) (ci := 11) (dcd tokX11_goesAlong rfl) okX11_sumOf inX11_sumOf seX11_sumOf lk11_318 rfl (by decide) (Nat.le_of_ble_eq_true rfl) rfl ⟨by decide, rfl⟩ (gpX11_sumOf_130 x ((u2 S.1 130 24 0), S.2.1, S.2.2.1, S.2.2.2) v2 _ _ h1) (fun v h' hq hn => ?_)
      obtain ⟨rfl, rfl⟩ := hq
      obtain ⟨o5, hm⟩ := oblk hm
      refine Ev.steps tokX11_goesAlong 5 (P := vp_in v4 2 ∧ True) (pc' := if (S4.1 130 47) = 0 then 133 else 122) (lv' := [some (.ref 130), none, some (.int v2), some (.int v3), some (.int v4)]) (st' := [.ref 130]) (h' := mkS x (S4.1, S4.2.1, (u2 S4.2.2.1 156 v4.toNatClampNeg r3), S4.2.2.2)) rfl ⟨inb_ok o5, trivial⟩ ?_
      refine Ev.ite (fun c6 => ?_) (fun c6 => ?_)
      · rw [if_pos c6] at hm
        exact bpX11_goesAlong_130_133 x k76 hk76 (S4.1, S4.2.1, (u2 S4.2.2.1 156 v4.toNatClampNeg r3), S4.2.2.2) v2 v3 v4 _ _ hm
      · rw [if_neg c6] at hm
        refine Ev.steps tokX11_goesAlong 3 (P := True) (pc' := if ¬ (S4.1 130 24) = 0 then 133 else 129) (lv' := [some (.ref 130), none, some (.int v2), some (.int v3), some (.int v4)]) (st' := [.ref 130]) (h' := mkS x (S4.1, S4.2.1, (u2 S4.2.2.1 156 v4.toNatClampNeg r3), S4.2.2.2)) rfl trivial ?_
        refine Ev.ite (fun c7 => ?_) (fun c7 => ?_)
        · rw [if_pos c7] at hm
          exact bpX11_goesAlong_130_133 x k76 hk76 (S4.1, S4.2.1, (u2 S4.2.2.1 156 v4.toNatClampNeg r3), S4.2.2.2) v2 v3 v4 _ _ hm
        · rw [if_neg c7] at hm
          refine Ev.steps tokX11_goesAlong 2 (P := True) (pc' := 134) (lv' := [some (.ref 130), none, some (.int v2), some (.int v3), some (.int v4)]) (st' := [.int 1, .ref 130]) (h' := mkS x (S4.1, S4.2.1, (u2 S4.2.2.1 156 v4.toNatClampNeg r3), S4.2.2.2)) rfl trivial ?_
          exact bpX11_goesAlong_130_134 x k76 hk76 (S4.1, S4.2.1, (u2 S4.2.2.1 156 v4.toNatClampNeg r3), S4.2.2.2) v2 v3 v4 1 _ _ hm
set_option maxHeartbeats 4000000 in
set_option maxRecDepth 20000 in
theorem bpX11_goesAlong_130_76 (x : XT) (k76 : ST → Int32 → Int32 → Int32 → Option (Unit × ST)) (hk76 : ∀ (S : ST) (v2 : Int32) (v3 : Int32) (v4 : Int32) (r : Unit) (S' : ST), k76 S v2 v3 v4 = some (r, S') → Ev mX11_goesAlong 124 0 0 76 [some (.ref 130), none, some (.int v2), some (.int v3), some (.int v4)] [] (mkS x S) (fun v h => v = none ∧ h = mkS x S')) (S : ST) (v2 : Int32) (v3 : Int32) (v4 : Int32) (r : Unit) (S' : ST) (hm : bfX11_goesAlong_130_76 x k76 S v2 v3 v4 = some (r, S')) : Ev mX11_goesAlong 124 0 0 76 [some (.ref 130), none, some (.int v2), some (.int v3), some (.int v4)] [] (mkS x S) (fun v h => v = none ∧ h = mkS x S') := by
    unfold bfX11_goesAlong_130_76 at hm
    refine Ev.steps tokX11_goesAlong 3 (P := True) (pc' := if v3 ≤ v4 then 143 else 82) (lv' := [some (.ref 130), none, some (.int v2), some (.int v3), some (.int v4)]) (st' := []) (h' := mkS x S) rfl trivial ?_
    refine Ev.ite (fun c1 => ?_) (fun c1 => ?_)
    · rw [if_pos c1] at hm
      refine Ev.steps tokX11_goesAlong 5 (P := True) (pc' := 151) (lv' := [some (.ref 130), none, some (.int v2), some (.int v3), some (.int v4)]) (st' := [.int 26, .ref 130]) (h' := mkS x ((u2 S.1 130 45 1), S.2.1, S.2.2.1, S.2.2.2)) rfl trivial ?_
      cases h2 : gfX11_passes0_130 x ((u2 S.1 130 45 1), S.2.1, S.2.2.1, S.2.2.2) 26 with
      | none => rw [h2] at hm; cases hm
      | some q3 =>
        obtain ⟨r4, S5⟩ := q3
        rw [h2] at hm
        dsimp only at hm
        refine ev_callV (N := mX11_passes0) (d' := 2) (bc := 0) (bs := 0) (bc' := 0) (bs' := 0) (as := [.int 26]) (rest := []) (a := 130) (ci := 11) (dcd tokX11_goesAlong rfl) okX11_passes0 inX11_passes0 seX11_passes0 lk11_315 rfl (by decide) (Nat.le_of_ble_eq_true rfl) rfl ⟨by decide, rfl⟩ (gpX11_passes0_130 x ((u2 S.1 130 45 1), S.2.1, S.2.2.1, S.2.2.2) 26 _ _ h2) (fun v h' hq hn => ?_)
        obtain ⟨rfl, rfl⟩ := hq
        refine Ev.steps tokX11_goesAlong 1 (P := True) (pc' := if r4 = 0 then 184 else 157) (lv' := [some (.ref 130), none, some (.int v2), some (.int v3), some (.int v4)]) (st' := []) (h' := mkS x S5) rfl trivial ?_
        refine Ev.ite (fun c6 => ?_) (fun c6 => ?_)
        · rw [if_pos c6] at hm
          refine Ev.fgt (lv' := [some (.ref 130), none, some (.int v2), none, none]) ⟨rfl, rfl, trivial⟩ ?_
          exact bpX11_goesAlong_130_184 x S5 v2 _ _ hm
        · rw [if_neg c6] at hm
          obtain ⟨o7, hm⟩ := oblk hm
          refine Ev.steps tokX11_goesAlong 15 (P := vp_in (2903 + (S5.1 130 22)) 5703 ∧ True) (pc' := 184) (lv' := [some (.ref 130), none, some (.int v2), some (.int v3), some (.int v4)]) (st' := []) (h' := mkS x ((u2 (u2 S5.1 130 45 (S5.2.1 132 ((2903 + (S5.1 130 22)).toNatClampNeg))) 130 22 ((S5.1 130 22) + 1)), S5.2.1, S5.2.2.1, S5.2.2.2)) rfl ⟨inb_ok o7, trivial⟩ ?_
          refine Ev.fgt (lv' := [some (.ref 130), none, some (.int v2), none, none]) ⟨rfl, rfl, trivial⟩ ?_
          exact bpX11_goesAlong_130_184 x ((u2 (u2 S5.1 130 45 (S5.2.1 132 ((2903 + (S5.1 130 22)).toNatClampNeg))) 130 22 ((S5.1 130 22) + 1)), S5.2.1, S5.2.2.1, S5.2.2.2) v2 _ _ hm
    · rw [if_neg c1] at hm
      refine Ev.steps tokX11_goesAlong 2 (P := True) (pc' := if v4 ≤ 0 then 97 else 87) (lv' := [some (.ref 130), none, some (.int v2), some (.int v3), some (.int v4)]) (st' := []) (h' := mkS x S) rfl trivial ?_
      refine Ev.ite (fun c8 => ?_) (fun c8 => ?_)
      · rw [if_pos c8] at hm
        exact bpX11_goesAlong_130_97 x k76 hk76 S v2 v3 v4 _ _ hm
      · rw [if_neg c8] at hm
        refine Ev.steps tokX11_goesAlong 6 (P := True) (pc' := 97) (lv' := [some (.ref 130), none, some (.int v2), some (.int v3), some (.int v4)]) (st' := []) (h' := mkS x ((u2 S.1 130 22 ((S.1 130 22) + 1)), S.2.1, S.2.2.1, S.2.2.2)) rfl trivial ?_
        exact bpX11_goesAlong_130_97 x k76 hk76 ((u2 S.1 130 22 ((S.1 130 22) + 1)), S.2.1, S.2.2.1, S.2.2.2) v2 v3 v4 _ _ hm
theorem lpX11_goesAlong_130_76 (x : XT)  : ∀ (n : Nat) (S : ST) (v2 : Int32) (v3 : Int32) (v4 : Int32) (r : Unit) (S' : ST), lfX11_goesAlong_130_76 x  n S v2 v3 v4 = some (r, S') → Ev mX11_goesAlong 124 0 0 76 [some (.ref 130), none, some (.int v2), some (.int v3), some (.int v4)] [] (mkS x S) (fun v h => v = none ∧ h = mkS x S')
  | 0, _, _, _, _, _, _, hm => by cases hm
  | n + 1, S, v2, v3, v4, r, S', hm => bpX11_goesAlong_130_76 x (lfX11_goesAlong_130_76 x  n) (lpX11_goesAlong_130_76 x  n) S v2 v3 v4 r S' hm
set_option maxHeartbeats 4000000 in
set_option maxRecDepth 20000 in
theorem bpX11_goesAlong_130_72 (x : XT)  (S : ST) (v2 : Int32) (t0 : Int32) (r : Unit) (S' : ST) (hm : bfX11_goesAlong_130_72 x  S v2 t0 = some (r, S')) : Ev mX11_goesAlong 124 0 0 72 [some (.ref 130), none, some (.int v2), none, none] [.int t0] (mkS x S) (fun v h => v = none ∧ h = mkS x S') := by
    unfold bfX11_goesAlong_130_72 at hm
    refine Ev.steps tokX11_goesAlong 3 (P := True) (pc' := 76) (lv' := [some (.ref 130), none, some (.int v2), some (.int t0), some (.int 0)]) (st' := []) (h' := mkS x S) rfl trivial ?_
    exact lpX11_goesAlong_130_76 x  20000 S v2 t0 0 _ _ hm
set_option maxHeartbeats 4000000 in
set_option maxRecDepth 20000 in
theorem bpX11_goesAlong_130_0 (x : XT)  (S : ST) (p1 : Int32) (p2 : Int32) (r : Unit) (S' : ST) (hm : bfX11_goesAlong_130_0 x  S p1 p2 = some (r, S')) : Ev mX11_goesAlong 124 0 0 0 [some (.ref 130), some (.int p1), some (.int p2), none, none] [] (mkS x S) (fun v h => v = none ∧ h = mkS x S') := by
    unfold bfX11_goesAlong_130_0 at hm
    refine Ev.steps tokX11_goesAlong 14 (P := (1 = 0 ∨ 1 = 1) ∧ True) (pc' := 24) (lv' := [some (.ref 130), some (.int p1), some (.int p2), none, none]) (st' := [.int (S.1 130 44), .ref 130, .ref 130]) (h' := mkS x ((u2 (u2 (u2 S.1 130 25 1) 130 23 p1) 130 22 (S.1 130 44)), S.2.1, S.2.2.1, S.2.2.2)) rfl ⟨Or.inr rfl, trivial⟩ ?_
    cases h1 : gfX11_codeAt_130 x ((u2 (u2 (u2 S.1 130 25 1) 130 23 p1) 130 22 (S.1 130 44)), S.2.1, S.2.2.1, S.2.2.2) (S.1 130 44) with
    | none => rw [h1] at hm; cases hm
    | some q2 =>
      obtain ⟨r3, S4⟩ := q2
      rw [h1] at hm
      dsimp only at hm
      refine ev_callV (N := mX11_codeAt) (d' := 1) (bc := 0) (bs := 0) (bc' := 0) (bs' := 0) (as := [.int (S.1 130 44)]) (rest := [.ref 130]) (a := 130) (ci := 11) (dcd tokX11_goesAlong rfl) okX11_codeAt inX11_codeAt seX11_codeAt lk11_294 rfl (by decide) (Nat.le_of_ble_eq_true rfl) rfl ⟨by decide, rfl⟩ (gpX11_codeAt_130 x ((u2 (u2 (u2 S.1 130 25 1) 130 23 p1) 130 22 (S.1 130 44)), S.2.1, S.2.2.1, S.2.2.2) (S.1 130 44) _ _ h1) (fun v h' hq hn => ?_)
      obtain ⟨rfl, rfl⟩ := hq
      refine Ev.steps tokX11_goesAlong 14 (P := (1 = 0 ∨ 1 = 1) ∧ True) (pc' := if ¬ r3 = 25 then 58 else 54) (lv' := [some (.ref 130), some (.int p1), some (.int p2), none, none]) (st' := []) (h' := mkS x ((u2 (u2 (u2 S4.1 130 46 r3) 130 22 ((S4.1 130 22) + 1)) 130 47 1), S4.2.1, S4.2.2.1, S4.2.2.2)) rfl ⟨Or.inr rfl, trivial⟩ ?_
      refine Ev.ite (fun c5 => ?_) (fun c5 => ?_)
      · rw [if_pos c5] at hm
        refine Ev.steps tokX11_goesAlong 4 (P := True) (pc' := if ¬ r3 = 22 then 71 else 67) (lv' := [some (.ref 130), some (.int p1), some (.int p2), none, none]) (st' := []) (h' := mkS x ((u2 (u2 (u2 S4.1 130 46 r3) 130 22 ((S4.1 130 22) + 1)) 130 47 1), S4.2.1, S4.2.2.1, S4.2.2.2)) rfl trivial ?_
        refine Ev.ite (fun c6 => ?_) (fun c6 => ?_)
        · rw [if_pos c6] at hm
          refine Ev.steps tokX11_goesAlong 1 (P := True) (pc' := 72) (lv' := [some (.ref 130), some (.int p1), some (.int p2), none, none]) (st' := [.int 2]) (h' := mkS x ((u2 (u2 (u2 S4.1 130 46 r3) 130 22 ((S4.1 130 22) + 1)) 130 47 1), S4.2.1, S4.2.2.1, S4.2.2.2)) rfl trivial ?_
          refine Ev.fgt (lv' := [some (.ref 130), none, some (.int p2), none, none]) ⟨rfl, rfl, trivial⟩ ?_
          exact bpX11_goesAlong_130_72 x ((u2 (u2 (u2 S4.1 130 46 r3) 130 22 ((S4.1 130 22) + 1)) 130 47 1), S4.2.1, S4.2.2.1, S4.2.2.2) p2 2 _ _ hm
        · rw [if_neg c6] at hm
          refine Ev.steps tokX11_goesAlong 2 (P := True) (pc' := 72) (lv' := [some (.ref 130), some (.int p1), some (.int p2), none, none]) (st' := [.int 1]) (h' := mkS x ((u2 (u2 (u2 S4.1 130 46 r3) 130 22 ((S4.1 130 22) + 1)) 130 47 1), S4.2.1, S4.2.2.1, S4.2.2.2)) rfl trivial ?_
          refine Ev.fgt (lv' := [some (.ref 130), none, some (.int p2), none, none]) ⟨rfl, rfl, trivial⟩ ?_
          exact bpX11_goesAlong_130_72 x ((u2 (u2 (u2 S4.1 130 46 r3) 130 22 ((S4.1 130 22) + 1)) 130 47 1), S4.2.1, S4.2.2.1, S4.2.2.2) p2 1 _ _ hm
      · rw [if_neg c5] at hm
        refine Ev.steps tokX11_goesAlong 2 (P := True) (pc' := 72) (lv' := [some (.ref 130), some (.int p1), some (.int p2), none, none]) (st' := [.int 0]) (h' := mkS x ((u2 (u2 (u2 S4.1 130 46 r3) 130 22 ((S4.1 130 22) + 1)) 130 47 1), S4.2.1, S4.2.2.1, S4.2.2.2)) rfl trivial ?_
        refine Ev.fgt (lv' := [some (.ref 130), none, some (.int p2), none, none]) ⟨rfl, rfl, trivial⟩ ?_
        exact bpX11_goesAlong_130_72 x ((u2 (u2 (u2 S4.1 130 46 r3) 130 22 ((S4.1 130 22) + 1)) 130 47 1), S4.2.1, S4.2.2.1, S4.2.2.2) p2 0 _ _ hm
theorem gpX11_goesAlong_130 (x : XT) (S : ST) (p1 : Int32) (p2 : Int32) (r : Unit) (S' : ST) (hm : gfX11_goesAlong_130 x S p1 p2 = some (r, S')) : Ct mX11_goesAlong 124 0 0 [.ref 130, .int p1, .int p2] (mkS x S) (fun v h => v = none ∧ h = mkS x S') :=
  Ct.of (lv := [some (.ref 130), some (.int p1), some (.int p2), none, none]) rfl rfl rfl (show (_ : Nat) ≤ _ from Nat.le_of_ble_eq_true rfl) (fun G => rfl) (bpX11_goesAlong_130_0 x S p1 p2 r S' hm)
end MIR
